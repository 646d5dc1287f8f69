section
theorem c_X3_find (l : Launch) (G : th_G) (Γ : th_Ga) (H0 : Heap) (hI : th_I G Γ H0) (hR : th_RC G Γ H0) (a0 : Nat) (h0 : Γ a0 = (12, 0)) (p1 : Int64) : Met l yX3_find (.code yX3_find cX3_find 4 (some FieldType.int) :: th_tb) ({ frames := 1, cells := 0, slots := 0, locals := 24 } : Room) (th_P [.ref a0, .long p1] G H0) (th_Q (fun (v : Option Value) (H1 : Heap) => ∃ r : Int32, v = some (.int r) ∧ (-1) ≤ r.toInt ∧ r.toInt ≤ 16383 ∧ (r.toInt ≠ -1 → p1 ≠ -1 → ∃ v : Int32, th_mv G H0 a0 r.toInt v ∧ th_pm G p1.toInt v.toInt) ∧ H0 = H1) G) 0 0 (fun q => G.1.2.2 ≤ q) := by
  obtain ⟨n, b1, b2, b3, b4, hme⟩ := hR.2.2.1 a0 0 h0
  rcases hme.1.1 with rfl | rfl | rfl
  · exact c_X3_find_10 l G Γ H0 hI a0 h0 p1 b1 b2 b3 b4 hme
  · exact c_X3_find_12 l G Γ H0 hI a0 h0 p1 b1 b2 b3 b4 hme
  · exact c_X3_find_14 l G Γ H0 hI a0 h0 p1 b1 b2 b3 b4 hme

theorem c_X3_slotOfNth (l : Launch) (G : th_G) (Γ : th_Ga) (H0 : Heap) (hI : th_I G Γ H0) (hR : th_RC G Γ H0) (a0 : Nat) (h0 : Γ a0 = (12, 0)) (p1 : Int32) : Met l yX3_slotOfNth (.code yX3_slotOfNth cX3_slotOfNth 2 (some FieldType.int) :: th_tb) ({ frames := 0, cells := 0, slots := 0, locals := 0 } : Room) (th_P [.ref a0, .int p1] G H0) (th_Q (fun (v : Option Value) (H1 : Heap) => ∃ r : Int32, v = some (.int r) ∧ H0 = H1) G) 0 0 (fun q => G.1.2.2 ≤ q) := by
  obtain ⟨n, b1, b2, b3, b4, hme⟩ := hR.2.2.1 a0 0 h0
  rcases hme.1.1 with rfl | rfl | rfl
  · exact c_X3_slotOfNth_10 l G Γ H0 hI a0 h0 p1 b1 b2 b3 b4 hme
  · exact c_X3_slotOfNth_12 l G Γ H0 hI a0 h0 p1 b1 b2 b3 b4 hme
  · exact c_X3_slotOfNth_14 l G Γ H0 hI a0 h0 p1 b1 b2 b3 b4 hme

theorem c_X3_valueIn (l : Launch) (G : th_G) (Γ : th_Ga) (H0 : Heap) (hI : th_I G Γ H0) (hR : th_RC G Γ H0) (a0 : Nat) (h0 : Γ a0 = (12, 0)) (p1 : Int32) : Met l yX3_valueIn (.code yX3_valueIn cX3_valueIn 2 (some FieldType.int) :: th_tb) ({ frames := 0, cells := 0, slots := 0, locals := 0 } : Room) (th_P [.ref a0, .int p1] G H0) (th_Q (fun (v : Option Value) (H1 : Heap) => ∃ r : Int32, v = some (.int r) ∧ (∀ v : Int32, th_mv G H0 a0 p1.toInt v → r = v) ∧ H0 = H1) G) 0 0 (fun q => G.1.2.2 ≤ q) := by
  obtain ⟨n, b1, b2, b3, b4, hme⟩ := hR.2.2.1 a0 0 h0
  rcases hme.1.1 with rfl | rfl | rfl
  · exact c_X3_valueIn_10 l G Γ H0 hI a0 h0 p1 b1 b2 b3 b4 hme
  · exact c_X3_valueIn_12 l G Γ H0 hI a0 h0 p1 b1 b2 b3 b4 hme
  · exact c_X3_valueIn_14 l G Γ H0 hI a0 h0 p1 b1 b2 b3 b4 hme

theorem c_X3_flowIn (l : Launch) (G : th_G) (Γ : th_Ga) (H0 : Heap) (hI : th_I G Γ H0) (hR : th_RC G Γ H0) (a0 : Nat) (h0 : Γ a0 = (12, 0)) (p1 : Int32) : Met l yX3_flowIn (.code yX3_flowIn cX3_flowIn 2 (some FieldType.int) :: th_tb) ({ frames := 0, cells := 0, slots := 0, locals := 0 } : Room) (th_P [.ref a0, .int p1] G H0) (th_Q (fun (v : Option Value) (H1 : Heap) => ∃ r : Int32, v = some (.int r) ∧ H0 = H1) G) 0 0 (fun q => G.1.2.2 ≤ q) := by
  obtain ⟨n, b1, b2, b3, b4, hme⟩ := hR.2.2.1 a0 0 h0
  rcases hme.1.1 with rfl | rfl | rfl
  · exact c_X3_flowIn_10 l G Γ H0 hI a0 h0 p1 b1 b2 b3 b4 hme
  · exact c_X3_flowIn_12 l G Γ H0 hI a0 h0 p1 b1 b2 b3 b4 hme
  · exact c_X3_flowIn_14 l G Γ H0 hI a0 h0 p1 b1 b2 b3 b4 hme

theorem c_X3_keyIn (l : Launch) (G : th_G) (Γ : th_Ga) (H0 : Heap) (hI : th_I G Γ H0) (hR : th_RC G Γ H0) (a0 : Nat) (h0 : Γ a0 = (12, 0)) (p1 : Int32) : Met l yX3_keyIn (.code yX3_keyIn cX3_keyIn 2 (some FieldType.long) :: th_tb) ({ frames := 0, cells := 0, slots := 0, locals := 0 } : Room) (th_P [.ref a0, .int p1] G H0) (th_Q (fun (v : Option Value) (H1 : Heap) => ∃ r : Int64, v = some (.long r) ∧ H0 = H1) G) 0 0 (fun q => G.1.2.2 ≤ q) := by
  obtain ⟨n, b1, b2, b3, b4, hme⟩ := hR.2.2.1 a0 0 h0
  rcases hme.1.1 with rfl | rfl | rfl
  · exact c_X3_keyIn_10 l G Γ H0 hI a0 h0 p1 b1 b2 b3 b4 hme
  · exact c_X3_keyIn_12 l G Γ H0 hI a0 h0 p1 b1 b2 b3 b4 hme
  · exact c_X3_keyIn_14 l G Γ H0 hI a0 h0 p1 b1 b2 b3 b4 hme

theorem c_X3_addFlow (l : Launch) (G : th_G) (Γ : th_Ga) (H0 : Heap) (hI : th_I G Γ H0) (hR : th_RC G Γ H0) (a0 : Nat) (h0 : Γ a0 = (12, 0)) (p1 : Int32) (p2 : Int32) : Met l yX3_addFlow (.code yX3_addFlow cX3_addFlow 3 (none) :: th_tb) ({ frames := 0, cells := 0, slots := 0, locals := 0 } : Room) (th_P [.ref a0, .int p1, .int p2] G H0) (th_Q (fun (v : Option Value) (H1 : Heap) => v = none ∧ th_I G Γ H1 ∧ th_F G Γ [] H0 H1 ∧ th_RC G Γ H1) G) 0 0 (fun q => G.1.2.2 ≤ q) := by
  obtain ⟨n, b1, b2, b3, b4, hme⟩ := hR.2.2.1 a0 0 h0
  rcases hme.1.1 with rfl | rfl | rfl
  · exact c_X3_addFlow_10 l G Γ H0 hI hR a0 h0 p1 p2 b1 b2 b3 b4 hme
  · exact c_X3_addFlow_12 l G Γ H0 hI hR a0 h0 p1 p2 b1 b2 b3 b4 hme
  · exact c_X3_addFlow_14 l G Γ H0 hI hR a0 h0 p1 p2 b1 b2 b3 b4 hme

theorem c_X3_clear (l : Launch) (G : th_G) (Γ : th_Ga) (H0 : Heap) (hI : th_I G Γ H0) (hR : th_RC G Γ H0) (a0 : Nat) (h0 : Γ a0 = (12, 0)) : Met l yX3_clear (.code yX3_clear cX3_clear 2 (none) :: th_tb) ({ frames := 0, cells := 0, slots := 0, locals := 0 } : Room) (th_P [.ref a0] G H0) (th_Q (fun (v : Option Value) (H1 : Heap) => v = none ∧ th_I G Γ H1 ∧ th_F G Γ [(12, 5), (12, 6)] H0 H1 ∧ th_RC G Γ H1 ∧ (th_MZ G Γ H1 a0)) G) 0 0 (fun q => G.1.2.2 ≤ q) := by
  obtain ⟨n, b1, b2, b3, b4, hme⟩ := hR.2.2.1 a0 0 h0
  rcases hme.1.1 with rfl | rfl | rfl
  · exact c_X3_clear_10 l G Γ H0 hI hR a0 h0  b1 b2 b3 b4 hme
  · exact c_X3_clear_12 l G Γ H0 hI hR a0 h0  b1 b2 b3 b4 hme
  · exact c_X3_clear_14 l G Γ H0 hI hR a0 h0  b1 b2 b3 b4 hme
end
section
set_option maxHeartbeats 4000000 in
set_option maxRecDepth 100000 in
theorem c_X7_prepare (l : Launch) (G : th_G) (Γ : th_Ga) (H0 : Heap) (hI : th_I G Γ H0) (hR : th_RC G Γ H0) (hU : dv_U Γ) (a0 : Nat) (h0 : Γ a0 = (27, 0)) (p1 : Nat) (h1 : Γ p1 = (3, 0)) (p2 : Value) (h2 : p2 = .null ∨ ∃ b : Nat, p2 = .ref b ∧ Γ b = (39, 0)) (p3 : Nat) (h3 : Γ p3 = (11, 0)) : Met l yX7_prepare (.code yX7_prepare cX7_prepare 4 (none) :: th_tb) ({ frames := 3, cells := 0, slots := 0, locals := 65 } : Room) (th_P [.ref a0, .ref p1, p2, .ref p3] G H0) (th_Q (fun (v : Option Value) (H1 : Heap) => v = none ∧ th_I G Γ H1 ∧ th_F G Γ [(27, 7), (27, 8), (27, 9), (27, 10), (27, 11), (10, 0)] H0 H1 ∧ th_RC G Γ H1 ∧ (th_sl H1 a0 (G.1.1.2 7 7) = .ref p3) ∧ (th_sl H1 a0 (G.1.1.2 7 8) = .ref p1) ∧ (f_X7_prepare (dv G Γ H0) (a0 : Int) (p1 : Int) (dv_iv p2) (p3 : Int) = (dv G Γ H1, 0))) G) 0 0 (fun q => G.1.2.2 ≤ q) := by
  refine th_met RX7 (by decide) rfl (by rcases h2 with rfl | ⟨b2, rfl, -⟩ <;> exact Nat.le_of_ble_eq_true rfl) ?_
  intro p e s m below meth c hC hH hr hlocks hnm ls hl
  have hx := hC.1
  have hb := hC.2.1
  have hB : th_B G Γ Γ [(27, 7), (27, 8), (27, 9), (27, 10), (27, 11), (10, 0)] H0 H0 [] := ⟨hI, va_S.rf, th_F_rf⟩
  have hl : lv_has ls 4 [(0, .ref a0), (1, .ref p1), (2, p2), (3, .ref p3)] := by clear hB; rcases h2 with rfl | ⟨b2, rfl, -⟩ <;> exact hl
  obtain ⟨F, hF0⟩ : ∃ F, F = f_X7_prepare (dv G Γ H0) ((a0 : Int)) ((p1 : Int)) ((dv_iv p2)) ((p3 : Int)) := ⟨_, rfl⟩
  have hF := hF0.trans (f_X7_prepare.eq_1 (dv G Γ H0) ((a0 : Int)) ((p1 : Int)) ((dv_iv p2)) ((p3 : Int)))
  refine lv_aload_n hx hb gX7_prepare_0.1 rfl (lv_at hl 0 rfl) ?_
  refine lv_aload_n hx hb gX7_prepare_0.2.1 rfl (lv_at hl 1 rfl) ?_
  refine th_put hC cf_X7 hB h0 (Or.inl h0) ro_27 rfl (j := 8) rfl (th_sQ h1) (by decide) rfl rfl rfl kf_X7_38 gX7_prepare_0.2.2.1 (fun H2 locs hB hf hst2 => ?_)
  have hR := th_RC_F hB.1 hR hf (th_T_s h0 ro_27 hst2) (by decide)
  replace hF := hF.trans (dv_bn (dv_putR hB.1 h0 ro_27 (j := 8) rfl (th_apart hC cf_X7) hst2 (by decide)))
  have mm1 := hst2.2.1
  refine lv_aload_n hx hb gX7_prepare_0.2.2.2.1 rfl (lv_at hl 0 rfl) ?_
  refine tr_vload_n hx hb gX7_prepare_0.2.2.2.2.1 rfl (lv_at hl 2 rfl) (tr_qr h2) ?_
  refine th_put hC cf_X7 hB h0 (Or.inl h0) ro_27 rfl (j := 9) rfl (th_sV h2) (by decide) rfl (tr_qn (tr_qr h2)).1 (tr_qn (tr_qr h2)).2 kf_X7_42 gX7_prepare_0.2.2.2.2.2.1 (fun H7 locs hB hf hst7 => ?_)
  have mm2 := (th_F_o hf h0 ro_27 (j := 8) (by decide) (by decide)).trans mm1
  have hR := th_RC_F hB.1 hR hf (th_T_s h0 ro_27 hst7) (by decide)
  replace hF := hF.trans (dv_bn (dv_putQ hB.1 h0 ro_27 (j := 9) rfl (th_apart hC cf_X7) hst7 (by decide)))
  refine lv_aload_n hx hb gX7_prepare_0.2.2.2.2.2.2.1 rfl (lv_at hl 0 rfl) ?_
  refine lv_aload_n hx hb gX7_prepare_0.2.2.2.2.2.2.2 rfl (lv_at hl 3 rfl) ?_
  refine th_put hC cf_X7 hB h0 (Or.inl h0) ro_27 rfl (j := 7) rfl (th_sQ h3) (by decide) rfl rfl rfl kf_X7_46 gX7_prepare_1.1 (fun H12 locs hB hf hst12 => ?_)
  have mm3 := (th_F_o hf h0 ro_27 (j := 8) (by decide) (by decide)).trans mm2
  have hR := th_RC_F hB.1 hR hf (th_T_s h0 ro_27 hst12) (by decide)
  replace hF := hF.trans (dv_bn (dv_putR hB.1 h0 ro_27 (j := 7) rfl (th_apart hC cf_X7) hst12 (by decide)))
  have mm4 := hst12.2.1
  refine lv_aload_n hx hb gX7_prepare_1.2.1 rfl (lv_at hl 0 rfl) ?_
  refine lv_null hx hb gX7_prepare_1.2.2.1 ?_
  refine th_put hC cf_X7 hB h0 (Or.inl h0) ro_27 rfl (j := 10) rfl th_sN (by decide) rfl rfl rfl kf_X7_50 gX7_prepare_1.2.2.2.1 (fun H17 locs hB hf hst17 => ?_)
  have mm5 := (th_F_o hf h0 ro_27 (j := 8) (by decide) (by decide)).trans mm3
  have mm6 := (th_F_o hf h0 ro_27 (j := 7) (by decide) (by decide)).trans mm4
  have hR := th_RC_F hB.1 hR hf (th_T_s h0 ro_27 hst17) (by decide)
  replace hF := hF.trans (dv_bn (dv_putN hB.1 h0 ro_27 (j := 10) rfl (th_apart hC cf_X7) hst17 (by decide)))
  refine lv_aload_n hx hb gX7_prepare_1.2.2.2.2.1 rfl (lv_at hl 0 rfl) ?_
  refine th_getK hC cf_X7 hB.1 h0 ro_27 rfl (j := 8) (by decide) mm5 kf_X7_38 gX7_prepare_1.2.2.2.2.2.1 ?_
  replace hF := hF.trans (dv_bn (dv_getR h0 ro_27 (j := 8) rfl mm5 (by decide)))
  refine th_call (th_runV (As := []) (rest := []) hC mf_X1_drawRows km_X7_54 im_X1_drawRows se_X1_drawRows (c_X1_drawRows l G Γ H17 hB.1 hR hU p1 h1) rfl rfl ⟨Nat.le_of_ble_eq_true rfl, Nat.le_of_ble_eq_true rfl⟩ hB.1 h1 ro_3 rfl rfl hl.1 rfl (Nat.le_of_ble_eq_true rfl) gX7_prepare_1.2.2.2.2.2.2.1 ⟨Nat.le_refl _, Nat.le_refl _⟩) hB.2.1 (fun v24 H24 locs hp hz hS => ?_)
  obtain ⟨rfl, hI1, hf, hR, z24_0⟩ := hp
  have hB := th_B_c hB hI1 hS hf (by decide)
  have mm7 := (th_F_o hf h0 ro_27 (j := 8) (by decide) (by decide)).trans mm5
  have mm8 := (th_F_o hf h0 ro_27 (j := 7) (by decide) (by decide)).trans mm6
  replace hF := hF.trans (dv_bn2 (z24_0))
  refine W.eq (g2 := F0 m 27 ls []) rfl ?_
  refine lv_aload_n hx hb gX7_prepare_1.2.2.2.2.2.2.2 rfl (lv_at hl 0 rfl) ?_
  refine lv_aload_n hx hb gX7_prepare_2.1 rfl (lv_at hl 0 rfl) ?_
  refine th_getK hC cf_X7 hB.1 h0 ro_27 rfl (j := 8) (by decide) mm7 kf_X7_38 gX7_prepare_2.2.1 ?_
  replace hF := hF.trans (dv_bn (dv_getR h0 ro_27 (j := 8) rfl mm7 (by decide)))
  refine th_call (th_runV (As := []) (rest := [.ref a0]) hC mf_X1_bareCells km_X7_59 im_X1_bareCells se_X1_bareCells (c_X1_bareCells l G Γ H24 hB.1 hU p1 h1) rfl rfl ⟨Nat.le_of_ble_eq_true rfl, Nat.le_of_ble_eq_true rfl⟩ hB.1 h1 ro_3 rfl rfl hl.1 rfl (Nat.le_of_ble_eq_true rfl) gX7_prepare_2.2.2.1 ⟨Nat.le_refl _, Nat.le_refl _⟩) hB.2.1 (fun v32 H32 locs hp hz hS => ?_)
  obtain ⟨x9, rfl, q32_0, rfl⟩ := hp
  have hB := th_B_s hB hS
  replace hF := hF.trans (dv_bn2 (q32_0))
  refine W.eq (g2 := F0 m 35 ls [.int x9, .ref a0]) rfl ?_
  refine th_put hC cf_X7 hB h0 (Or.inl h0) ro_27 rfl (j := 11) rfl th_sIa (by decide) rfl rfl rfl kf_X7_63 gX7_prepare_2.2.2.2.1 (fun H35 locs hB hf hst35 => ?_)
  have mm10 := (th_F_o hf h0 ro_27 (j := 8) (by decide) (by decide)).trans mm7
  have mm11 := (th_F_o hf h0 ro_27 (j := 7) (by decide) (by decide)).trans mm8
  have hR := th_RC_F hB.1 hR hf (th_T_s h0 ro_27 hst35) (by decide)
  replace hF := hF.trans (dv_bn (dv_putI hB.1 h0 ro_27 (j := 11) rfl (th_apart hC cf_X7) hst35 (Eq.refl _) (by decide)))
  exact th_vret hC hH hr hlocks hB.2.1 ⟨rfl, hB.1, hB.2.2, hR, mm11, mm10, (hF0.symm.trans hF)⟩ gX7_prepare_2.2.2.2.2

set_option maxHeartbeats 4000000 in
set_option maxRecDepth 100000 in
theorem c_X7_rowLength (l : Launch) (G : th_G) (Γ : th_Ga) (H0 : Heap) (hI : th_I G Γ H0) (hU : dv_U Γ) (a0 : Nat) (h0 : Γ a0 = (27, 0)) : Met l yX7_rowLength (.code yX7_rowLength cX7_rowLength 1 (some FieldType.int) :: th_tb) ({ frames := 0, cells := 0, slots := 0, locals := 0 } : Room) (th_P [.ref a0] G H0) (th_Q (fun (v : Option Value) (H1 : Heap) => ∃ r : Int32, v = some (.int r) ∧ (f_X7_rowLength (dv G Γ H0) (a0 : Int) = (r.toInt, ())) ∧ H0 = H1) G) 0 0 (fun q => G.1.2.2 ≤ q) := by
  refine th_met RX7 (by decide) rfl (Nat.le_of_ble_eq_true rfl) ?_
  intro p e s m below meth c hC hH hr hlocks hnm ls hl
  have hx := hC.1
  have hb := hC.2.1
  have hB : th_B G Γ Γ [] H0 H0 [] := ⟨hI, va_S.rf, th_F_rf⟩
  have hl : lv_has ls 1 [(0, .ref a0)] := hl
  obtain ⟨F, hF0⟩ : ∃ F, F = f_X7_rowLength (dv G Γ H0) ((a0 : Int)) := ⟨_, rfl⟩
  have hF := hF0.trans (f_X7_rowLength.eq_1 (dv G Γ H0) ((a0 : Int)))
  refine lv_aload_n hx hb gX7_rowLength_0.1 rfl (lv_at hl 0 rfl) ?_
  refine th_getI (j := 5) hC cf_X7 hB.1 h0 ro_27 rfl rfl kf_X7_31 gX7_rowLength_0.2.1 (fun x1 mx1 lx1 ux1 => ?_)
  replace hF := hF.trans (dv_bn (dv_getI h0 ro_27 (j := 5) rfl mx1 (by decide)))
  exact th_iret hC hH hr hlocks rfl hB.2.1 ⟨_, rfl, (hF0.symm.trans hF), rfl⟩ gX7_rowLength_0.2.2

set_option maxHeartbeats 4000000 in
set_option maxRecDepth 100000 in
theorem c_X7_rowCarpet (l : Launch) (G : th_G) (Γ : th_Ga) (H0 : Heap) (hI : th_I G Γ H0) (hU : dv_U Γ) (a0 : Nat) (h0 : Γ a0 = (27, 0)) (p1 : Int32) : Met l yX7_rowCarpet (.code yX7_rowCarpet cX7_rowCarpet 2 (some FieldType.int) :: th_tb) ({ frames := 0, cells := 0, slots := 0, locals := 0 } : Room) (th_P [.ref a0, .int p1] G H0) (th_Q (fun (v : Option Value) (H1 : Heap) => ∃ r : Int32, v = some (.int r) ∧ (f_X7_rowCarpet (dv G Γ H0) (a0 : Int) p1.toInt = (r.toInt, ())) ∧ H0 = H1) G) 0 0 (fun q => G.1.2.2 ≤ q) := by
  refine th_met RX7 (by decide) rfl (Nat.le_of_ble_eq_true rfl) ?_
  intro p e s m below meth c hC hH hr hlocks hnm ls hl
  have hx := hC.1
  have hb := hC.2.1
  have hB : th_B G Γ Γ [] H0 H0 [] := ⟨hI, va_S.rf, th_F_rf⟩
  have hl : lv_has ls 2 [(0, .ref a0), (1, .int p1)] := hl
  have lp1 := ti_lo p1; have up1 := ti_hi p1
  obtain ⟨F, hF0⟩ : ∃ F, F = f_X7_rowCarpet (dv G Γ H0) ((a0 : Int)) (p1.toInt) := ⟨_, rfl⟩
  have hF := hF0.trans (f_X7_rowCarpet.eq_1 (dv G Γ H0) ((a0 : Int)) (p1.toInt))
  refine lv_iload_n hx hb gX7_rowCarpet_0.1 rfl (lv_at hl 1 rfl) ?_
  refine tr_if_lt (tgt := 30) hx hb gX7_rowCarpet_0.2.1 (by decide) (Eq.refl _) (fun c1 => ?_) (fun c1 => ?_)
  · replace hF := hF.trans (if_pos c1)
    refine lv_iconst (v := (-1)) hx hb gX7_rowCarpet_2.1 (by decide) ?_
    exact th_iret hC hH hr hlocks rfl hB.2.1 ⟨_, rfl, (hF0.symm.trans (hF.trans (by rw [tk_m1]))), rfl⟩ gX7_rowCarpet_2.2
  · replace hF := hF.trans (if_neg (Int.not_lt.mpr c1))
    refine lv_iload_n hx hb gX7_rowCarpet_0.2.2.1 rfl (lv_at hl 1 rfl) ?_
    refine lv_aload_n hx hb gX7_rowCarpet_0.2.2.2.1 rfl (lv_at hl 0 rfl) ?_
    refine th_getI (j := 5) hC cf_X7 hB.1 h0 ro_27 rfl rfl kf_X7_31 gX7_rowCarpet_0.2.2.2.2.1 (fun x1 mx1 lx1 ux1 => ?_)
    replace hF := hF.trans (dv_bn (dv_getI h0 ro_27 (j := 5) rfl mx1 (by decide)))
    refine tr_icmp_ge (tgt := 30) hx hb gX7_rowCarpet_0.2.2.2.2.2.1 (by decide) (Eq.refl _) (Eq.refl _) (fun c9 => ?_) (fun c9 => ?_)
    · replace hF := hF.trans (if_pos c9)
      refine lv_iconst (v := (-1)) hx hb gX7_rowCarpet_2.1 (by decide) ?_
      exact th_iret hC hH hr hlocks rfl hB.2.1 ⟨_, rfl, (hF0.symm.trans (hF.trans (by rw [tk_m1]))), rfl⟩ gX7_rowCarpet_2.2
    · replace hF := hF.trans (if_neg (Int.not_le.mpr c9))
      refine lv_iload_n hx hb gX7_rowCarpet_0.2.2.2.2.2.2.1 rfl (lv_at hl 1 rfl) ?_
      refine lv_aload_n hx hb gX7_rowCarpet_0.2.2.2.2.2.2.2 rfl (lv_at hl 0 rfl) ?_
      refine th_getO (j := 4) (r2 := 31) hC cf_X7 hB.1 h0 ro_27 rfl rfl kf_X7_28 gX7_rowCarpet_1.1 (fun b2 mb2 hb2 => ?_)
      refine th_alen hC hB.1 hb2 ro_31 rfl (by decide) gX7_rowCarpet_1.2.1 (fun x3 ex3 lx3 ux3 => ?_)
      replace hF := hF.trans (dv_bn ((show (9 : Int) = x3.toInt from by omega)))
      refine tr_icmp_ge (tgt := 30) hx hb gX7_rowCarpet_1.2.2.1 (by decide) (Eq.refl _) (Eq.refl _) (fun c18 => ?_) (fun c18 => ?_)
      · replace hF := hF.trans (if_pos c18)
        refine lv_iconst (v := (-1)) hx hb gX7_rowCarpet_2.1 (by decide) ?_
        exact th_iret hC hH hr hlocks rfl hB.2.1 ⟨_, rfl, (hF0.symm.trans (hF.trans (by rw [tk_m1]))), rfl⟩ gX7_rowCarpet_2.2
      · replace hF := hF.trans (if_neg (Int.not_le.mpr c18))
        refine lv_aload_n hx hb gX7_rowCarpet_1.2.2.2.1 rfl (lv_at hl 0 rfl) ?_
        refine th_getK hC cf_X7 hB.1 h0 ro_27 rfl (j := 4) (by decide) mb2 kf_X7_28 gX7_rowCarpet_1.2.2.2.2.1 ?_
        refine lv_iload_n hx hb gX7_rowCarpet_1.2.2.2.2.2.1 rfl (lv_at hl 1 rfl) ?_
        refine th_ialdF hC hB.1 hb2 ro_31 rfl (Eq.refl _) (by omega) (by omega) rfl gX7_rowCarpet_1.2.2.2.2.2.2.1 (fun x4 mx4 lx4 ux4 => ?_)
        replace hF := hF.trans (dv_bn (dv_aldI hB.1 hU hb2 ow_31 (z := p1.toInt) mx4 (by omega)))
        refine lv_goto (tgt := 31) hx hb gX7_rowCarpet_1.2.2.2.2.2.2.2 (by decide) ?_
        exact th_iret hC hH hr hlocks rfl hB.2.1 ⟨_, rfl, (hF0.symm.trans hF), rfl⟩ gX7_rowCarpet_2.2

set_option maxHeartbeats 4000000 in
set_option maxRecDepth 100000 in
theorem c_X7_areaReady (l : Launch) (G : th_G) (Γ : th_Ga) (H0 : Heap) (hI : th_I G Γ H0) (hU : dv_U Γ) (a0 : Nat) (h0 : Γ a0 = (27, 0)) (nn8 : ∃ b : Nat, th_sl H0 a0 (G.1.1.2 7 8) = .ref b ∧ Γ b = (3, 0)) : Met l yX7_areaReady (.code yX7_areaReady cX7_areaReady 3 (some FieldType.int) :: th_tb) ({ frames := 2, cells := 0, slots := 0, locals := 42 } : Room) (th_P [.ref a0] G H0) (th_Q (fun (v : Option Value) (H1 : Heap) => ∃ r : Int32, v = some (.int r) ∧ (f_X7_areaReady (dv G Γ H0) (a0 : Int) = (r.toInt, ())) ∧ H0 = H1) G) 0 0 (fun q => G.1.2.2 ≤ q) := by
  refine th_met RX7 (by decide) rfl (Nat.le_of_ble_eq_true rfl) ?_
  intro p e s m below meth c hC hH hr hlocks hnm ls hl
  have hx := hC.1
  have hb := hC.2.1
  have hB : th_B G Γ Γ [] H0 H0 [] := ⟨hI, va_S.rf, th_F_rf⟩
  have hl : lv_has ls 3 [(0, .ref a0)] := hl
  obtain ⟨bn8, mbn8, hbn8⟩ := nn8
  obtain ⟨F, hF0⟩ : ∃ F, F = f_X7_areaReady (dv G Γ H0) ((a0 : Int)) := ⟨_, rfl⟩
  have hF := hF0.trans (f_X7_areaReady.eq_1 (dv G Γ H0) ((a0 : Int)))
  refine lv_iconst (v := 0) hx hb gX7_areaReady_0.1 (by decide) ?_
  refine lv_istore_n (lv' := [(1, .int 0), (0, .ref a0)]) hx hb gX7_areaReady_0.2.1 rfl hl (by decide) rfl (fun ls hl => ?_)
  refine lv_iconst (v := 0) hx hb gX7_areaReady_0.2.2.1 (by decide) ?_
  refine lv_istore_n (lv' := [(2, .int 0), (1, .int 0), (0, .ref a0)]) hx hb gX7_areaReady_0.2.2.2.1 rfl hl (by decide) rfl (fun ls hl => ?_)
  have lp4 : ∀ (n4 : Nat) (locs : List Loc) (ls : Array Slot) (j4_1 : Int32) (j4_2 : Int32), th_B G Γ Γ [] H0 H0 locs → lv_has ls 3 [(0, .ref a0), (1, .int j4_1), (2, .int j4_2)] → F = dv_lp f_X7_areaReady_4b (dv G Γ H0, (a0 : Int), j4_1.toInt, j4_2.toInt) → 0 ≤ j4_2.toInt → j4_2.toInt ≤ 9 → (2147483648 : Int) - j4_2.toInt ≤ (n4 : Int) → W p l e ({ frames := 2, cells := 0, slots := 0, locals := 42 } : Room) s m ([.ref a0] : List Value).toArray below meth c H0 locs 0 0 (MQ below (th_Q (fun (v : Option Value) (H1 : Heap) => ∃ r : Int32, v = some (.int r) ∧ (f_X7_areaReady (dv G Γ H0) (a0 : Int) = (r.toInt, ())) ∧ H0 = H1) G) ([.ref a0] : List Value).toArray s 0 0 (fun q => G.1.2.2 ≤ q)) (F0 m 4 ls []) := by
    intro n4
    induction n4 with
    | zero => intro locs ls j4_1 j4_2 hB hl hF g4_0 g4_1 hm4; exact absurd hm4 (by have := ti_hi j4_2; omega)
    | succ n4 ih4 =>
      intro locs ls j4_1 j4_2 hB hl hF g4_0 g4_1 hm4
      have lj4_1 := ti_lo j4_1; have uj4_1 := ti_hi j4_1
      have lj4_2 := ti_lo j4_2; have uj4_2 := ti_hi j4_2
      have hm4 : (2147483648 : Int) - j4_2.toInt ≤ (n4 : Int) + 1 := by omega
      replace hF := hF.trans (dv_lp_eq)
      replace hF := hF.trans (congrArg (dv_k f_X7_areaReady_4b) (f_X7_areaReady_4c.eq_1 (dv G Γ H0) ((a0 : Int)) (j4_1.toInt) (j4_2.toInt)))
      refine lv_iload_n hx hb gX7_areaReady_0.2.2.2.2.1 rfl (lv_at hl 2 rfl) ?_
      refine lv_aload_n hx hb gX7_areaReady_0.2.2.2.2.2.1 rfl (lv_at hl 0 rfl) ?_
      refine th_getK hC cf_X7 hB.1 h0 ro_27 rfl (j := 8) (by decide) mbn8 kf_X7_38 gX7_areaReady_0.2.2.2.2.2.2.1 ?_
      replace hF := hF.trans (congrArg (dv_k f_X7_areaReady_4b) (dv_bn (dv_getR h0 ro_27 (j := 8) rfl mbn8 (by decide))))
      refine th_getI (j := 7) hC cf_X1 hB.1 hbn8 ro_3 rfl rfl kf_X7_123 gX7_areaReady_0.2.2.2.2.2.2.2 (fun x1 mx1 lx1 ux1 => ?_)
      replace hF := hF.trans (congrArg (dv_k f_X7_areaReady_4b) (dv_bn (dv_getI hbn8 ro_3 (j := 7) rfl mx1 (by decide))))
      refine tr_icmp_ge (tgt := 58) hx hb gX7_areaReady_1.1 (by decide) (Eq.refl _) (Eq.refl _) (fun c12 => ?_) (fun c12 => ?_)
      · replace hF := hF.trans (congrArg (dv_k f_X7_areaReady_4b) (if_pos c12))
        refine lv_iload_n hx hb gX7_areaReady_4.1 rfl (lv_at hl 1 rfl) ?_
        replace hF := hF.trans (dv_kr)
        exact th_iret hC hH hr hlocks rfl hB.2.1 ⟨_, rfl, (hF0.symm.trans hF), rfl⟩ gX7_areaReady_4.2
      · replace hF := hF.trans (congrArg (dv_k f_X7_areaReady_4b) (if_neg (Int.not_le.mpr c12)))
        refine lv_iload_n hx hb gX7_areaReady_1.2.1 rfl (lv_at hl 1 rfl) ?_
        refine lv_aload_n hx hb gX7_areaReady_1.2.2.1 rfl (lv_at hl 0 rfl) ?_
        refine th_getK hC cf_X7 hB.1 h0 ro_27 rfl (j := 8) (by decide) mbn8 kf_X7_38 gX7_areaReady_1.2.2.2.1 ?_
        replace hF := hF.trans (congrArg (dv_k f_X7_areaReady_4b) (dv_bn (dv_getR h0 ro_27 (j := 8) rfl mbn8 (by decide))))
        refine lv_iload_n hx hb gX7_areaReady_1.2.2.2.2.1 rfl (lv_at hl 2 rfl) ?_
        refine th_call (th_runV (As := [.int j4_2]) (rest := [.int j4_1]) hC mf_X1_isReady km_X7_141 im_X1_isReady se_X1_isReady (c_X1_isReady l G Γ H0 hB.1 hU bn8 hbn8 j4_2) rfl rfl ⟨Nat.le_of_ble_eq_true rfl, Nat.le_of_ble_eq_true rfl⟩ hB.1 hbn8 ro_3 rfl rfl hl.1 rfl (Nat.le_of_ble_eq_true rfl) gX7_areaReady_1.2.2.2.2.2.1 ⟨Nat.le_refl _, Nat.le_refl _⟩) hB.2.1 (fun v21 H21 locs hp hz hS => ?_)
        obtain ⟨x2, rfl, lx2, ux2, q21_0, q21_1, rfl⟩ := hp
        have hB := th_B_s hB hS
        replace hF := hF.trans (congrArg (dv_k f_X7_areaReady_4b) (dv_bn2 (q21_1)))
        refine W.eq (g2 := F0 m 24 ls [.int x2, .int j4_1]) rfl ?_
        have jn50 : ∀ (locs : List Loc) (ls : Array Slot) (s50_1 : Int32), th_B G Γ Γ [] H0 H0 locs → lv_has ls 3 [(0, .ref a0), (2, .int j4_2)] → F = dv_k f_X7_areaReady_4b (f_X7_areaReady_50 (dv G Γ H0) ((a0 : Int)) (j4_2.toInt) (j4_1.toInt) (s50_1.toInt)) → 0 ≤ s50_1.toInt → s50_1.toInt ≤ 144 → W p l e ({ frames := 2, cells := 0, slots := 0, locals := 42 } : Room) s m ([.ref a0] : List Value).toArray below meth c H0 locs 0 0 (MQ below (th_Q (fun (v : Option Value) (H1 : Heap) => ∃ r : Int32, v = some (.int r) ∧ (f_X7_areaReady (dv G Γ H0) (a0 : Int) = (r.toInt, ())) ∧ H0 = H1) G) ([.ref a0] : List Value).toArray s 0 0 (fun q => G.1.2.2 ≤ q)) (F0 m 50 ls [.int s50_1, .int j4_1]) := by
          intro locs ls s50_1 hB hl hF g50_0 g50_1
          have ls50_1 := ti_lo s50_1; have us50_1 := ti_hi s50_1
          replace hF := hF.trans (congrArg (dv_k f_X7_areaReady_4b) (f_X7_areaReady_50.eq_1 (dv G Γ H0) ((a0 : Int)) (j4_2.toInt) (j4_1.toInt) (s50_1.toInt)))
          refine lv_iadd hx hb gX7_areaReady_3.2.2.2.2.1 ?_
          refine lv_topi (fun x3 ex3 => ?_)
          have lx3 := ti_lo x3; have ux3 := ti_hi x3
          replace hF := hF.trans (congrArg (dv_k f_X7_areaReady_4b) (dv_bn (dv_add_e (Eq.refl _) (Eq.refl _) ex3)))
          refine lv_istore_n (lv' := [(1, .int x3), (0, .ref a0), (2, .int j4_2)]) hx hb gX7_areaReady_3.2.2.2.2.2.1 rfl hl (by decide) rfl (fun ls hl => ?_)
          refine tr_iinc (fun x4 => [(2, .int x4), (1, .int x3), (0, .ref a0)]) hx hb gX7_areaReady_3.2.2.2.2.2.2.1 hl (k := 2) rfl (Eq.refl _) tk_1 (by omega) (by omega) (by decide) (fun _ => rfl) (fun x4 ls ex4 hl => ?_)
          replace hF := hF.trans (congrArg (dv_k f_X7_areaReady_4b) (dv_bn (ex4.symm)))
          refine lv_goto (tgt := 4) hx hb gX7_areaReady_3.2.2.2.2.2.2.2 (by decide) ?_
          replace hF := hF.trans (dv_kl)
          exact ih4 locs ls x3 x4 hB (lv_sub hl [2, 1, 0] rfl) hF (by omega) (by omega) (by omega)
        refine tr_if_eq (tgt := 49) hx hb gX7_areaReady_1.2.2.2.2.2.2.1 (by decide) (Eq.refl _) (fun c24 => ?_) (fun c24 => ?_)
        · replace hF := hF.trans (congrArg (dv_k f_X7_areaReady_4b) (if_pos c24))
          refine lv_iconst (v := 0) hx hb gX7_areaReady_3.2.2.2.1 (by decide) ?_
          exact jn50 locs ls 0 hB (lv_sub hl [0, 2] rfl) (by rw [tk_0]; exact hF) (by decide) (by decide)
        · replace hF := hF.trans (congrArg (dv_k f_X7_areaReady_4b) (if_neg c24))
          refine lv_aload_n hx hb gX7_areaReady_1.2.2.2.2.2.2.2 rfl (lv_at hl 0 rfl) ?_
          refine th_getK hC cf_X7 hB.1 h0 ro_27 rfl (j := 8) (by decide) mbn8 kf_X7_38 gX7_areaReady_2.1 ?_
          replace hF := hF.trans (congrArg (dv_k f_X7_areaReady_4b) (dv_bn (dv_getR h0 ro_27 (j := 8) rfl mbn8 (by decide))))
          refine th_getO (j := 0) (r2 := 4) hC cf_X1 hB.1 hbn8 ro_3 rfl rfl kf_X7_87 gX7_areaReady_2.2.1 (fun b5 mb5 hb5 => ?_)
          refine lv_iload_n hx hb gX7_areaReady_2.2.2.1 rfl (lv_at hl 2 rfl) ?_
          refine th_ialdF hC hB.1 hb5 ro_4 rfl (Eq.refl _) (by omega) (by omega) rfl gX7_areaReady_2.2.2.2.1 (fun x6 mx6 lx6 ux6 => ?_)
          replace hF := hF.trans (congrArg (dv_k f_X7_areaReady_4b) (dv_bn (dv_aldI hB.1 hU hb5 ow_4 (z := j4_2.toInt) mx6 (by omega))))
          refine lv_aload_n hx hb gX7_areaReady_2.2.2.2.2.1 rfl (lv_at hl 0 rfl) ?_
          refine th_getK hC cf_X7 hB.1 h0 ro_27 rfl (j := 8) (by decide) mbn8 kf_X7_38 gX7_areaReady_2.2.2.2.2.2.1 ?_
          replace hF := hF.trans (congrArg (dv_k f_X7_areaReady_4b) (dv_bn (dv_getR h0 ro_27 (j := 8) rfl mbn8 (by decide))))
          refine th_getK hC cf_X1 hB.1 hbn8 ro_3 rfl (j := 0) (by decide) mb5 kf_X7_87 gX7_areaReady_2.2.2.2.2.2.2.1 ?_
          refine lv_iload_n hx hb gX7_areaReady_2.2.2.2.2.2.2.2 rfl (lv_at hl 2 rfl) ?_
          refine th_ialdF hC hB.1 hb5 ro_4 rfl (Eq.refl _) (by omega) (by omega) rfl gX7_areaReady_3.1 (fun x7 mx7 lx7 ux7 => ?_)
          replace hF := hF.trans (congrArg (dv_k f_X7_areaReady_4b) (dv_bn (dv_aldI hB.1 hU hb5 ow_4 (z := j4_2.toInt) mx7 (by omega))))
          have qx7 : x7.toInt = x6.toInt := by rw [show x7 = x6 from Value.int.inj (mx7.symm.trans mx6)]
          have q9 := ti_mulr (a := x6.toInt) (b := x7.toInt) (A := 12) (B := 12) (by omega) (by omega) (by omega) (by omega)
          generalize hex8 : x6.toInt * x7.toInt = wx8 at q9
          refine tr_imul hx hb gX7_areaReady_3.2.1 (Eq.refl _) (Eq.refl _) (by rw [hex8]; omega) (by rw [hex8]; omega) (fun x8 ex8 => ?_)
          rw [hex8] at ex8
          replace hF := hF.trans (congrArg (dv_k f_X7_areaReady_4b) (dv_bn (hex8.trans ex8.symm)))
          refine lv_goto (tgt := 50) hx hb gX7_areaReady_3.2.2.1 (by decide) ?_
          exact jn50 locs ls x8 hB (lv_sub hl [0, 2] rfl) hF (by omega) (by omega)
  exact lp4 ((2147483648 : Int) - (0)).toNat [] ls 0 0 hB (lv_sub hl [2, 1, 0] rfl) (by rw [tk_0]; exact hF) (by decide) (by decide) (by have w0 := tk_0; omega)

set_option maxHeartbeats 4000000 in
set_option maxRecDepth 100000 in
theorem c_X7_isBare (l : Launch) (G : th_G) (Γ : th_Ga) (H0 : Heap) (hI : th_I G Γ H0) (hU : dv_U Γ) (a0 : Nat) (h0 : Γ a0 = (27, 0)) (p1 : Int64) (p2 : Int32) (f2 : 0 ≤ p2.toInt) (g2 : p2.toInt ≤ 143) (nn8 : ∃ b : Nat, th_sl H0 a0 (G.1.1.2 7 8) = .ref b ∧ Γ b = (3, 0)) : Met l yX7_isBare (.code yX7_isBare cX7_isBare 6 (some FieldType.boolean) :: th_tb) ({ frames := 0, cells := 0, slots := 0, locals := 0 } : Room) (th_P [.ref a0, .long p1, .int p2] G H0) (th_Q (fun (v : Option Value) (H1 : Heap) => ∃ r : Int32, v = some (.int r) ∧ 0 ≤ r.toInt ∧ r.toInt ≤ 1 ∧ (f_X7_isBare (dv G Γ H0) (a0 : Int) p1.toInt p2.toInt = (r.toInt, ())) ∧ H0 = H1) G) 0 0 (fun q => G.1.2.2 ≤ q) := by
  refine th_met RX7 (by decide) rfl (Nat.le_of_ble_eq_true rfl) ?_
  intro p e s m below meth c hC hH hr hlocks hnm ls hl
  have hx := hC.1
  have hb := hC.2.1
  have hB : th_B G Γ Γ [] H0 H0 [] := ⟨hI, va_S.rf, th_F_rf⟩
  have hl : lv_has ls 6 [(0, .ref a0), (1, .long p1), (3, .int p2)] := hl
  have lp2 := ti_lo p2; have up2 := ti_hi p2
  obtain ⟨bn8, mbn8, hbn8⟩ := nn8
  obtain ⟨F, hF0⟩ : ∃ F, F = f_X7_isBare (dv G Γ H0) ((a0 : Int)) (p1.toInt) (p2.toInt) := ⟨_, rfl⟩
  have hF := hF0.trans (f_X7_isBare.eq_1 (dv G Γ H0) ((a0 : Int)) (p1.toInt) (p2.toInt))
  refine lv_iload_n hx hb gX7_isBare_0.1 rfl (lv_at hl 2 rfl) ?_
  refine lv_bipush (v := 12) hx hb gX7_isBare_0.2.1 (by decide) ?_
  refine tr_irem hx hb gX7_isBare_0.2.2.1 (Eq.refl _) tk_12 (by omega) (by omega) (fun x1 ex1 => ?_)
  replace hF := hF.trans (dv_bn (ex1.symm))
  refine lv_istore (lv' := [(4, .int x1), (0, .ref a0), (1, .long p1), (3, .int p2)]) hx hb gX7_isBare_0.2.2.2.1 hl (by decide) rfl (fun ls hl => ?_)
  refine lv_iload_n hx hb gX7_isBare_0.2.2.2.2.1 rfl (lv_at hl 3 rfl) ?_
  refine lv_bipush (v := 12) hx hb gX7_isBare_0.2.2.2.2.2.1 (by decide) ?_
  refine tr_idiv hx hb gX7_isBare_0.2.2.2.2.2.2.1 (Eq.refl _) tk_12 (by omega) (by omega) (fun x2 ex2 => ?_)
  replace hF := hF.trans (dv_bn (ex2.symm))
  refine lv_istore (lv' := [(5, .int x2), (4, .int x1), (0, .ref a0), (1, .long p1), (3, .int p2)]) hx hb gX7_isBare_0.2.2.2.2.2.2.2 hl (by decide) rfl (fun ls hl => ?_)
  refine lv_iload hx hb gX7_isBare_1.1 (lv_at hl 1 rfl) ?_
  refine lv_aload_n hx hb gX7_isBare_1.2.1 rfl (lv_at hl 2 rfl) ?_
  refine th_getK hC cf_X7 hB.1 h0 ro_27 rfl (j := 8) (by decide) mbn8 kf_X7_38 gX7_isBare_1.2.2.1 ?_
  replace hF := hF.trans (dv_bn (dv_getR h0 ro_27 (j := 8) rfl mbn8 (by decide)))
  refine th_getI (j := 8) hC cf_X1 hB.1 hbn8 ro_3 rfl rfl kf_X7_74 gX7_isBare_1.2.2.2.1 (fun x3 mx3 lx3 ux3 => ?_)
  replace hF := hF.trans (dv_bn (dv_getI hbn8 ro_3 (j := 8) rfl mx3 (by decide)))
  refine tr_icmp_ge (tgt := 75) hx hb gX7_isBare_1.2.2.2.2.1 (by decide) (Eq.refl _) (Eq.refl _) (fun c21 => ?_) (fun c21 => ?_)
  · replace hF := hF.trans (if_pos c21)
    refine lv_iconst (v := 0) hx hb gX7_isBare_5.2.1 (by decide) ?_
    exact th_iret hC hH hr hlocks narrow_b0 hB.2.1 ⟨_, rfl, by decide, by decide, (hF0.symm.trans (hF.trans (by rw [tk_0]))), rfl⟩ gX7_isBare_5.2.2
  · replace hF := hF.trans (if_neg (Int.not_le.mpr c21))
    refine lv_iload hx hb gX7_isBare_1.2.2.2.2.2.1 (lv_at hl 0 rfl) ?_
    refine lv_aload_n hx hb gX7_isBare_1.2.2.2.2.2.2.1 rfl (lv_at hl 2 rfl) ?_
    refine th_getK hC cf_X7 hB.1 h0 ro_27 rfl (j := 8) (by decide) mbn8 kf_X7_38 gX7_isBare_1.2.2.2.2.2.2.2 ?_
    replace hF := hF.trans (dv_bn (dv_getR h0 ro_27 (j := 8) rfl mbn8 (by decide)))
    refine th_getI (j := 9) hC cf_X1 hB.1 hbn8 ro_3 rfl rfl kf_X7_80 gX7_isBare_2.1 (fun x4 mx4 lx4 ux4 => ?_)
    replace hF := hF.trans (dv_bn (dv_getI hbn8 ro_3 (j := 9) rfl mx4 (by decide)))
    refine tr_icmp_ge (tgt := 75) hx hb gX7_isBare_2.2.1 (by decide) (Eq.refl _) (Eq.refl _) (fun c33 => ?_) (fun c33 => ?_)
    · replace hF := hF.trans (if_pos c33)
      refine lv_iconst (v := 0) hx hb gX7_isBare_5.2.1 (by decide) ?_
      exact th_iret hC hH hr hlocks narrow_b0 hB.2.1 ⟨_, rfl, by decide, by decide, (hF0.symm.trans (hF.trans (by rw [tk_0]))), rfl⟩ gX7_isBare_5.2.2
    · replace hF := hF.trans (if_neg (Int.not_le.mpr c33))
      refine lv_aload_n hx hb gX7_isBare_2.2.2.1 rfl (lv_at hl 2 rfl) ?_
      refine th_getK hC cf_X7 hB.1 h0 ro_27 rfl (j := 8) (by decide) mbn8 kf_X7_38 gX7_isBare_2.2.2.2.1 ?_
      replace hF := hF.trans (dv_bn (dv_getR h0 ro_27 (j := 8) rfl mbn8 (by decide)))
      refine th_getO (j := 6) (r2 := 10) hC cf_X1 hB.1 hbn8 ro_3 rfl rfl kf_X7_167 gX7_isBare_2.2.2.2.2.1 (fun b5 mb5 hb5 => ?_)
      refine lv_iload hx hb gX7_isBare_2.2.2.2.2.2.1 (lv_at hl 0 rfl) ?_
      refine th_ialdF hC hB.1 hb5 ro_10 rfl (Eq.refl _) (by omega) (by omega) rfl gX7_isBare_2.2.2.2.2.2.2.1 (fun x6 mx6 lx6 ux6 => ?_)
      replace hF := hF.trans (dv_bn (dv_aldI hB.1 hU hb5 ow_10 (z := x2.toInt) mx6 (by omega)))
      refine lv_iload hx hb gX7_isBare_2.2.2.2.2.2.2.2 (lv_at hl 1 rfl) ?_
      refine lv_ishr hx hb gX7_isBare_3.1 ?_
      refine lv_topi (fun x7 ex7 => ?_)
      have lx7 := ti_lo x7; have ux7 := ti_hi x7
      replace hF := hF.trans (dv_bn (dv_shr_e (Eq.refl _) (Eq.refl _) ex7))
      refine lv_iconst (v := 1) hx hb gX7_isBare_3.2.1 (by decide) ?_
      refine lv_iand hx hb gX7_isBare_3.2.2.1 ?_
      refine lv_topi (fun x8 ex8 => ?_)
      have lx8 := ti_lo x8; have ux8 := ti_hi x8
      replace hF := hF.trans (dv_bn (dv_and_e (Eq.refl _) tk_1 ex8))
      have fx8 := ti_and x7 1 (m := 1) (by decide) (by decide)
      rw [← ex8] at fx8
      refine tr_if_ne (tgt := 75) hx hb gX7_isBare_3.2.2.2.1 (by decide) (Eq.refl _) (fun c51 => ?_) (fun c51 => ?_)
      · replace hF := hF.trans (if_pos c51)
        refine lv_iconst (v := 0) hx hb gX7_isBare_5.2.1 (by decide) ?_
        exact th_iret hC hH hr hlocks narrow_b0 hB.2.1 ⟨_, rfl, by decide, by decide, (hF0.symm.trans (hF.trans (by rw [tk_0]))), rfl⟩ gX7_isBare_5.2.2
      · replace hF := hF.trans (if_neg (not_not_intro c51))
        refine lv_lload_n hx hb gX7_isBare_3.2.2.2.2.1 rfl (lv_at hl 3 rfl) ?_
        refine lv_iconst (v := 4) hx hb gX7_isBare_3.2.2.2.2.2.1 (by decide) ?_
        refine lv_iload hx hb gX7_isBare_3.2.2.2.2.2.2.1 (lv_at hl 1 rfl) ?_
        refine tr_imul hx hb gX7_isBare_3.2.2.2.2.2.2.2 tk_4 (Eq.refl _) (by omega) (by omega) (fun x9 ex9 => ?_)
        replace hF := hF.trans (dv_bn (ex9.symm))
        refine lv_lushr hx hb gX7_isBare_4.1 rfl ?_
        refine lv_topl (fun y10 ey10 => ?_)
        replace hF := hF.trans (dv_bn (dv_lushr_e (Eq.refl (p1.toInt)) (Eq.refl _) ey10))
        refine lv_ldc2 (v := 15) hx hb hC.2.2.2.1 (hC.2.2.2.2.1 _ kw_950) gX7_isBare_4.2.1 ?_
        refine lv_land hx hb gX7_isBare_4.2.2.1 ?_
        refine lv_topl (fun y11 ey11 => ?_)
        replace hF := hF.trans (dv_bn (dv_land_e (Eq.refl (y10.toInt)) (rfl : (15 : Int64).toInt = 15) ey11))
        refine lv_iload hx hb gX7_isBare_4.2.2.2.1 (lv_at hl 0 rfl) ?_
        refine lv_i2l hx hb gX7_isBare_4.2.2.2.2.1 rfl ?_
        refine lv_topl (fun y12 ey12 => ?_)
        replace hF := hF.trans (dv_bn (dv_i2l_e (Eq.refl _) ey12))
        refine tr_lcmp2 hx hb gX7_isBare_4.2.2.2.2.2.1 (fun x13 fx13 gx13 ix13 => ?_)
        replace hF := hF.trans (dv_bn (dv_lcmp_e (Eq.refl (y11.toInt)) (Eq.refl (y12.toInt)) fx13 ix13))
        refine tr_if_gt (tgt := 75) hx hb gX7_isBare_4.2.2.2.2.2.2.1 (by decide) (Eq.refl _) (fun c68 => ?_) (fun c68 => ?_)
        · replace hF := hF.trans (if_pos c68)
          refine lv_iconst (v := 0) hx hb gX7_isBare_5.2.1 (by decide) ?_
          exact th_iret hC hH hr hlocks narrow_b0 hB.2.1 ⟨_, rfl, by decide, by decide, (hF0.symm.trans (hF.trans (by rw [tk_0]))), rfl⟩ gX7_isBare_5.2.2
        · replace hF := hF.trans (if_neg (Int.not_lt.mpr c68))
          refine lv_iconst (v := 1) hx hb gX7_isBare_4.2.2.2.2.2.2.2 (by decide) ?_
          refine lv_goto (tgt := 76) hx hb gX7_isBare_5.1 (by decide) ?_
          exact th_iret hC hH hr hlocks narrow_b1 hB.2.1 ⟨_, rfl, by decide, by decide, (hF0.symm.trans (hF.trans (by rw [tk_1]))), rfl⟩ gX7_isBare_5.2.2

set_option maxHeartbeats 4000000 in
set_option maxRecDepth 100000 in
theorem c_X7_firstBare (l : Launch) (G : th_G) (Γ : th_Ga) (H0 : Heap) (hI : th_I G Γ H0) (hU : dv_U Γ) (a0 : Nat) (h0 : Γ a0 = (27, 0)) (p1 : Int64) (p2 : Int32) (f2 : 0 ≤ p2.toInt) (g2 : p2.toInt ≤ 144) (nn8 : ∃ b : Nat, th_sl H0 a0 (G.1.1.2 7 8) = .ref b ∧ Γ b = (3, 0)) : Met l yX7_firstBare (.code yX7_firstBare cX7_firstBare 5 (some FieldType.int) :: th_tb) ({ frames := 1, cells := 0, slots := 0, locals := 25 } : Room) (th_P [.ref a0, .long p1, .int p2] G H0) (th_Q (fun (v : Option Value) (H1 : Heap) => ∃ r : Int32, v = some (.int r) ∧ (-1) ≤ r.toInt ∧ r.toInt ≤ 143 ∧ (f_X7_firstBare (dv G Γ H0) (a0 : Int) p1.toInt p2.toInt = (r.toInt, ())) ∧ H0 = H1) G) 0 0 (fun q => G.1.2.2 ≤ q) := by
  refine th_met RX7 (by decide) rfl (Nat.le_of_ble_eq_true rfl) ?_
  intro p e s m below meth c hC hH hr hlocks hnm ls hl
  have hx := hC.1
  have hb := hC.2.1
  have hB : th_B G Γ Γ [] H0 H0 [] := ⟨hI, va_S.rf, th_F_rf⟩
  have hl : lv_has ls 5 [(0, .ref a0), (1, .long p1), (3, .int p2)] := hl
  have lp2 := ti_lo p2; have up2 := ti_hi p2
  obtain ⟨bn8, mbn8, hbn8⟩ := nn8
  obtain ⟨F, hF0⟩ : ∃ F, F = f_X7_firstBare (dv G Γ H0) ((a0 : Int)) (p1.toInt) (p2.toInt) := ⟨_, rfl⟩
  have hF := hF0.trans (f_X7_firstBare.eq_1 (dv G Γ H0) ((a0 : Int)) (p1.toInt) (p2.toInt))
  refine lv_iload_n hx hb gX7_firstBare_0.1 rfl (lv_at hl 2 rfl) ?_
  refine lv_istore (lv' := [(4, .int p2), (0, .ref a0), (1, .long p1), (3, .int p2)]) hx hb gX7_firstBare_0.2.1 hl (by decide) rfl (fun ls hl => ?_)
  have lp3 : ∀ (n3 : Nat) (locs : List Loc) (ls : Array Slot) (j3_4 : Int32), th_B G Γ Γ [] H0 H0 locs → lv_has ls 5 [(0, .ref a0), (1, .long p1), (4, .int j3_4)] → F = dv_lp f_X7_firstBare_3b (dv G Γ H0, (a0 : Int), p1.toInt, j3_4.toInt) → 0 ≤ j3_4.toInt → j3_4.toInt ≤ 144 → (2147483648 : Int) - j3_4.toInt ≤ (n3 : Int) → W p l e ({ frames := 1, cells := 0, slots := 0, locals := 25 } : Room) s m ([.ref a0, .long p1, .int p2] : List Value).toArray below meth c H0 locs 0 0 (MQ below (th_Q (fun (v : Option Value) (H1 : Heap) => ∃ r : Int32, v = some (.int r) ∧ (-1) ≤ r.toInt ∧ r.toInt ≤ 143 ∧ (f_X7_firstBare (dv G Γ H0) (a0 : Int) p1.toInt p2.toInt = (r.toInt, ())) ∧ H0 = H1) G) ([.ref a0, .long p1, .int p2] : List Value).toArray s 0 0 (fun q => G.1.2.2 ≤ q)) (F0 m 3 ls []) := by
    intro n3
    induction n3 with
    | zero => intro locs ls j3_4 hB hl hF g3_0 g3_1 hm3; exact absurd hm3 (by have := ti_hi j3_4; omega)
    | succ n3 ih3 =>
      intro locs ls j3_4 hB hl hF g3_0 g3_1 hm3
      have lj3_4 := ti_lo j3_4; have uj3_4 := ti_hi j3_4
      have hm3 : (2147483648 : Int) - j3_4.toInt ≤ (n3 : Int) + 1 := by omega
      replace hF := hF.trans (dv_lp_eq)
      replace hF := hF.trans (congrArg (dv_k f_X7_firstBare_3b) (f_X7_firstBare_3c.eq_1 (dv G Γ H0) ((a0 : Int)) (p1.toInt) (j3_4.toInt)))
      refine lv_iload hx hb gX7_firstBare_0.2.2.1 (lv_at hl 2 rfl) ?_
      refine lv_sipush (v := 144) hx hb gX7_firstBare_0.2.2.2.1 (by decide) ?_
      refine tr_icmp_ge (tgt := 30) hx hb gX7_firstBare_0.2.2.2.2.1 (by decide) (Eq.refl _) tk_144 (fun c8 => ?_) (fun c8 => ?_)
      · replace hF := hF.trans (congrArg (dv_k f_X7_firstBare_3b) (if_pos c8))
        refine lv_iconst (v := (-1)) hx hb gX7_firstBare_1.2.2.2.2.2.2.1 (by decide) ?_
        replace hF := hF.trans (dv_kr)
        exact th_iret hC hH hr hlocks rfl hB.2.1 ⟨_, rfl, by decide, by decide, (hF0.symm.trans (hF.trans (by rw [tk_m1]))), rfl⟩ gX7_firstBare_1.2.2.2.2.2.2.2
      · replace hF := hF.trans (congrArg (dv_k f_X7_firstBare_3b) (if_neg (Int.not_le.mpr c8)))
        refine lv_aload_n hx hb gX7_firstBare_0.2.2.2.2.2.1 rfl (lv_at hl 0 rfl) ?_
        refine lv_lload_n hx hb gX7_firstBare_0.2.2.2.2.2.2.1 rfl (lv_at hl 1 rfl) ?_
        refine lv_iload hx hb gX7_firstBare_0.2.2.2.2.2.2.2 (lv_at hl 2 rfl) ?_
        refine th_call (th_runV (As := [.long p1, .int j3_4]) (rest := []) hC mf_X7_isBare km_X7_115 im_X7_isBare se_X7_isBare (c_X7_isBare l G Γ H0 hB.1 hU a0 h0 p1 j3_4 (by omega) (by omega) ⟨_, mbn8, hbn8⟩) rfl rfl ⟨Nat.le_of_ble_eq_true rfl, Nat.le_of_ble_eq_true rfl⟩ hB.1 h0 ro_27 rfl rfl hl.1 rfl (Nat.le_of_ble_eq_true rfl) gX7_firstBare_1.1 ⟨Nat.le_refl _, Nat.le_refl _⟩) hB.2.1 (fun v15 H15 locs hp hz hS => ?_)
        obtain ⟨x1, rfl, lx1, ux1, q15_0, rfl⟩ := hp
        have hB := th_B_s hB hS
        replace hF := hF.trans (congrArg (dv_k f_X7_firstBare_3b) (dv_bn2 (q15_0)))
        refine W.eq (g2 := F0 m 18 ls [.int x1]) rfl ?_
        refine tr_if_eq (tgt := 24) hx hb gX7_firstBare_1.2.1 (by decide) (Eq.refl _) (fun c18 => ?_) (fun c18 => ?_)
        · replace hF := hF.trans (congrArg (dv_k f_X7_firstBare_3b) (if_pos c18))
          refine tr_iinc (fun x2 => [(4, .int x2), (0, .ref a0), (1, .long p1)]) hx hb gX7_firstBare_1.2.2.2.2.1 hl (k := 2) rfl (Eq.refl _) tk_1 (by omega) (by omega) (by decide) (fun _ => rfl) (fun x2 ls ex2 hl => ?_)
          replace hF := hF.trans (congrArg (dv_k f_X7_firstBare_3b) (dv_bn (ex2.symm)))
          refine lv_goto (tgt := 3) hx hb gX7_firstBare_1.2.2.2.2.2.1 (by decide) ?_
          replace hF := hF.trans (dv_kl)
          exact ih3 locs ls x2 hB (lv_sub hl [1, 2, 0] rfl) hF (by omega) (by omega) (by omega)
        · replace hF := hF.trans (congrArg (dv_k f_X7_firstBare_3b) (if_neg c18))
          refine lv_iload hx hb gX7_firstBare_1.2.2.1 (lv_at hl 2 rfl) ?_
          replace hF := hF.trans (dv_kr)
          exact th_iret hC hH hr hlocks rfl hB.2.1 ⟨_, rfl, by omega, by omega, (hF0.symm.trans hF), rfl⟩ gX7_firstBare_1.2.2.2.1
  exact lp3 ((2147483648 : Int) - (p2.toInt)).toNat [] ls p2 hB (lv_sub hl [1, 2, 0] rfl) hF (by omega) (by omega) (by omega)

set_option maxHeartbeats 4000000 in
set_option maxRecDepth 100000 in
theorem c_X7_agreesWithSeen (l : Launch) (G : th_G) (Γ : th_Ga) (H0 : Heap) (hI : th_I G Γ H0) (hU : dv_U Γ) (a0 : Nat) (h0 : Γ a0 = (27, 0)) (p1 : Int32) (p2 : Int32) (p3 : Int32) : Met l yX7_agreesWithSeen (.code yX7_agreesWithSeen cX7_agreesWithSeen 7 (some FieldType.boolean) :: th_tb) ({ frames := 0, cells := 0, slots := 0, locals := 0 } : Room) (th_P [.ref a0, .int p1, .int p2, .int p3] G H0) (th_Q (fun (v : Option Value) (H1 : Heap) => ∃ r : Int32, v = some (.int r) ∧ 0 ≤ r.toInt ∧ r.toInt ≤ 1 ∧ (f_X7_agreesWithSeen (dv G Γ H0) (a0 : Int) p1.toInt p2.toInt p3.toInt = (r.toInt, ())) ∧ H0 = H1) G) 0 0 (fun q => G.1.2.2 ≤ q) := by
  refine th_met RX7 (by decide) rfl (Nat.le_of_ble_eq_true rfl) ?_
  intro p e s m below meth c hC hH hr hlocks hnm ls hl
  have hx := hC.1
  have hb := hC.2.1
  have hB : th_B G Γ Γ [] H0 H0 [] := ⟨hI, va_S.rf, th_F_rf⟩
  have hl : lv_has ls 7 [(0, .ref a0), (1, .int p1), (2, .int p2), (3, .int p3)] := hl
  have lp1 := ti_lo p1; have up1 := ti_hi p1
  have lp2 := ti_lo p2; have up2 := ti_hi p2
  have lp3 := ti_lo p3; have up3 := ti_hi p3
  obtain ⟨F, hF0⟩ : ∃ F, F = f_X7_agreesWithSeen (dv G Γ H0) ((a0 : Int)) (p1.toInt) (p2.toInt) (p3.toInt) := ⟨_, rfl⟩
  have hF := hF0.trans (f_X7_agreesWithSeen.eq_1 (dv G Γ H0) ((a0 : Int)) (p1.toInt) (p2.toInt) (p3.toInt))
  refine lv_iconst (v := 0) hx hb gX7_agreesWithSeen_0.1 (by decide) ?_
  refine lv_istore (lv' := [(4, .int 0), (0, .ref a0), (1, .int p1), (2, .int p2), (3, .int p3)]) hx hb gX7_agreesWithSeen_0.2.1 hl (by decide) rfl (fun ls hl => ?_)
  have lp3 : ∀ (n3 : Nat) (locs : List Loc) (ls : Array Slot) (j3_4 : Int32), th_B G Γ Γ [] H0 H0 locs → lv_has ls 7 [(0, .ref a0), (1, .int p1), (2, .int p2), (3, .int p3), (4, .int j3_4)] → F = dv_lp f_X7_agreesWithSeen_3b (dv G Γ H0, (a0 : Int), p1.toInt, p2.toInt, p3.toInt, j3_4.toInt) → 0 ≤ j3_4.toInt → j3_4.toInt ≤ 6 → (2147483648 : Int) - j3_4.toInt ≤ (n3 : Int) → W p l e ({ frames := 0, cells := 0, slots := 0, locals := 0 } : Room) s m ([.ref a0, .int p1, .int p2, .int p3] : List Value).toArray below meth c H0 locs 0 0 (MQ below (th_Q (fun (v : Option Value) (H1 : Heap) => ∃ r : Int32, v = some (.int r) ∧ 0 ≤ r.toInt ∧ r.toInt ≤ 1 ∧ (f_X7_agreesWithSeen (dv G Γ H0) (a0 : Int) p1.toInt p2.toInt p3.toInt = (r.toInt, ())) ∧ H0 = H1) G) ([.ref a0, .int p1, .int p2, .int p3] : List Value).toArray s 0 0 (fun q => G.1.2.2 ≤ q)) (F0 m 3 ls []) := by
    intro n3
    induction n3 with
    | zero => intro locs ls j3_4 hB hl hF g3_0 g3_1 hm3; exact absurd hm3 (by have := ti_hi j3_4; omega)
    | succ n3 ih3 =>
      intro locs ls j3_4 hB hl hF g3_0 g3_1 hm3
      have lj3_4 := ti_lo j3_4; have uj3_4 := ti_hi j3_4
      have hm3 : (2147483648 : Int) - j3_4.toInt ≤ (n3 : Int) + 1 := by omega
      replace hF := hF.trans (dv_lp_eq)
      replace hF := hF.trans (congrArg (dv_k f_X7_agreesWithSeen_3b) (f_X7_agreesWithSeen_3c.eq_1 (dv G Γ H0) ((a0 : Int)) (p1.toInt) (p2.toInt) (p3.toInt) (j3_4.toInt)))
      refine lv_aload_n hx hb gX7_agreesWithSeen_0.2.2.1 rfl (lv_at hl 0 rfl) ?_
      refine th_getQ (j := 10) (r2 := 32) hC cf_X7 hB.1 h0 ro_27 rfl rfl kf_X7_50 gX7_agreesWithSeen_0.2.2.2.1 (fun v1 mv1 hv1 => ?_)
      replace hF := hF.trans (congrArg (dv_k f_X7_agreesWithSeen_3b) (dv_bn (dv_getQ h0 ro_27 (j := 10) rfl mv1 (by decide))))
      rcases hv1 with rfl | ⟨b2, rfl, hb2⟩
      · refine lv_ifnullN (tgt := 94) hx hb gX7_agreesWithSeen_0.2.2.2.2.1 (by decide) ?_
        replace hF := hF.trans (congrArg (dv_k f_X7_agreesWithSeen_3b) (if_pos (rfl : dv_iv Value.null = -1)))
        refine lv_iconst (v := 1) hx hb gX7_agreesWithSeen_5.2.2.2.2.2.2.2 (by decide) ?_
        replace hF := hF.trans (dv_kr)
        exact th_iret hC hH hr hlocks narrow_b1 hB.2.1 ⟨_, rfl, by decide, by decide, (hF0.symm.trans (hF.trans (by rw [tk_1]))), rfl⟩ gX7_agreesWithSeen_6
      · refine lv_ifnull hx hb gX7_agreesWithSeen_0.2.2.2.2.1 ?_
        replace hF := hF.trans (congrArg (dv_k f_X7_agreesWithSeen_3b) (if_neg (show ¬ (dv_iv (Value.ref b2) = -1) from by show ¬ ((b2 : Int) = -1); omega)))
        refine lv_iload hx hb gX7_agreesWithSeen_0.2.2.2.2.2.1 (lv_at hl 4 rfl) ?_
        refine lv_aload_n hx hb gX7_agreesWithSeen_0.2.2.2.2.2.2.1 rfl (lv_at hl 0 rfl) ?_
        refine th_getK hC cf_X7 hB.1 h0 ro_27 rfl (j := 10) (by decide) mv1 kf_X7_50 gX7_agreesWithSeen_0.2.2.2.2.2.2.2 ?_
        replace hF := hF.trans (congrArg (dv_k f_X7_agreesWithSeen_3b) (dv_bn (dv_getR h0 ro_27 (j := 10) rfl mv1 (by decide))))
        refine th_getI (j := 7) hC cf_X8 hB.1 hb2 ro_32 rfl rfl kf_X7_66 gX7_agreesWithSeen_1.1 (fun x3 mx3 lx3 ux3 => ?_)
        replace hF := hF.trans (congrArg (dv_k f_X7_agreesWithSeen_3b) (dv_bn (dv_getI hb2 ro_32 (j := 7) rfl mx3 (by decide))))
        refine tr_icmp_ge (tgt := 94) hx hb gX7_agreesWithSeen_1.2.1 (by decide) (Eq.refl _) (Eq.refl _) (fun c19 => ?_) (fun c19 => ?_)
        · replace hF := hF.trans (congrArg (dv_k f_X7_agreesWithSeen_3b) (if_pos c19))
          refine lv_iconst (v := 1) hx hb gX7_agreesWithSeen_5.2.2.2.2.2.2.2 (by decide) ?_
          replace hF := hF.trans (dv_kr)
          exact th_iret hC hH hr hlocks narrow_b1 hB.2.1 ⟨_, rfl, by decide, by decide, (hF0.symm.trans (hF.trans (by rw [tk_1]))), rfl⟩ gX7_agreesWithSeen_6
        · replace hF := hF.trans (congrArg (dv_k f_X7_agreesWithSeen_3b) (if_neg (Int.not_le.mpr c19)))
          refine lv_aload_n hx hb gX7_agreesWithSeen_1.2.2.1 rfl (lv_at hl 0 rfl) ?_
          refine th_getK hC cf_X7 hB.1 h0 ro_27 rfl (j := 10) (by decide) mv1 kf_X7_50 gX7_agreesWithSeen_1.2.2.2.1 ?_
          replace hF := hF.trans (congrArg (dv_k f_X7_agreesWithSeen_3b) (dv_bn (dv_getR h0 ro_27 (j := 10) rfl mv1 (by decide))))
          refine th_getO (j := 2) (r2 := 34) hC cf_X8 hB.1 hb2 ro_32 rfl rfl kf_X7_71 gX7_agreesWithSeen_1.2.2.2.2.1 (fun b4 mb4 hb4 => ?_)
          refine lv_iload hx hb gX7_agreesWithSeen_1.2.2.2.2.2.1 (lv_at hl 4 rfl) ?_
          refine th_ialdF hC hB.1 hb4 ro_34 rfl (Eq.refl _) (by omega) (by omega) rfl gX7_agreesWithSeen_1.2.2.2.2.2.2.1 (fun x5 mx5 lx5 ux5 => ?_)
          replace hF := hF.trans (congrArg (dv_k f_X7_agreesWithSeen_3b) (dv_bn (dv_aldI hB.1 hU hb4 ow_34 (z := j3_4.toInt) mx5 (by omega))))
          refine lv_iload_n hx hb gX7_agreesWithSeen_1.2.2.2.2.2.2.2 rfl (lv_at hl 2 rfl) ?_
          refine lv_isub hx hb gX7_agreesWithSeen_2.1 ?_
          refine lv_topi (fun x6 ex6 => ?_)
          have lx6 := ti_lo x6; have ux6 := ti_hi x6
          replace hF := hF.trans (congrArg (dv_k f_X7_agreesWithSeen_3b) (dv_bn (dv_sub_e (Eq.refl _) (Eq.refl _) ex6)))
          refine lv_istore (lv' := [(5, .int x6), (0, .ref a0), (1, .int p1), (2, .int p2), (3, .int p3), (4, .int j3_4)]) hx hb gX7_agreesWithSeen_2.2.1 hl (by decide) rfl (fun ls hl => ?_)
          refine lv_aload_n hx hb gX7_agreesWithSeen_2.2.2.1 rfl (lv_at hl 1 rfl) ?_
          refine th_getK hC cf_X7 hB.1 h0 ro_27 rfl (j := 10) (by decide) mv1 kf_X7_50 gX7_agreesWithSeen_2.2.2.2.1 ?_
          replace hF := hF.trans (congrArg (dv_k f_X7_agreesWithSeen_3b) (dv_bn (dv_getR h0 ro_27 (j := 10) rfl mv1 (by decide))))
          refine th_getO (j := 3) (r2 := 35) hC cf_X8 hB.1 hb2 ro_32 rfl rfl kf_X7_77 gX7_agreesWithSeen_2.2.2.2.2.1 (fun b7 mb7 hb7 => ?_)
          refine lv_iload hx hb gX7_agreesWithSeen_2.2.2.2.2.2.1 (lv_at hl 5 rfl) ?_
          refine th_ialdF hC hB.1 hb7 ro_35 rfl (Eq.refl _) (by omega) (by omega) rfl gX7_agreesWithSeen_2.2.2.2.2.2.2.1 (fun x8 mx8 lx8 ux8 => ?_)
          replace hF := hF.trans (congrArg (dv_k f_X7_agreesWithSeen_3b) (dv_bn (dv_aldI hB.1 hU hb7 ow_35 (z := j3_4.toInt) mx8 (by omega))))
          refine lv_iload_n hx hb gX7_agreesWithSeen_2.2.2.2.2.2.2.2 rfl (lv_at hl 4 rfl) ?_
          refine lv_isub hx hb gX7_agreesWithSeen_3.1 ?_
          refine lv_topi (fun x9 ex9 => ?_)
          have lx9 := ti_lo x9; have ux9 := ti_hi x9
          replace hF := hF.trans (congrArg (dv_k f_X7_agreesWithSeen_3b) (dv_bn (dv_sub_e (Eq.refl _) (Eq.refl _) ex9)))
          refine lv_istore (lv' := [(6, .int x9), (5, .int x6), (0, .ref a0), (1, .int p1), (2, .int p2), (3, .int p3), (4, .int j3_4)]) hx hb gX7_agreesWithSeen_3.2.1 hl (by decide) rfl (fun ls hl => ?_)
          refine lv_iload hx hb gX7_agreesWithSeen_3.2.2.1 (lv_at hl 1 rfl) ?_
          have jn88 : ∀ (locs : List Loc) (ls : Array Slot) , th_B G Γ Γ [] H0 H0 locs → lv_has ls 7 [(0, .ref a0), (1, .int p1), (2, .int p2), (3, .int p3), (4, .int j3_4)] → F = dv_k f_X7_agreesWithSeen_3b (f_X7_agreesWithSeen_88 (dv G Γ H0) ((a0 : Int)) (p1.toInt) (p2.toInt) (p3.toInt) (j3_4.toInt)) → W p l e ({ frames := 0, cells := 0, slots := 0, locals := 0 } : Room) s m ([.ref a0, .int p1, .int p2, .int p3] : List Value).toArray below meth c H0 locs 0 0 (MQ below (th_Q (fun (v : Option Value) (H1 : Heap) => ∃ r : Int32, v = some (.int r) ∧ 0 ≤ r.toInt ∧ r.toInt ≤ 1 ∧ (f_X7_agreesWithSeen (dv G Γ H0) (a0 : Int) p1.toInt p2.toInt p3.toInt = (r.toInt, ())) ∧ H0 = H1) G) ([.ref a0, .int p1, .int p2, .int p3] : List Value).toArray s 0 0 (fun q => G.1.2.2 ≤ q)) (F0 m 88 ls []) := by
            intro locs ls hB hl hF
            replace hF := hF.trans (congrArg (dv_k f_X7_agreesWithSeen_3b) (f_X7_agreesWithSeen_88.eq_1 (dv G Γ H0) ((a0 : Int)) (p1.toInt) (p2.toInt) (p3.toInt) (j3_4.toInt)))
            refine tr_iinc (fun x10 => [(4, .int x10), (0, .ref a0), (1, .int p1), (2, .int p2), (3, .int p3)]) hx hb gX7_agreesWithSeen_5.2.2.2.2.2.1 hl (k := 4) rfl (Eq.refl _) tk_1 (by omega) (by omega) (by decide) (fun _ => rfl) (fun x10 ls ex10 hl => ?_)
            replace hF := hF.trans (congrArg (dv_k f_X7_agreesWithSeen_3b) (dv_bn (ex10.symm)))
            refine lv_goto (tgt := 3) hx hb gX7_agreesWithSeen_5.2.2.2.2.2.2.1 (by decide) ?_
            replace hF := hF.trans (dv_kl)
            exact ih3 locs ls x10 hB (lv_sub hl [1, 2, 3, 4, 0] rfl) hF (by omega) (by omega) (by omega)
          refine tr_if_lt (tgt := 88) hx hb gX7_agreesWithSeen_3.2.2.2.1 (by decide) (Eq.refl _) (fun c52 => ?_) (fun c52 => ?_)
          · replace hF := hF.trans (congrArg (dv_k f_X7_agreesWithSeen_3b) (if_pos c52))
            exact jn88 locs ls hB (lv_sub hl [2, 3, 4, 5, 6] rfl) hF
          · replace hF := hF.trans (congrArg (dv_k f_X7_agreesWithSeen_3b) (if_neg (Int.not_lt.mpr c52)))
            refine lv_iload hx hb gX7_agreesWithSeen_3.2.2.2.2.1 (lv_at hl 1 rfl) ?_
            refine lv_iload_n hx hb gX7_agreesWithSeen_3.2.2.2.2.2.1 rfl (lv_at hl 3 rfl) ?_
            refine tr_icmp_ge (tgt := 88) hx hb gX7_agreesWithSeen_3.2.2.2.2.2.2.1 (by decide) (Eq.refl _) (Eq.refl _) (fun c58 => ?_) (fun c58 => ?_)
            · replace hF := hF.trans (congrArg (dv_k f_X7_agreesWithSeen_3b) (if_pos c58))
              exact jn88 locs ls hB (lv_sub hl [2, 3, 4, 5, 6] rfl) hF
            · replace hF := hF.trans (congrArg (dv_k f_X7_agreesWithSeen_3b) (if_neg (Int.not_le.mpr c58)))
              refine lv_iload hx hb gX7_agreesWithSeen_3.2.2.2.2.2.2.2 (lv_at hl 0 rfl) ?_
              refine tr_if_lt (tgt := 88) hx hb gX7_agreesWithSeen_4.1 (by decide) (Eq.refl _) (fun c63 => ?_) (fun c63 => ?_)
              · replace hF := hF.trans (congrArg (dv_k f_X7_agreesWithSeen_3b) (if_pos c63))
                exact jn88 locs ls hB (lv_sub hl [2, 3, 4, 5, 6] rfl) hF
              · replace hF := hF.trans (congrArg (dv_k f_X7_agreesWithSeen_3b) (if_neg (Int.not_lt.mpr c63)))
                refine lv_iload hx hb gX7_agreesWithSeen_4.2.1 (lv_at hl 0 rfl) ?_
                refine lv_iload_n hx hb gX7_agreesWithSeen_4.2.2.1 rfl (lv_at hl 3 rfl) ?_
                refine tr_icmp_ge (tgt := 88) hx hb gX7_agreesWithSeen_4.2.2.2.1 (by decide) (Eq.refl _) (Eq.refl _) (fun c69 => ?_) (fun c69 => ?_)
                · replace hF := hF.trans (congrArg (dv_k f_X7_agreesWithSeen_3b) (if_pos c69))
                  exact jn88 locs ls hB (lv_sub hl [2, 3, 4, 5, 6] rfl) hF
                · replace hF := hF.trans (congrArg (dv_k f_X7_agreesWithSeen_3b) (if_neg (Int.not_le.mpr c69)))
                  refine lv_aload_n hx hb gX7_agreesWithSeen_4.2.2.2.2.1 rfl (lv_at hl 2 rfl) ?_
                  refine th_getK hC cf_X7 hB.1 h0 ro_27 rfl (j := 10) (by decide) mv1 kf_X7_50 gX7_agreesWithSeen_4.2.2.2.2.2.1 ?_
                  replace hF := hF.trans (congrArg (dv_k f_X7_agreesWithSeen_3b) (dv_bn (dv_getR h0 ro_27 (j := 10) rfl mv1 (by decide))))
                  refine th_getO (j := 4) (r2 := 36) hC cf_X8 hB.1 hb2 ro_32 rfl rfl kf_X7_90 gX7_agreesWithSeen_4.2.2.2.2.2.2.1 (fun b11 mb11 hb11 => ?_)
                  refine lv_iload hx hb gX7_agreesWithSeen_4.2.2.2.2.2.2.2 (lv_at hl 6 rfl) ?_
                  refine th_ialdF hC hB.1 hb11 ro_36 rfl (Eq.refl _) (by omega) (by omega) rfl gX7_agreesWithSeen_5.1 (fun x12 mx12 lx12 ux12 => ?_)
                  replace hF := hF.trans (congrArg (dv_k f_X7_agreesWithSeen_3b) (dv_bn (dv_aldI hB.1 hU hb11 ow_36 (z := j3_4.toInt) mx12 (by omega))))
                  refine lv_iload_n hx hb gX7_agreesWithSeen_5.2.1 rfl (lv_at hl 3 rfl) ?_
                  refine tr_icmp_eq (tgt := 88) hx hb gX7_agreesWithSeen_5.2.2.1 (by decide) (Eq.refl _) (Eq.refl _) (fun c83 => ?_) (fun c83 => ?_)
                  · replace hF := hF.trans (congrArg (dv_k f_X7_agreesWithSeen_3b) (if_pos c83))
                    exact jn88 locs ls hB (lv_sub hl [2, 3, 4, 5, 6] rfl) hF
                  · replace hF := hF.trans (congrArg (dv_k f_X7_agreesWithSeen_3b) (if_neg c83))
                    refine lv_iconst (v := 0) hx hb gX7_agreesWithSeen_5.2.2.2.1 (by decide) ?_
                    replace hF := hF.trans (dv_kr)
                    exact th_iret hC hH hr hlocks narrow_b0 hB.2.1 ⟨_, rfl, by decide, by decide, (hF0.symm.trans (hF.trans (by rw [tk_0]))), rfl⟩ gX7_agreesWithSeen_5.2.2.2.2.1
  exact lp3 ((2147483648 : Int) - (0)).toNat [] ls 0 hB (lv_sub hl [1, 2, 3, 4, 0] rfl) (by rw [tk_0]; exact hF) (by decide) (by decide) (by have w0 := tk_0; omega)

set_option maxHeartbeats 4000000 in
set_option maxRecDepth 100000 in
theorem c_X7_keyWith (l : Launch) (G : th_G) (Γ : th_Ga) (H0 : Heap) (hI : th_I G Γ H0) (hU : dv_U Γ) (a0 : Nat) (h0 : Γ a0 = (27, 0)) (p1 : Int64) (p2 : Int32) (f2 : 0 ≤ p2.toInt) (g2 : p2.toInt ≤ 8) (p3 : Int32) (f3 : 0 ≤ p3.toInt) (g3 : p3.toInt ≤ 143) (nn8 : ∃ b : Nat, th_sl H0 a0 (G.1.1.2 7 8) = .ref b ∧ Γ b = (3, 0)) : Met l yX7_keyWith (.code yX7_keyWith cX7_keyWith 10 (some FieldType.long) :: th_tb) ({ frames := 0, cells := 0, slots := 0, locals := 0 } : Room) (th_P [.ref a0, .long p1, .int p2, .int p3] G H0) (th_Q (fun (v : Option Value) (H1 : Heap) => ∃ r : Int64, v = some (.long r) ∧ (f_X7_keyWith (dv G Γ H0) (a0 : Int) p1.toInt p2.toInt p3.toInt = (r.toInt, ())) ∧ H0 = H1) G) 0 0 (fun q => G.1.2.2 ≤ q) := by
  refine th_met RX7 (by decide) rfl (Nat.le_of_ble_eq_true rfl) ?_
  intro p e s m below meth c hC hH hr hlocks hnm ls hl
  have hx := hC.1
  have hb := hC.2.1
  have hB : th_B G Γ Γ [] H0 H0 [] := ⟨hI, va_S.rf, th_F_rf⟩
  have hl : lv_has ls 10 [(0, .ref a0), (1, .long p1), (3, .int p2), (4, .int p3)] := hl
  have lp2 := ti_lo p2; have up2 := ti_hi p2
  have lp3 := ti_lo p3; have up3 := ti_hi p3
  obtain ⟨bn8, mbn8, hbn8⟩ := nn8
  obtain ⟨F, hF0⟩ : ∃ F, F = f_X7_keyWith (dv G Γ H0) ((a0 : Int)) (p1.toInt) (p2.toInt) (p3.toInt) := ⟨_, rfl⟩
  have hF := hF0.trans (f_X7_keyWith.eq_1 (dv G Γ H0) ((a0 : Int)) (p1.toInt) (p2.toInt) (p3.toInt))
  refine lv_iload hx hb gX7_keyWith_0.1 (lv_at hl 3 rfl) ?_
  refine lv_bipush (v := 12) hx hb gX7_keyWith_0.2.1 (by decide) ?_
  refine tr_irem hx hb gX7_keyWith_0.2.2.1 (Eq.refl _) tk_12 (by omega) (by omega) (fun x1 ex1 => ?_)
  replace hF := hF.trans (dv_bn (ex1.symm))
  refine lv_istore (lv' := [(5, .int x1), (0, .ref a0), (1, .long p1), (3, .int p2), (4, .int p3)]) hx hb gX7_keyWith_0.2.2.2.1 hl (by decide) rfl (fun ls hl => ?_)
  refine lv_iload hx hb gX7_keyWith_0.2.2.2.2.1 (lv_at hl 4 rfl) ?_
  refine lv_bipush (v := 12) hx hb gX7_keyWith_0.2.2.2.2.2.1 (by decide) ?_
  refine tr_idiv hx hb gX7_keyWith_0.2.2.2.2.2.2.1 (Eq.refl _) tk_12 (by omega) (by omega) (fun x2 ex2 => ?_)
  replace hF := hF.trans (dv_bn (ex2.symm))
  refine lv_aload_n hx hb gX7_keyWith_0.2.2.2.2.2.2.2 rfl (lv_at hl 1 rfl) ?_
  refine th_getK hC cf_X7 hB.1 h0 ro_27 rfl (j := 8) (by decide) mbn8 kf_X7_38 gX7_keyWith_1.1 ?_
  replace hF := hF.trans (dv_bn (dv_getR h0 ro_27 (j := 8) rfl mbn8 (by decide)))
  refine th_getO (j := 0) (r2 := 4) hC cf_X1 hB.1 hbn8 ro_3 rfl rfl kf_X7_87 gX7_keyWith_1.2.1 (fun b3 mb3 hb3 => ?_)
  refine lv_iload_n hx hb gX7_keyWith_1.2.2.1 rfl (lv_at hl 3 rfl) ?_
  refine th_ialdF hC hB.1 hb3 ro_4 rfl (Eq.refl _) (by omega) (by omega) rfl gX7_keyWith_1.2.2.2.1 (fun x4 mx4 lx4 ux4 => ?_)
  replace hF := hF.trans (dv_bn (dv_aldI hB.1 hU hb3 ow_4 (z := p2.toInt) mx4 (by omega)))
  refine tr_iadd hx hb gX7_keyWith_1.2.2.2.2.1 (Eq.refl _) (Eq.refl _) (by omega) (by omega) (fun x5 ex5 => ?_)
  replace hF := hF.trans (dv_bn (ex5.symm))
  refine lv_i2l hx hb gX7_keyWith_1.2.2.2.2.2.1 rfl ?_
  refine lv_topl (fun y6 ey6 => ?_)
  replace hF := hF.trans (dv_bn (dv_i2l_e (Eq.refl _) ey6))
  refine lv_lstore (lv' := [(6, .long y6), (5, .int x1), (0, .ref a0), (1, .long p1), (3, .int p2), (4, .int p3)]) hx hb gX7_keyWith_1.2.2.2.2.2.2.1 hl (by decide) rfl (fun ls hl => ?_)
  refine lv_lconst (v := 1) hx hb gX7_keyWith_1.2.2.2.2.2.2.2 rfl ?_
  refine lv_iconst (v := 4) hx hb gX7_keyWith_2.1 (by decide) ?_
  refine lv_aload_n hx hb gX7_keyWith_2.2.1 rfl (lv_at hl 2 rfl) ?_
  refine th_getK hC cf_X7 hB.1 h0 ro_27 rfl (j := 8) (by decide) mbn8 kf_X7_38 gX7_keyWith_2.2.2.1 ?_
  replace hF := hF.trans (dv_bn (dv_getR h0 ro_27 (j := 8) rfl mbn8 (by decide)))
  refine th_getK hC cf_X1 hB.1 hbn8 ro_3 rfl (j := 0) (by decide) mb3 kf_X7_87 gX7_keyWith_2.2.2.2.1 ?_
  refine lv_iload_n hx hb gX7_keyWith_2.2.2.2.2.1 rfl (lv_at hl 4 rfl) ?_
  refine th_ialdF hC hB.1 hb3 ro_4 rfl (Eq.refl _) (by omega) (by omega) rfl gX7_keyWith_2.2.2.2.2.2.1 (fun x7 mx7 lx7 ux7 => ?_)
  replace hF := hF.trans (dv_bn (dv_aldI hB.1 hU hb3 ow_4 (z := p2.toInt) mx7 (by omega)))
  have qx7 : x7.toInt = x4.toInt := by rw [show x7 = x4 from Value.int.inj (mx7.symm.trans mx4)]
  refine tr_imul hx hb gX7_keyWith_2.2.2.2.2.2.2.1 tk_4 (Eq.refl _) (by omega) (by omega) (fun x8 ex8 => ?_)
  replace hF := hF.trans (dv_bn (ex8.symm))
  refine lv_lshl hx hb gX7_keyWith_2.2.2.2.2.2.2.2 rfl ?_
  refine lv_topl (fun y9 ey9 => ?_)
  replace hF := hF.trans (dv_bn (dv_lshl_e (rfl : (1 : Int64).toInt = 1) (Eq.refl _) ey9))
  refine lv_lconst (v := 1) hx hb gX7_keyWith_3.1 rfl ?_
  refine lv_lsub hx hb gX7_keyWith_3.2.1 ?_
  refine lv_topl (fun y10 ey10 => ?_)
  replace hF := hF.trans (dv_bn (dv_lsub_e (Eq.refl (y9.toInt)) (rfl : (1 : Int64).toInt = 1) ey10))
  refine lv_iconst (v := 4) hx hb gX7_keyWith_3.2.2.1 (by decide) ?_
  refine lv_iload hx hb gX7_keyWith_3.2.2.2.1 (lv_at hl 1 rfl) ?_
  refine tr_imul hx hb gX7_keyWith_3.2.2.2.2.1 tk_4 (Eq.refl _) (by omega) (by omega) (fun x11 ex11 => ?_)
  replace hF := hF.trans (dv_bn (ex11.symm))
  refine lv_lshl hx hb gX7_keyWith_3.2.2.2.2.2.1 rfl ?_
  refine lv_topl (fun y12 ey12 => ?_)
  replace hF := hF.trans (dv_bn (dv_lshl_e (Eq.refl (y10.toInt)) (Eq.refl _) ey12))
  refine lv_lstore (lv' := [(8, .long y12), (6, .long y6), (5, .int x1), (0, .ref a0), (1, .long p1), (3, .int p2), (4, .int p3)]) hx hb gX7_keyWith_3.2.2.2.2.2.2.1 hl (by decide) rfl (fun ls hl => ?_)
  refine lv_lload_n hx hb gX7_keyWith_3.2.2.2.2.2.2.2 rfl (lv_at hl 4 rfl) ?_
  refine lv_lload hx hb gX7_keyWith_4.1 (lv_at hl 0 rfl) ?_
  refine lv_ldc2 (v := (-1)) hx hb hC.2.2.2.1 (hC.2.2.2.2.1 _ kw_969) gX7_keyWith_4.2.1 ?_
  refine lv_lxor hx hb gX7_keyWith_4.2.2.1 ?_
  refine lv_topl (fun y13 ey13 => ?_)
  replace hF := hF.trans (dv_bn (dv_lxor_e (Eq.refl (y12.toInt)) (rfl : ((-1) : Int64).toInt = (-1)) ey13))
  refine lv_land hx hb gX7_keyWith_4.2.2.2.1 ?_
  refine lv_topl (fun y14 ey14 => ?_)
  replace hF := hF.trans (dv_bn (dv_land_e (Eq.refl (p1.toInt)) (Eq.refl (y13.toInt)) ey14))
  refine lv_lload hx hb gX7_keyWith_4.2.2.2.2.1 (lv_at hl 1 rfl) ?_
  refine lv_ldc2 (v := 18764998447377) hx hb hC.2.2.2.1 (hC.2.2.2.2.1 _ kw_970) gX7_keyWith_4.2.2.2.2.2.1 ?_
  refine lv_lmul hx hb gX7_keyWith_4.2.2.2.2.2.2.1 ?_
  refine lv_topl (fun y15 ey15 => ?_)
  replace hF := hF.trans (dv_bn (dv_lmul_e (Eq.refl (y6.toInt)) (rfl : (18764998447377 : Int64).toInt = 18764998447377) ey15))
  refine lv_iconst (v := 4) hx hb gX7_keyWith_4.2.2.2.2.2.2.2 (by decide) ?_
  refine lv_iload hx hb gX7_keyWith_5.1 (lv_at hl 2 rfl) ?_
  refine tr_imul hx hb gX7_keyWith_5.2.1 tk_4 (Eq.refl _) (by omega) (by omega) (fun x16 ex16 => ?_)
  replace hF := hF.trans (dv_bn (ex16.symm))
  refine lv_lshl hx hb gX7_keyWith_5.2.2.1 rfl ?_
  refine lv_topl (fun y17 ey17 => ?_)
  replace hF := hF.trans (dv_bn (dv_lshl_e (Eq.refl (y15.toInt)) (Eq.refl _) ey17))
  refine lv_lload hx hb gX7_keyWith_5.2.2.2.1 (lv_at hl 0 rfl) ?_
  refine lv_land hx hb gX7_keyWith_5.2.2.2.2.1 ?_
  refine lv_topl (fun y18 ey18 => ?_)
  replace hF := hF.trans (dv_bn (dv_land_e (Eq.refl (y17.toInt)) (Eq.refl (y12.toInt)) ey18))
  refine lv_lor hx hb gX7_keyWith_5.2.2.2.2.2.1 ?_
  refine lv_topl (fun y19 ey19 => ?_)
  replace hF := hF.trans (dv_bn (dv_lor_e (Eq.refl (y14.toInt)) (Eq.refl (y18.toInt)) ey19))
  refine lv_lconst (v := 1) hx hb gX7_keyWith_5.2.2.2.2.2.2.1 rfl ?_
  refine lv_bipush (v := 48) hx hb gX7_keyWith_5.2.2.2.2.2.2.2 (by decide) ?_
  refine lv_iload_n hx hb gX7_keyWith_6.1 rfl (lv_at hl 5 rfl) ?_
  refine tr_iadd hx hb gX7_keyWith_6.2.1 tk_48 (Eq.refl _) (by omega) (by omega) (fun x20 ex20 => ?_)
  replace hF := hF.trans (dv_bn (ex20.symm))
  refine lv_lshl hx hb gX7_keyWith_6.2.2.1 rfl ?_
  refine lv_topl (fun y21 ey21 => ?_)
  replace hF := hF.trans (dv_bn (dv_lshl_e (rfl : (1 : Int64).toInt = 1) (Eq.refl _) ey21))
  refine lv_lor hx hb gX7_keyWith_6.2.2.2.1 ?_
  refine lv_topl (fun y22 ey22 => ?_)
  replace hF := hF.trans (dv_bn (dv_lor_e (Eq.refl (y19.toInt)) (Eq.refl (y21.toInt)) ey22))
  exact th_lret hC hH hr hlocks hB.2.1 ⟨_, rfl, (hF0.symm.trans hF), rfl⟩ gX7_keyWith_6.2.2.2.2

set_option maxHeartbeats 4000000 in
set_option maxRecDepth 100000 in
theorem c_X7_cheaper (l : Launch) (G : th_G) (Γ : th_Ga) (H0 : Heap) (hI : th_I G Γ H0) (hU : dv_U Γ) (p1 : Int32) (p2 : Int32) (p3 : Int32) : Met l yX7_cheaper (.code yX7_cheaper cX7_cheaper 3 (some FieldType.int) :: th_tb) ({ frames := 1, cells := 0, slots := 0, locals := 21 } : Room) (th_P [.int p1, .int p2, .int p3] G H0) (th_Q (fun (v : Option Value) (H1 : Heap) => ∃ r : Int32, v = some (.int r) ∧ (f_X7_cheaper (dv G Γ H0) p1.toInt p2.toInt p3.toInt = (r.toInt, ())) ∧ H0 = H1) G) 0 0 (fun q => G.1.2.2 ≤ q) := by
  refine th_met RX7 (by decide) rfl (Nat.le_of_ble_eq_true rfl) ?_
  intro p e s m below meth c hC hH hr hlocks hnm ls hl
  have hx := hC.1
  have hb := hC.2.1
  have hB : th_B G Γ Γ [] H0 H0 [] := ⟨hI, va_S.rf, th_F_rf⟩
  have hl : lv_has ls 3 [(0, .int p1), (1, .int p2), (2, .int p3)] := hl
  have lp1 := ti_lo p1; have up1 := ti_hi p1
  have lp2 := ti_lo p2; have up2 := ti_hi p2
  have lp3 := ti_lo p3; have up3 := ti_hi p3
  obtain ⟨F, hF0⟩ : ∃ F, F = f_X7_cheaper (dv G Γ H0) (p1.toInt) (p2.toInt) (p3.toInt) := ⟨_, rfl⟩
  have hF := hF0.trans (f_X7_cheaper.eq_1 (dv G Γ H0) (p1.toInt) (p2.toInt) (p3.toInt))
  refine lv_iload_n hx hb gX7_cheaper_0.1 rfl (lv_at hl 1 rfl) ?_
  refine lv_iconst (v := (-1)) hx hb gX7_cheaper_0.2.1 (by decide) ?_
  refine tr_icmp_ne (tgt := 7) hx hb gX7_cheaper_0.2.2.1 (by decide) (Eq.refl _) tk_m1 (fun c2 => ?_) (fun c2 => ?_)
  · replace hF := hF.trans (if_pos c2)
    refine lv_iload_n hx hb gX7_cheaper_0.2.2.2.2.2.1 rfl (lv_at hl 0 rfl) ?_
    refine lv_iconst (v := (-1)) hx hb gX7_cheaper_0.2.2.2.2.2.2.1 (by decide) ?_
    refine tr_icmp_ne (tgt := 18) hx hb gX7_cheaper_0.2.2.2.2.2.2.2 (by decide) (Eq.refl _) tk_m1 (fun c9 => ?_) (fun c9 => ?_)
    · replace hF := hF.trans (if_pos c9)
      refine lv_iload_n hx hb gX7_cheaper_1.2.2.2.2.1 rfl (lv_at hl 0 rfl) ?_
      refine lv_iload_n hx hb gX7_cheaper_1.2.2.2.2.2.1 rfl (lv_at hl 1 rfl) ?_
      refine lv_iload_n hx hb gX7_cheaper_1.2.2.2.2.2.2.1 rfl (lv_at hl 2 rfl) ?_
      refine lv_iadd hx hb gX7_cheaper_1.2.2.2.2.2.2.2 ?_
      refine lv_topi (fun x1 ex1 => ?_)
      have lx1 := ti_lo x1; have ux1 := ti_hi x1
      replace hF := hF.trans (dv_bn (dv_add_e (Eq.refl _) (Eq.refl _) ex1))
      refine tr_mmin hC kma_X7_164 hl.1 (Eq.refl _) (Eq.refl _) (Nat.le_of_ble_eq_true rfl) (Nat.le_of_ble_eq_true rfl) (Nat.le_of_ble_eq_true rfl) (Nat.le_of_ble_eq_true rfl) gX7_cheaper_2.1 (fun x2 ex2 => ?_)
      replace hF := hF.trans (dv_bn (dv_min_e ex2))
      exact th_iret hC hH hr hlocks rfl hB.2.1 ⟨_, rfl, (hF0.symm.trans hF), rfl⟩ gX7_cheaper_2.2
    · replace hF := hF.trans (if_neg (not_not_intro c9))
      refine lv_iload_n hx hb gX7_cheaper_1.1 rfl (lv_at hl 1 rfl) ?_
      refine lv_iload_n hx hb gX7_cheaper_1.2.1 rfl (lv_at hl 2 rfl) ?_
      refine lv_iadd hx hb gX7_cheaper_1.2.2.1 ?_
      refine lv_topi (fun x3 ex3 => ?_)
      have lx3 := ti_lo x3; have ux3 := ti_hi x3
      replace hF := hF.trans (dv_bn (dv_add_e (Eq.refl _) (Eq.refl _) ex3))
      refine lv_goto (tgt := 25) hx hb gX7_cheaper_1.2.2.2.1 (by decide) ?_
      exact th_iret hC hH hr hlocks rfl hB.2.1 ⟨_, rfl, (hF0.symm.trans hF), rfl⟩ gX7_cheaper_2.2
  · replace hF := hF.trans (if_neg (not_not_intro c2))
    refine lv_iload_n hx hb gX7_cheaper_0.2.2.2.1 rfl (lv_at hl 0 rfl) ?_
    exact th_iret hC hH hr hlocks rfl hB.2.1 ⟨_, rfl, (hF0.symm.trans hF), rfl⟩ gX7_cheaper_0.2.2.2.2.1

set_option maxHeartbeats 4000000 in
set_option maxRecDepth 100000 in
theorem c_X7_priceAt (l : Launch) (G : th_G) (Γ : th_Ga) (H0 : Heap) (hI : th_I G Γ H0) (hR : th_RC G Γ H0) (hU : dv_U Γ) (a0 : Nat) (h0 : Γ a0 = (27, 0)) (p1 : Int32) (f1 : 0 ≤ p1.toInt) (g1 : p1.toInt ≤ 8) (p2 : Int32) (f2 : 0 ≤ p2.toInt) (g2 : p2.toInt ≤ 143) (nn7 : ∃ b : Nat, th_sl H0 a0 (G.1.1.2 7 7) = .ref b ∧ Γ b = (11, 0)) (nn8 : ∃ b : Nat, th_sl H0 a0 (G.1.1.2 7 8) = .ref b ∧ Γ b = (3, 0)) : Met l yX7_priceAt (.code yX7_priceAt cX7_priceAt 6 (some FieldType.int) :: th_tb) ({ frames := 4, cells := 0, slots := 0, locals := 105 } : Room) (th_P [.ref a0, .int p1, .int p2] G H0) (th_Q (fun (v : Option Value) (H1 : Heap) => ∃ r : Int32, v = some (.int r) ∧ th_I G Γ H1 ∧ th_F G Γ [(24, 0), (23, 3), (26, 0), (25, 0), (28, 0), (29, 0)] H0 H1 ∧ th_RC G Γ H1 ∧ (f_X7_priceAt (dv G Γ H0) (a0 : Int) p1.toInt p2.toInt = (dv G Γ H1, r.toInt))) G) 0 0 (fun q => G.1.2.2 ≤ q) := by
  refine th_met RX7 (by decide) rfl (Nat.le_of_ble_eq_true rfl) ?_
  intro p e s m below meth c hC hH hr hlocks hnm ls hl
  have hx := hC.1
  have hb := hC.2.1
  have hB : th_B G Γ Γ [(24, 0), (23, 3), (26, 0), (25, 0), (28, 0), (29, 0)] H0 H0 [] := ⟨hI, va_S.rf, th_F_rf⟩
  have hl : lv_has ls 6 [(0, .ref a0), (1, .int p1), (2, .int p2)] := hl
  have lp1 := ti_lo p1; have up1 := ti_hi p1
  have lp2 := ti_lo p2; have up2 := ti_hi p2
  obtain ⟨bn7, mbn7, hbn7⟩ := nn7
  obtain ⟨bn8, mbn8, hbn8⟩ := nn8
  obtain ⟨F, hF0⟩ : ∃ F, F = f_X7_priceAt (dv G Γ H0) ((a0 : Int)) (p1.toInt) (p2.toInt) := ⟨_, rfl⟩
  have hF := hF0.trans (f_X7_priceAt.eq_1 (dv G Γ H0) ((a0 : Int)) (p1.toInt) (p2.toInt))
  refine lv_aload_n hx hb gX7_priceAt_0.1 rfl (lv_at hl 0 rfl) ?_
  refine th_getQ (j := 9) (r2 := 39) hC cf_X7 hB.1 h0 ro_27 rfl rfl kf_X7_42 gX7_priceAt_0.2.1 (fun v1 mv1 hv1 => ?_)
  replace hF := hF.trans (dv_bn (dv_getQ h0 ro_27 (j := 9) rfl mv1 (by decide)))
  rcases hv1 with rfl | ⟨b2, rfl, hb2⟩
  · refine lv_ifnonnullN hx hb gX7_priceAt_0.2.2.1 ?_
    replace hF := hF.trans (if_pos (rfl : dv_iv Value.null = -1))
    refine lv_aload_n hx hb gX7_priceAt_0.2.2.2.1 rfl (lv_at hl 0 rfl) ?_
    refine th_getK hC cf_X7 hB.1 h0 ro_27 rfl (j := 8) (by decide) mbn8 kf_X7_38 gX7_priceAt_0.2.2.2.2.1 ?_
    replace hF := hF.trans (dv_bn (dv_getR h0 ro_27 (j := 8) rfl mbn8 (by decide)))
    refine th_getO (j := 0) (r2 := 4) hC cf_X1 hB.1 hbn8 ro_3 rfl rfl kf_X7_87 gX7_priceAt_0.2.2.2.2.2.1 (fun b3 mb3 hb3 => ?_)
    refine lv_iload_n hx hb gX7_priceAt_0.2.2.2.2.2.2.1 rfl (lv_at hl 1 rfl) ?_
    refine th_ialdF hC hB.1 hb3 ro_4 rfl (Eq.refl _) (by omega) (by omega) rfl gX7_priceAt_0.2.2.2.2.2.2.2 (fun x4 mx4 lx4 ux4 => ?_)
    replace hF := hF.trans (dv_bn (dv_aldI hB.1 hU hb3 ow_4 (z := p1.toInt) mx4 (by omega)))
    exact th_iret hC hH hr hlocks rfl hB.2.1 ⟨_, rfl, hB.1, hB.2.2, hR, (hF0.symm.trans hF)⟩ gX7_priceAt_1.1
  · refine lv_ifnonnull (tgt := 17) hx hb gX7_priceAt_0.2.2.1 (by decide) ?_
    replace hF := hF.trans (if_neg (show ¬ (dv_iv (Value.ref b2) = -1) from by show ¬ ((b2 : Int) = -1); omega))
    refine lv_iload_n hx hb gX7_priceAt_1.2.1 rfl (lv_at hl 1 rfl) ?_
    refine lv_sipush (v := 144) hx hb gX7_priceAt_1.2.2.1 (by decide) ?_
    refine tr_imul hx hb gX7_priceAt_1.2.2.2.1 (Eq.refl _) tk_144 (by omega) (by omega) (fun x5 ex5 => ?_)
    replace hF := hF.trans (dv_bn (ex5.symm))
    refine lv_iload_n hx hb gX7_priceAt_1.2.2.2.2.1 rfl (lv_at hl 2 rfl) ?_
    refine tr_iadd hx hb gX7_priceAt_1.2.2.2.2.2.1 (Eq.refl _) (Eq.refl _) (by omega) (by omega) (fun x6 ex6 => ?_)
    replace hF := hF.trans (dv_bn (ex6.symm))
    refine lv_istore_n (lv' := [(3, .int x6), (0, .ref a0), (1, .int p1), (2, .int p2)]) hx hb gX7_priceAt_1.2.2.2.2.2.2.1 rfl hl (by decide) rfl (fun ls hl => ?_)
    refine lv_aload_n hx hb gX7_priceAt_1.2.2.2.2.2.2.2 rfl (lv_at hl 1 rfl) ?_
    refine th_getO (j := 2) (r2 := 29) hC cf_X7 hB.1 h0 ro_27 rfl rfl kf_X7_22 gX7_priceAt_2.1 (fun b7 mb7 hb7 => ?_)
    refine lv_iload_n hx hb gX7_priceAt_2.2.1 rfl (lv_at hl 0 rfl) ?_
    refine th_ialdF hC hB.1 hb7 ro_29 rfl (Eq.refl _) (by omega) (by omega) rfl gX7_priceAt_2.2.2.1 (fun x8 mx8 lx8 ux8 => ?_)
    replace hF := hF.trans (dv_bn (dv_aldI hB.1 hU hb7 ow_29 (z := x6.toInt) mx8 (by omega)))
    refine lv_aload_n hx hb gX7_priceAt_2.2.2.2.1 rfl (lv_at hl 1 rfl) ?_
    refine th_getI (j := 6) hC cf_X7 hB.1 h0 ro_27 rfl rfl kf_X7_35 gX7_priceAt_2.2.2.2.2.1 (fun x9 mx9 lx9 ux9 => ?_)
    replace hF := hF.trans (dv_bn (dv_getI h0 ro_27 (j := 6) rfl mx9 (by decide)))
    refine tr_icmp_eq (tgt := 124) hx hb gX7_priceAt_2.2.2.2.2.2.1 (by decide) (Eq.refl _) (Eq.refl _) (fun c35 => ?_) (fun c35 => ?_)
    · replace hF := hF.trans (if_pos c35)
      refine lv_aload_n hx hb gX7_priceAt_8.2.2.2.2.1 rfl (lv_at hl 1 rfl) ?_
      refine th_getO (j := 1) (r2 := 28) hC cf_X7 hB.1 h0 ro_27 rfl rfl kf_X7_18 gX7_priceAt_8.2.2.2.2.2.1 (fun b10 mb10 hb10 => ?_)
      refine lv_iload_n hx hb gX7_priceAt_8.2.2.2.2.2.2.1 rfl (lv_at hl 0 rfl) ?_
      refine th_ialdF hC hB.1 hb10 ro_28 rfl (Eq.refl _) (by omega) (by omega) rfl gX7_priceAt_8.2.2.2.2.2.2.2 (fun x11 mx11 lx11 ux11 => ?_)
      replace hF := hF.trans (dv_bn (dv_aldI hB.1 hU hb10 ow_28 (z := x6.toInt) mx11 (by omega)))
      exact th_iret hC hH hr hlocks rfl hB.2.1 ⟨_, rfl, hB.1, hB.2.2, hR, (hF0.symm.trans hF)⟩ gX7_priceAt_9
    · replace hF := hF.trans (if_neg c35)
      refine lv_iload_n hx hb gX7_priceAt_2.2.2.2.2.2.2.1 rfl (lv_at hl 3 rfl) ?_
      refine lv_bipush (v := 12) hx hb gX7_priceAt_2.2.2.2.2.2.2.2 (by decide) ?_
      refine tr_irem hx hb gX7_priceAt_3.1 (Eq.refl _) tk_12 (by omega) (by omega) (fun x12 ex12 => ?_)
      replace hF := hF.trans (dv_bn (ex12.symm))
      refine lv_istore (lv' := [(4, .int x12), (3, .int x6), (0, .ref a0), (1, .int p1), (2, .int p2)]) hx hb gX7_priceAt_3.2.1 hl (by decide) rfl (fun ls hl => ?_)
      refine lv_iload_n hx hb gX7_priceAt_3.2.2.1 rfl (lv_at hl 4 rfl) ?_
      refine lv_bipush (v := 12) hx hb gX7_priceAt_3.2.2.2.1 (by decide) ?_
      refine tr_idiv hx hb gX7_priceAt_3.2.2.2.2.1 (Eq.refl _) tk_12 (by omega) (by omega) (fun x13 ex13 => ?_)
      replace hF := hF.trans (dv_bn (ex13.symm))
      refine lv_istore (lv' := [(5, .int x13), (4, .int x12), (3, .int x6), (0, .ref a0), (1, .int p1), (2, .int p2)]) hx hb gX7_priceAt_3.2.2.2.2.2.1 hl (by decide) rfl (fun ls hl => ?_)
      refine lv_aload_n hx hb gX7_priceAt_3.2.2.2.2.2.2.1 rfl (lv_at hl 3 rfl) ?_
      refine th_getK hC cf_X7 hB.1 h0 ro_27 rfl (j := 2) (by decide) mb7 kf_X7_22 gX7_priceAt_3.2.2.2.2.2.2.2 ?_
      refine lv_iload_n hx hb gX7_priceAt_4.1 rfl (lv_at hl 2 rfl) ?_
      refine lv_aload_n hx hb gX7_priceAt_4.2.1 rfl (lv_at hl 3 rfl) ?_
      refine th_getK hC cf_X7 hB.1 h0 ro_27 rfl (j := 6) (by decide) mx9 kf_X7_35 gX7_priceAt_4.2.2.1 ?_
      replace hF := hF.trans (dv_bn (dv_getI h0 ro_27 (j := 6) rfl mx9 (by decide)))
      have hIo := hB.1
      refine th_iastF hC hB hb7 (Or.inl hb7) ro_29 rfl (by decide) (Eq.refl _) (by omega) (by omega) th_sIa gX7_priceAt_4.2.2.2.1 (fun H59 locs hB hf59 hst59 => ?_)
      have hf := hf59
      have mm14 := (th_F_o hf h0 ro_27 (j := 7) (by decide) (by decide)).trans mbn7
      have mm15 := (th_F_o hf h0 ro_27 (j := 8) (by decide) (by decide)).trans mbn8
      have mm16 := (th_F_o hf h0 ro_27 (j := 9) (by decide) (by decide)).trans mv1
      have mm17 := (th_F_o hf h0 ro_27 (j := 2) (by decide) (by decide)).trans mb7
      have mm18 := (th_F_o hf h0 ro_27 (j := 6) (by decide) (by decide)).trans mx9
      have hR := th_RC_F hB.1 hR hf (th_T_s hb7 ro_29 hst59) (by decide)
      replace hF := hF.trans (dv_bn (dv_stoI hIo hB.1 hU hb7 ow_29 (i := x6.toInt) hst59 (Eq.refl _) (by omega)))
      refine lv_aload_n hx hb gX7_priceAt_4.2.2.2.2.1 rfl (lv_at hl 3 rfl) ?_
      refine th_getO (j := 1) (r2 := 28) hC cf_X7 hB.1 h0 ro_27 rfl rfl kf_X7_18 gX7_priceAt_4.2.2.2.2.2.1 (fun b19 mb19 hb19 => ?_)
      have sb19 := (th_F_o hB.2.2 h0 ro_27 (j := 1) (by decide) (by decide)).symm.trans mb19
      refine lv_iload_n hx hb gX7_priceAt_4.2.2.2.2.2.2.1 rfl (lv_at hl 2 rfl) ?_
      refine lv_aload_n hx hb gX7_priceAt_4.2.2.2.2.2.2.2 rfl (lv_at hl 3 rfl) ?_
      refine th_getK hC cf_X7 hB.1 h0 ro_27 rfl (j := 7) (by decide) mm14 kf_X7_46 gX7_priceAt_5.1 ?_
      replace hF := hF.trans (dv_bn (dv_getR h0 ro_27 (j := 7) rfl mm14 (by decide)))
      refine lv_aload_n hx hb gX7_priceAt_5.2.1 rfl (lv_at hl 3 rfl) ?_
      refine th_getK hC cf_X7 hB.1 h0 ro_27 rfl (j := 9) (by decide) mm16 kf_X7_42 gX7_priceAt_5.2.2.1 ?_
      replace hF := hF.trans (dv_bn (dv_getR h0 ro_27 (j := 9) rfl mm16 (by decide)))
      refine lv_aload_n hx hb gX7_priceAt_5.2.2.2.1 rfl (lv_at hl 3 rfl) ?_
      refine th_getK hC cf_X7 hB.1 h0 ro_27 rfl (j := 8) (by decide) mm15 kf_X7_38 gX7_priceAt_5.2.2.2.2.1 ?_
      replace hF := hF.trans (dv_bn (dv_getR h0 ro_27 (j := 8) rfl mm15 (by decide)))
      refine lv_iload_n hx hb gX7_priceAt_5.2.2.2.2.2.1 rfl (lv_at hl 4 rfl) ?_
      refine lv_iload hx hb gX7_priceAt_5.2.2.2.2.2.2.1 (lv_at hl 1 rfl) ?_
      refine lv_iload hx hb gX7_priceAt_5.2.2.2.2.2.2.2 (lv_at hl 0 rfl) ?_
      refine th_call (th_runV (As := [.ref b2, .ref bn8, .int p1, .int x12, .int x13]) (rest := [.int x6, .ref b19]) hC mf_X2_isBarred km_X7_176 im_X2_isBarred se_X2_isBarred (c_X2_isBarred l G Γ H59 hB.1 hR hU bn7 hbn7 (.ref b2) (Or.inr ⟨_, rfl, hb2⟩) bn8 hbn8 p1 (by omega) (by omega) x12 x13) rfl rfl ⟨Nat.le_of_ble_eq_true rfl, Nat.le_of_ble_eq_true rfl⟩ hB.1 hbn7 ro_11 rfl rfl hl.1 rfl (Nat.le_of_ble_eq_true rfl) gX7_priceAt_6.1 ⟨Nat.le_refl _, Nat.le_refl _⟩) hB.2.1 (fun v82 H82 locs hp hz hS => ?_)
      obtain ⟨x20, rfl, lx20, ux20, hI1, hf, hR, z82_0⟩ := hp
      have hB := th_B_c hB hI1 hS hf (by decide)
      have mm21 := (th_F_o hf h0 ro_27 (j := 7) (by decide) (by decide)).trans mm14
      have mm22 := (th_F_o hf h0 ro_27 (j := 8) (by decide) (by decide)).trans mm15
      have mm23 := (th_F_o hf h0 ro_27 (j := 9) (by decide) (by decide)).trans mm16
      have mm24 := (th_F_o hf h0 ro_27 (j := 2) (by decide) (by decide)).trans mm17
      have mm25 := (th_F_o hf h0 ro_27 (j := 6) (by decide) (by decide)).trans mm18
      have mm26 := (th_F_o hf h0 ro_27 (j := 1) (by decide) (by decide)).trans mb19
      replace hF := hF.trans (dv_bn2 (z82_0))
      refine W.eq (g2 := F0 m 85 ls [.int x20, .int x6, .ref b19]) rfl ?_
      have jn123 : ∀ (H123 : Heap) (locs : List Loc) (ls : Array Slot) (s123_2 : Int32), th_B G Γ Γ [(24, 0), (23, 3), (26, 0), (25, 0), (28, 0), (29, 0)] H0 H123 locs → th_RC G Γ H123 → lv_has ls 6 [(3, .int x6), (0, .ref a0)] → F = f_X7_priceAt_123 (dv G Γ H123) (x6.toInt) ((a0 : Int)) (s123_2.toInt) → (-1) ≤ s123_2.toInt → s123_2.toInt ≤ 99 → W p l e ({ frames := 4, cells := 0, slots := 0, locals := 105 } : Room) s m ([.ref a0, .int p1, .int p2] : List Value).toArray below meth c H123 locs 0 0 (MQ below (th_Q (fun (v : Option Value) (H1 : Heap) => ∃ r : Int32, v = some (.int r) ∧ th_I G Γ H1 ∧ th_F G Γ [(24, 0), (23, 3), (26, 0), (25, 0), (28, 0), (29, 0)] H0 H1 ∧ th_RC G Γ H1 ∧ (f_X7_priceAt (dv G Γ H0) (a0 : Int) p1.toInt p2.toInt = (dv G Γ H1, r.toInt))) G) ([.ref a0, .int p1, .int p2] : List Value).toArray s 0 0 (fun q => G.1.2.2 ≤ q)) (F0 m 123 ls [.int s123_2, .int x6, .ref b19]) := by
        intro H123 locs ls s123_2 hB hR hl hF g123_0 g123_1
        have ls123_2 := ti_lo s123_2; have us123_2 := ti_hi s123_2
        have mm27 := (th_F_o hB.2.2 h0 ro_27 (j := 1) (by decide) (by decide)).trans sb19
        replace hF := hF.trans (f_X7_priceAt_123.eq_1 (dv G Γ H123) (x6.toInt) ((a0 : Int)) (s123_2.toInt))
        have hIo := hB.1
        refine th_iastF hC hB hb19 (Or.inl hb19) ro_28 rfl (by decide) (Eq.refl _) (by omega) (by omega) th_sIa gX7_priceAt_8.2.2.2.1 (fun H123 locs hB hf123 hst123 => ?_)
        have hf := hf123
        have mm28 := (th_F_o hf h0 ro_27 (j := 1) (by decide) (by decide)).trans mm27
        have hR := th_RC_F hB.1 hR hf (th_T_s hb19 ro_28 hst123) (by decide)
        replace hF := hF.trans (dv_bn (dv_stoI hIo hB.1 hU hb19 ow_28 (i := x6.toInt) hst123 (Eq.refl _) (by omega)))
        refine lv_aload_n hx hb gX7_priceAt_8.2.2.2.2.1 rfl (lv_at hl 1 rfl) ?_
        refine th_getK hC cf_X7 hB.1 h0 ro_27 rfl (j := 1) (by decide) mm28 kf_X7_18 gX7_priceAt_8.2.2.2.2.2.1 ?_
        refine lv_iload_n hx hb gX7_priceAt_8.2.2.2.2.2.2.1 rfl (lv_at hl 0 rfl) ?_
        refine th_ialdF hC hB.1 hb19 ro_28 rfl (Eq.refl _) (by omega) (by omega) rfl gX7_priceAt_8.2.2.2.2.2.2.2 (fun x29 mx29 lx29 ux29 => ?_)
        replace hF := hF.trans (dv_bn (dv_aldI hB.1 hU hb19 ow_28 (z := x6.toInt) mx29 (by omega)))
        exact th_iret hC hH hr hlocks rfl hB.2.1 ⟨_, rfl, hB.1, hB.2.2, hR, (hF0.symm.trans hF)⟩ gX7_priceAt_9
      refine tr_if_eq (tgt := 92) hx hb gX7_priceAt_6.2.1 (by decide) (Eq.refl _) (fun c85 => ?_) (fun c85 => ?_)
      · replace hF := hF.trans (if_pos c85)
        refine lv_aload_n hx hb gX7_priceAt_6.2.2.2.2.1 rfl (lv_at hl 3 rfl) ?_
        refine th_getI (j := 12) hC cf_X7 hB.1 h0 ro_27 rfl rfl kf_X7_131 gX7_priceAt_6.2.2.2.2.2.1 (fun x30 mx30 lx30 ux30 => ?_)
        replace hF := hF.trans (dv_bn (dv_getI h0 ro_27 (j := 12) rfl mx30 (by decide)))
        refine tr_if_eq (tgt := 122) hx hb gX7_priceAt_6.2.2.2.2.2.2.1 (by decide) (Eq.refl _) (fun c96 => ?_) (fun c96 => ?_)
        · replace hF := hF.trans (if_pos c96)
          refine lv_iconst (v := 0) hx hb gX7_priceAt_8.2.2.1 (by decide) ?_
          exact jn123 H82 locs ls 0 hB hR (lv_sub hl [2, 3] rfl) (by rw [tk_0]; exact hF) (by decide) (by decide)
        · replace hF := hF.trans (if_neg c96)
          refine lv_aload_n hx hb gX7_priceAt_6.2.2.2.2.2.2.2 rfl (lv_at hl 3 rfl) ?_
          refine th_getK hC cf_X7 hB.1 h0 ro_27 rfl (j := 7) (by decide) mm21 kf_X7_46 gX7_priceAt_7.1 ?_
          replace hF := hF.trans (dv_bn (dv_getR h0 ro_27 (j := 7) rfl mm21 (by decide)))
          refine lv_aload_n hx hb gX7_priceAt_7.2.1 rfl (lv_at hl 3 rfl) ?_
          refine th_getK hC cf_X7 hB.1 h0 ro_27 rfl (j := 9) (by decide) mm23 kf_X7_42 gX7_priceAt_7.2.2.1 ?_
          replace hF := hF.trans (dv_bn (dv_getR h0 ro_27 (j := 9) rfl mm23 (by decide)))
          refine lv_aload_n hx hb gX7_priceAt_7.2.2.2.1 rfl (lv_at hl 3 rfl) ?_
          refine th_getK hC cf_X7 hB.1 h0 ro_27 rfl (j := 8) (by decide) mm22 kf_X7_38 gX7_priceAt_7.2.2.2.2.1 ?_
          replace hF := hF.trans (dv_bn (dv_getR h0 ro_27 (j := 8) rfl mm22 (by decide)))
          refine lv_iload_n hx hb gX7_priceAt_7.2.2.2.2.2.1 rfl (lv_at hl 4 rfl) ?_
          refine lv_iload hx hb gX7_priceAt_7.2.2.2.2.2.2.1 (lv_at hl 1 rfl) ?_
          refine lv_iload hx hb gX7_priceAt_7.2.2.2.2.2.2.2 (lv_at hl 0 rfl) ?_
          refine th_call (th_runV (As := [.ref b2, .ref bn8, .int p1, .int x12, .int x13]) (rest := [.int x6, .ref b19]) hC mf_X2_costOf km_X7_182 im_X2_costOf se_X2_costOf (c_X2_costOf l G Γ H82 hB.1 hR hU bn7 hbn7 (.ref b2) (Or.inr ⟨_, rfl, hb2⟩) bn8 hbn8 p1 (by omega) (by omega) x12 x13) rfl rfl ⟨Nat.le_of_ble_eq_true rfl, Nat.le_of_ble_eq_true rfl⟩ hB.1 hbn7 ro_11 rfl rfl hl.1 rfl (Nat.le_of_ble_eq_true rfl) gX7_priceAt_8.1 ⟨Nat.le_refl _, Nat.le_refl _⟩) hB.2.1 (fun v116 H116 locs hp hz hS => ?_)
          obtain ⟨x31, rfl, lx31, ux31, hI1, hf, hR, z116_0⟩ := hp
          have hB := th_B_c hB hI1 hS hf (by decide)
          have mm32 := (th_F_o hf h0 ro_27 (j := 7) (by decide) (by decide)).trans mm21
          have mm33 := (th_F_o hf h0 ro_27 (j := 8) (by decide) (by decide)).trans mm22
          have mm34 := (th_F_o hf h0 ro_27 (j := 9) (by decide) (by decide)).trans mm23
          have mm35 := (th_F_o hf h0 ro_27 (j := 2) (by decide) (by decide)).trans mm24
          have mm36 := (th_F_o hf h0 ro_27 (j := 6) (by decide) (by decide)).trans mm25
          have mm37 := (th_F_o hf h0 ro_27 (j := 1) (by decide) (by decide)).trans mm26
          replace hF := hF.trans (dv_bn2 (z116_0))
          refine W.eq (g2 := F0 m 119 ls [.int x31, .int x6, .ref b19]) rfl ?_
          refine lv_goto (tgt := 123) hx hb gX7_priceAt_8.2.1 (by decide) ?_
          exact jn123 H116 locs ls x31 hB hR (lv_sub hl [2, 3] rfl) hF (by omega) (by omega)
      · replace hF := hF.trans (if_neg c85)
        refine lv_iconst (v := (-1)) hx hb gX7_priceAt_6.2.2.1 (by decide) ?_
        refine lv_goto (tgt := 123) hx hb gX7_priceAt_6.2.2.2.1 (by decide) ?_
        exact jn123 H82 locs ls (-1) hB hR (lv_sub hl [2, 3] rfl) (by rw [tk_m1]; exact hF) (by decide) (by decide)

set_option maxHeartbeats 4000000 in
set_option maxRecDepth 100000 in
theorem c_X7_mostAt (l : Launch) (G : th_G) (Γ : th_Ga) (H0 : Heap) (hI : th_I G Γ H0) (hU : dv_U Γ) (a0 : Nat) (h0 : Γ a0 = (27, 0)) (p1 : Int32) (f1 : (-1) ≤ p1.toInt) (g1 : p1.toInt ≤ 143) (nn8 : ∃ b : Nat, th_sl H0 a0 (G.1.1.2 7 8) = .ref b ∧ Γ b = (3, 0)) : Met l yX7_mostAt (.code yX7_mostAt cX7_mostAt 4 (some FieldType.int) :: th_tb) ({ frames := 1, cells := 0, slots := 0, locals := 21 } : Room) (th_P [.ref a0, .int p1] G H0) (th_Q (fun (v : Option Value) (H1 : Heap) => ∃ r : Int32, v = some (.int r) ∧ (f_X7_mostAt (dv G Γ H0) (a0 : Int) p1.toInt = (r.toInt, ())) ∧ H0 = H1) G) 0 0 (fun q => G.1.2.2 ≤ q) := by
  refine th_met RX7 (by decide) rfl (Nat.le_of_ble_eq_true rfl) ?_
  intro p e s m below meth c hC hH hr hlocks hnm ls hl
  have hx := hC.1
  have hb := hC.2.1
  have hB : th_B G Γ Γ [] H0 H0 [] := ⟨hI, va_S.rf, th_F_rf⟩
  have hl : lv_has ls 4 [(0, .ref a0), (1, .int p1)] := hl
  have lp1 := ti_lo p1; have up1 := ti_hi p1
  obtain ⟨bn8, mbn8, hbn8⟩ := nn8
  obtain ⟨F, hF0⟩ : ∃ F, F = f_X7_mostAt (dv G Γ H0) ((a0 : Int)) (p1.toInt) := ⟨_, rfl⟩
  have hF := hF0.trans (f_X7_mostAt.eq_1 (dv G Γ H0) ((a0 : Int)) (p1.toInt))
  refine lv_iconst (v := 0) hx hb gX7_mostAt_0.1 (by decide) ?_
  refine lv_istore_n (lv' := [(2, .int 0), (0, .ref a0), (1, .int p1)]) hx hb gX7_mostAt_0.2.1 rfl hl (by decide) rfl (fun ls hl => ?_)
  refine lv_iconst (v := 0) hx hb gX7_mostAt_0.2.2.1 (by decide) ?_
  refine lv_istore_n (lv' := [(3, .int 0), (2, .int 0), (0, .ref a0), (1, .int p1)]) hx hb gX7_mostAt_0.2.2.2.1 rfl hl (by decide) rfl (fun ls hl => ?_)
  have lp4 : ∀ (n4 : Nat) (locs : List Loc) (ls : Array Slot) (j4_2 : Int32) (j4_3 : Int32), th_B G Γ Γ [] H0 H0 locs → lv_has ls 4 [(0, .ref a0), (1, .int p1), (2, .int j4_2), (3, .int j4_3)] → F = dv_lp f_X7_mostAt_4b (dv G Γ H0, (a0 : Int), p1.toInt, j4_2.toInt, j4_3.toInt) → 0 ≤ j4_2.toInt → 0 ≤ j4_3.toInt → j4_3.toInt ≤ 9 → (2147483648 : Int) - j4_3.toInt ≤ (n4 : Int) → W p l e ({ frames := 1, cells := 0, slots := 0, locals := 21 } : Room) s m ([.ref a0, .int p1] : List Value).toArray below meth c H0 locs 0 0 (MQ below (th_Q (fun (v : Option Value) (H1 : Heap) => ∃ r : Int32, v = some (.int r) ∧ (f_X7_mostAt (dv G Γ H0) (a0 : Int) p1.toInt = (r.toInt, ())) ∧ H0 = H1) G) ([.ref a0, .int p1] : List Value).toArray s 0 0 (fun q => G.1.2.2 ≤ q)) (F0 m 4 ls []) := by
    intro n4
    induction n4 with
    | zero => intro locs ls j4_2 j4_3 hB hl hF g4_0 g4_1 g4_2 hm4; exact absurd hm4 (by have := ti_hi j4_3; omega)
    | succ n4 ih4 =>
      intro locs ls j4_2 j4_3 hB hl hF g4_0 g4_1 g4_2 hm4
      have lj4_2 := ti_lo j4_2; have uj4_2 := ti_hi j4_2
      have lj4_3 := ti_lo j4_3; have uj4_3 := ti_hi j4_3
      have hm4 : (2147483648 : Int) - j4_3.toInt ≤ (n4 : Int) + 1 := by omega
      replace hF := hF.trans (dv_lp_eq)
      replace hF := hF.trans (congrArg (dv_k f_X7_mostAt_4b) (f_X7_mostAt_4c.eq_1 (dv G Γ H0) ((a0 : Int)) (p1.toInt) (j4_2.toInt) (j4_3.toInt)))
      refine lv_iload_n hx hb gX7_mostAt_0.2.2.2.2.1 rfl (lv_at hl 3 rfl) ?_
      refine lv_aload_n hx hb gX7_mostAt_0.2.2.2.2.2.1 rfl (lv_at hl 0 rfl) ?_
      refine th_getK hC cf_X7 hB.1 h0 ro_27 rfl (j := 8) (by decide) mbn8 kf_X7_38 gX7_mostAt_0.2.2.2.2.2.2.1 ?_
      replace hF := hF.trans (congrArg (dv_k f_X7_mostAt_4b) (dv_bn (dv_getR h0 ro_27 (j := 8) rfl mbn8 (by decide))))
      refine th_getI (j := 7) hC cf_X1 hB.1 hbn8 ro_3 rfl rfl kf_X7_123 gX7_mostAt_0.2.2.2.2.2.2.2 (fun x1 mx1 lx1 ux1 => ?_)
      replace hF := hF.trans (congrArg (dv_k f_X7_mostAt_4b) (dv_bn (dv_getI hbn8 ro_3 (j := 7) rfl mx1 (by decide))))
      refine tr_icmp_ge (tgt := 49) hx hb gX7_mostAt_1.1 (by decide) (Eq.refl _) (Eq.refl _) (fun c12 => ?_) (fun c12 => ?_)
      · replace hF := hF.trans (congrArg (dv_k f_X7_mostAt_4b) (if_pos c12))
        refine lv_iload_n hx hb gX7_mostAt_3.2.2.2.1 rfl (lv_at hl 2 rfl) ?_
        replace hF := hF.trans (dv_kr)
        exact th_iret hC hH hr hlocks rfl hB.2.1 ⟨_, rfl, (hF0.symm.trans hF), rfl⟩ gX7_mostAt_3.2.2.2.2
      · replace hF := hF.trans (congrArg (dv_k f_X7_mostAt_4b) (if_neg (Int.not_le.mpr c12)))
        refine lv_iload_n hx hb gX7_mostAt_1.2.1 rfl (lv_at hl 1 rfl) ?_
        refine tr_if_lt (tgt := 49) hx hb gX7_mostAt_1.2.2.1 (by decide) (Eq.refl _) (fun c16 => ?_) (fun c16 => ?_)
        · replace hF := hF.trans (congrArg (dv_k f_X7_mostAt_4b) (if_pos c16))
          refine lv_iload_n hx hb gX7_mostAt_3.2.2.2.1 rfl (lv_at hl 2 rfl) ?_
          replace hF := hF.trans (dv_kr)
          exact th_iret hC hH hr hlocks rfl hB.2.1 ⟨_, rfl, (hF0.symm.trans hF), rfl⟩ gX7_mostAt_3.2.2.2.2
        · replace hF := hF.trans (congrArg (dv_k f_X7_mostAt_4b) (if_neg (Int.not_lt.mpr c16)))
          refine lv_iload_n hx hb gX7_mostAt_1.2.2.2.1 rfl (lv_at hl 1 rfl) ?_
          refine lv_sipush (v := 144) hx hb gX7_mostAt_1.2.2.2.2.1 (by decide) ?_
          refine tr_icmp_ge (tgt := 49) hx hb gX7_mostAt_1.2.2.2.2.2.1 (by decide) (Eq.refl _) tk_144 (fun c23 => ?_) (fun c23 => ?_)
          · exfalso; omega
          · replace hF := hF.trans (congrArg (dv_k f_X7_mostAt_4b) (if_neg (Int.not_le.mpr c23)))
            refine lv_iload_n hx hb gX7_mostAt_1.2.2.2.2.2.2.1 rfl (lv_at hl 2 rfl) ?_
            refine lv_aload_n hx hb gX7_mostAt_1.2.2.2.2.2.2.2 rfl (lv_at hl 0 rfl) ?_
            refine th_getO (j := 3) (r2 := 30) hC cf_X7 hB.1 h0 ro_27 rfl rfl kf_X7_25 gX7_mostAt_2.1 (fun b2 mb2 hb2 => ?_)
            refine lv_iload_n hx hb gX7_mostAt_2.2.1 rfl (lv_at hl 3 rfl) ?_
            refine lv_sipush (v := 144) hx hb gX7_mostAt_2.2.2.1 (by decide) ?_
            refine tr_imul hx hb gX7_mostAt_2.2.2.2.1 (Eq.refl _) tk_144 (by omega) (by omega) (fun x3 ex3 => ?_)
            replace hF := hF.trans (congrArg (dv_k f_X7_mostAt_4b) (dv_bn (ex3.symm)))
            refine lv_iload_n hx hb gX7_mostAt_2.2.2.2.2.1 rfl (lv_at hl 1 rfl) ?_
            refine tr_iadd hx hb gX7_mostAt_2.2.2.2.2.2.1 (Eq.refl _) (Eq.refl _) (by omega) (by omega) (fun x4 ex4 => ?_)
            replace hF := hF.trans (congrArg (dv_k f_X7_mostAt_4b) (dv_bn (ex4.symm)))
            refine th_ialdF hC hB.1 hb2 ro_30 rfl (Eq.refl _) (by omega) (by omega) rfl gX7_mostAt_2.2.2.2.2.2.2.1 (fun x5 mx5 lx5 ux5 => ?_)
            replace hF := hF.trans (congrArg (dv_k f_X7_mostAt_4b) (dv_bn (dv_aldI hB.1 hU hb2 ow_30 (z := x4.toInt) mx5 (by omega))))
            refine tr_mmax hC kma_X7_126 hl.1 (Eq.refl _) (Eq.refl _) (Nat.le_of_ble_eq_true rfl) (Nat.le_of_ble_eq_true rfl) (Nat.le_of_ble_eq_true rfl) (Nat.le_of_ble_eq_true rfl) gX7_mostAt_2.2.2.2.2.2.2.2 (fun x6 ex6 => ?_)
            replace hF := hF.trans (congrArg (dv_k f_X7_mostAt_4b) (dv_bn (dv_max_e ex6)))
            refine lv_istore_n (lv' := [(2, .int x6), (0, .ref a0), (1, .int p1), (3, .int j4_3)]) hx hb gX7_mostAt_3.1 rfl hl (by decide) rfl (fun ls hl => ?_)
            refine tr_iinc (fun x7 => [(3, .int x7), (2, .int x6), (0, .ref a0), (1, .int p1)]) hx hb gX7_mostAt_3.2.1 hl (k := 3) rfl (Eq.refl _) tk_1 (by omega) (by omega) (by decide) (fun _ => rfl) (fun x7 ls ex7 hl => ?_)
            replace hF := hF.trans (congrArg (dv_k f_X7_mostAt_4b) (dv_bn (ex7.symm)))
            refine lv_goto (tgt := 4) hx hb gX7_mostAt_3.2.2.1 (by decide) ?_
            replace hF := hF.trans (dv_kl)
            exact ih4 locs ls x6 x7 hB (lv_sub hl [2, 3, 1, 0] rfl) hF (by omega) (by omega) (by omega) (by omega)
  exact lp4 ((2147483648 : Int) - (0)).toNat [] ls 0 0 hB (lv_sub hl [2, 3, 1, 0] rfl) (by rw [tk_0]; exact hF) (by decide) (by decide) (by decide) (by have w0 := tk_0; omega)

set_option maxHeartbeats 4000000 in
set_option maxRecDepth 100000 in
theorem c_X7_bestLook (l : Launch) (G : th_G) (Γ : th_Ga) (H0 : Heap) (hI : th_I G Γ H0) (hU : dv_U Γ) (a0 : Nat) (h0 : Γ a0 = (27, 0)) (nn8 : ∃ b : Nat, th_sl H0 a0 (G.1.1.2 7 8) = .ref b ∧ Γ b = (3, 0)) : Met l yX7_bestLook (.code yX7_bestLook cX7_bestLook 3 (some FieldType.int) :: th_tb) ({ frames := 2, cells := 0, slots := 0, locals := 44 } : Room) (th_P [.ref a0] G H0) (th_Q (fun (v : Option Value) (H1 : Heap) => ∃ r : Int32, v = some (.int r) ∧ (-1) ≤ r.toInt ∧ r.toInt ≤ 143 ∧ (f_X7_bestLook (dv G Γ H0) (a0 : Int) = (r.toInt, ())) ∧ H0 = H1) G) 0 0 (fun q => G.1.2.2 ≤ q) := by
  refine th_met RX7 (by decide) rfl (Nat.le_of_ble_eq_true rfl) ?_
  intro p e s m below meth c hC hH hr hlocks hnm ls hl
  have hx := hC.1
  have hb := hC.2.1
  have hB : th_B G Γ Γ [] H0 H0 [] := ⟨hI, va_S.rf, th_F_rf⟩
  have hl : lv_has ls 3 [(0, .ref a0)] := hl
  obtain ⟨bn8, mbn8, hbn8⟩ := nn8
  obtain ⟨F, hF0⟩ : ∃ F, F = f_X7_bestLook (dv G Γ H0) ((a0 : Int)) := ⟨_, rfl⟩
  have hF := hF0.trans (f_X7_bestLook.eq_1 (dv G Γ H0) ((a0 : Int)))
  refine lv_iconst (v := (-1)) hx hb gX7_bestLook_0.1 (by decide) ?_
  refine lv_istore_n (lv' := [(1, .int (-1)), (0, .ref a0)]) hx hb gX7_bestLook_0.2.1 rfl hl (by decide) rfl (fun ls hl => ?_)
  refine lv_iconst (v := 0) hx hb gX7_bestLook_0.2.2.1 (by decide) ?_
  refine lv_istore_n (lv' := [(2, .int 0), (1, .int (-1)), (0, .ref a0)]) hx hb gX7_bestLook_0.2.2.2.1 rfl hl (by decide) rfl (fun ls hl => ?_)
  have lp4 : ∀ (n4 : Nat) (locs : List Loc) (ls : Array Slot) (j4_1 : Int32) (j4_2 : Int32), th_B G Γ Γ [] H0 H0 locs → lv_has ls 3 [(0, .ref a0), (1, .int j4_1), (2, .int j4_2)] → F = dv_lp f_X7_bestLook_4b (dv G Γ H0, (a0 : Int), j4_1.toInt, j4_2.toInt) → (-1) ≤ j4_1.toInt → j4_1.toInt ≤ 143 → 0 ≤ j4_2.toInt → j4_2.toInt ≤ 144 → (2147483648 : Int) - j4_2.toInt ≤ (n4 : Int) → W p l e ({ frames := 2, cells := 0, slots := 0, locals := 44 } : Room) s m ([.ref a0] : List Value).toArray below meth c H0 locs 0 0 (MQ below (th_Q (fun (v : Option Value) (H1 : Heap) => ∃ r : Int32, v = some (.int r) ∧ (-1) ≤ r.toInt ∧ r.toInt ≤ 143 ∧ (f_X7_bestLook (dv G Γ H0) (a0 : Int) = (r.toInt, ())) ∧ H0 = H1) G) ([.ref a0] : List Value).toArray s 0 0 (fun q => G.1.2.2 ≤ q)) (F0 m 4 ls []) := by
    intro n4
    induction n4 with
    | zero => intro locs ls j4_1 j4_2 hB hl hF g4_0 g4_1 g4_2 g4_3 hm4; exact absurd hm4 (by have := ti_hi j4_2; omega)
    | succ n4 ih4 =>
      intro locs ls j4_1 j4_2 hB hl hF g4_0 g4_1 g4_2 g4_3 hm4
      have lj4_1 := ti_lo j4_1; have uj4_1 := ti_hi j4_1
      have lj4_2 := ti_lo j4_2; have uj4_2 := ti_hi j4_2
      have hm4 : (2147483648 : Int) - j4_2.toInt ≤ (n4 : Int) + 1 := by omega
      replace hF := hF.trans (dv_lp_eq)
      replace hF := hF.trans (congrArg (dv_k f_X7_bestLook_4b) (f_X7_bestLook_4c.eq_1 (dv G Γ H0) ((a0 : Int)) (j4_1.toInt) (j4_2.toInt)))
      refine lv_iload_n hx hb gX7_bestLook_0.2.2.2.2.1 rfl (lv_at hl 2 rfl) ?_
      refine lv_sipush (v := 144) hx hb gX7_bestLook_0.2.2.2.2.2.1 (by decide) ?_
      refine tr_icmp_ge (tgt := 46) hx hb gX7_bestLook_0.2.2.2.2.2.2.1 (by decide) (Eq.refl _) tk_144 (fun c8 => ?_) (fun c8 => ?_)
      · replace hF := hF.trans (congrArg (dv_k f_X7_bestLook_4b) (if_pos c8))
        refine lv_iload_n hx hb gX7_bestLook_3.2.2.1 rfl (lv_at hl 1 rfl) ?_
        replace hF := hF.trans (dv_kr)
        exact th_iret hC hH hr hlocks rfl hB.2.1 ⟨_, rfl, by omega, by omega, (hF0.symm.trans hF), rfl⟩ gX7_bestLook_3.2.2.2
      · replace hF := hF.trans (congrArg (dv_k f_X7_bestLook_4b) (if_neg (Int.not_le.mpr c8)))
        refine lv_aload_n hx hb gX7_bestLook_0.2.2.2.2.2.2.2 rfl (lv_at hl 0 rfl) ?_
        refine lv_lconst (v := 0) hx hb gX7_bestLook_1.1 rfl ?_
        refine lv_iload_n hx hb gX7_bestLook_1.2.1 rfl (lv_at hl 2 rfl) ?_
        refine th_call (th_runV (As := [.long 0, .int j4_2]) (rest := []) hC mf_X7_isBare km_X7_115 im_X7_isBare se_X7_isBare (c_X7_isBare l G Γ H0 hB.1 hU a0 h0 0 j4_2 (by omega) (by omega) ⟨_, mbn8, hbn8⟩) rfl rfl ⟨Nat.le_of_ble_eq_true rfl, Nat.le_of_ble_eq_true rfl⟩ hB.1 h0 ro_27 rfl rfl hl.1 rfl (Nat.le_of_ble_eq_true rfl) gX7_bestLook_1.2.2.1 ⟨Nat.le_refl _, Nat.le_refl _⟩) hB.2.1 (fun v14 H14 locs hp hz hS => ?_)
        obtain ⟨x1, rfl, lx1, ux1, q14_0, rfl⟩ := hp
        have hB := th_B_s hB hS
        have zf14 := q14_0
        rw [show (0 : Int64).toInt = 0 from rfl] at zf14
        replace hF := hF.trans (congrArg (dv_k f_X7_bestLook_4b) (dv_bn2 (zf14)))
        refine W.eq (g2 := F0 m 17 ls [.int x1]) rfl ?_
        have jn40 : ∀ (locs : List Loc) (ls : Array Slot) (j40_1 : Int32), th_B G Γ Γ [] H0 H0 locs → lv_has ls 3 [(0, .ref a0), (2, .int j4_2), (1, .int j40_1)] → F = dv_k f_X7_bestLook_4b (f_X7_bestLook_40 (dv G Γ H0) ((a0 : Int)) (j4_2.toInt) (j40_1.toInt)) → (-1) ≤ j40_1.toInt → j40_1.toInt ≤ 143 → W p l e ({ frames := 2, cells := 0, slots := 0, locals := 44 } : Room) s m ([.ref a0] : List Value).toArray below meth c H0 locs 0 0 (MQ below (th_Q (fun (v : Option Value) (H1 : Heap) => ∃ r : Int32, v = some (.int r) ∧ (-1) ≤ r.toInt ∧ r.toInt ≤ 143 ∧ (f_X7_bestLook (dv G Γ H0) (a0 : Int) = (r.toInt, ())) ∧ H0 = H1) G) ([.ref a0] : List Value).toArray s 0 0 (fun q => G.1.2.2 ≤ q)) (F0 m 40 ls []) := by
          intro locs ls j40_1 hB hl hF g40_0 g40_1
          have lj40_1 := ti_lo j40_1; have uj40_1 := ti_hi j40_1
          replace hF := hF.trans (congrArg (dv_k f_X7_bestLook_4b) (f_X7_bestLook_40.eq_1 (dv G Γ H0) ((a0 : Int)) (j4_2.toInt) (j40_1.toInt)))
          refine tr_iinc (fun x2 => [(2, .int x2), (0, .ref a0), (1, .int j40_1)]) hx hb gX7_bestLook_3.1 hl (k := 1) rfl (Eq.refl _) tk_1 (by omega) (by omega) (by decide) (fun _ => rfl) (fun x2 ls ex2 hl => ?_)
          replace hF := hF.trans (congrArg (dv_k f_X7_bestLook_4b) (dv_bn (ex2.symm)))
          refine lv_goto (tgt := 4) hx hb gX7_bestLook_3.2.1 (by decide) ?_
          replace hF := hF.trans (dv_kl)
          exact ih4 locs ls j40_1 x2 hB (lv_sub hl [1, 2, 0] rfl) hF (by omega) (by omega) (by omega) (by omega) (by omega)
        refine tr_if_eq (tgt := 40) hx hb gX7_bestLook_1.2.2.2.1 (by decide) (Eq.refl _) (fun c17 => ?_) (fun c17 => ?_)
        · replace hF := hF.trans (congrArg (dv_k f_X7_bestLook_4b) (if_pos c17))
          exact jn40 locs ls j4_1 hB (lv_sub hl [0, 2, 1] rfl) hF (by omega) (by omega)
        · replace hF := hF.trans (congrArg (dv_k f_X7_bestLook_4b) (if_neg c17))
          refine lv_iload_n hx hb gX7_bestLook_1.2.2.2.2.1 rfl (lv_at hl 1 rfl) ?_
          refine lv_iconst (v := (-1)) hx hb gX7_bestLook_1.2.2.2.2.2.1 (by decide) ?_
          have jn38 : ∀ (locs : List Loc) (ls : Array Slot) , th_B G Γ Γ [] H0 H0 locs → lv_has ls 3 [(0, .ref a0), (2, .int j4_2)] → F = dv_k f_X7_bestLook_4b (f_X7_bestLook_38 (dv G Γ H0) ((a0 : Int)) (j4_2.toInt)) → W p l e ({ frames := 2, cells := 0, slots := 0, locals := 44 } : Room) s m ([.ref a0] : List Value).toArray below meth c H0 locs 0 0 (MQ below (th_Q (fun (v : Option Value) (H1 : Heap) => ∃ r : Int32, v = some (.int r) ∧ (-1) ≤ r.toInt ∧ r.toInt ≤ 143 ∧ (f_X7_bestLook (dv G Γ H0) (a0 : Int) = (r.toInt, ())) ∧ H0 = H1) G) ([.ref a0] : List Value).toArray s 0 0 (fun q => G.1.2.2 ≤ q)) (F0 m 38 ls []) := by
            intro locs ls hB hl hF
            replace hF := hF.trans (congrArg (dv_k f_X7_bestLook_4b) (f_X7_bestLook_38.eq_1 (dv G Γ H0) ((a0 : Int)) (j4_2.toInt)))
            refine lv_iload_n hx hb gX7_bestLook_2.2.2.2.2.2.2.1 rfl (lv_at hl 1 rfl) ?_
            refine lv_istore_n (lv' := [(1, .int j4_2), (0, .ref a0), (2, .int j4_2)]) hx hb gX7_bestLook_2.2.2.2.2.2.2.2 rfl hl (by decide) rfl (fun ls hl => ?_)
            exact jn40 locs ls j4_2 hB (lv_sub hl [1, 2, 0] rfl) hF (by omega) (by omega)
          refine tr_icmp_eq (tgt := 38) hx hb gX7_bestLook_1.2.2.2.2.2.2.1 (by decide) (Eq.refl _) tk_m1 (fun c22 => ?_) (fun c22 => ?_)
          · replace hF := hF.trans (congrArg (dv_k f_X7_bestLook_4b) (if_pos c22))
            exact jn38 locs ls hB (lv_sub hl [0, 2] rfl) hF
          · replace hF := hF.trans (congrArg (dv_k f_X7_bestLook_4b) (if_neg c22))
            refine lv_aload_n hx hb gX7_bestLook_1.2.2.2.2.2.2.2 rfl (lv_at hl 0 rfl) ?_
            refine lv_iload_n hx hb gX7_bestLook_2.1 rfl (lv_at hl 2 rfl) ?_
            refine th_call (th_runV (As := [.int j4_2]) (rest := []) hC mf_X7_mostAt km_X7_119 im_X7_mostAt se_X7_mostAt (c_X7_mostAt l G Γ H0 hB.1 hU a0 h0 j4_2 (by omega) (by omega) ⟨_, mbn8, hbn8⟩) rfl rfl ⟨Nat.le_of_ble_eq_true rfl, Nat.le_of_ble_eq_true rfl⟩ hB.1 h0 ro_27 rfl rfl hl.1 rfl (Nat.le_of_ble_eq_true rfl) gX7_bestLook_2.2.1 ⟨Nat.le_refl _, Nat.le_refl _⟩) hB.2.1 (fun v27 H27 locs hp hz hS => ?_)
            obtain ⟨x3, rfl, q27_0, rfl⟩ := hp
            have hB := th_B_s hB hS
            replace hF := hF.trans (congrArg (dv_k f_X7_bestLook_4b) (dv_bn2 (q27_0)))
            refine W.eq (g2 := F0 m 30 ls [.int x3]) rfl ?_
            refine lv_aload_n hx hb gX7_bestLook_2.2.2.1 rfl (lv_at hl 0 rfl) ?_
            refine lv_iload_n hx hb gX7_bestLook_2.2.2.2.1 rfl (lv_at hl 1 rfl) ?_
            refine th_call (th_runV (As := [.int j4_1]) (rest := [.int x3]) hC mf_X7_mostAt km_X7_119 im_X7_mostAt se_X7_mostAt (c_X7_mostAt l G Γ H0 hB.1 hU a0 h0 j4_1 (by omega) (by omega) ⟨_, mbn8, hbn8⟩) rfl rfl ⟨Nat.le_of_ble_eq_true rfl, Nat.le_of_ble_eq_true rfl⟩ hB.1 h0 ro_27 rfl rfl hl.1 rfl (Nat.le_of_ble_eq_true rfl) gX7_bestLook_2.2.2.2.2.1 ⟨Nat.le_refl _, Nat.le_refl _⟩) hB.2.1 (fun v32 H32 locs hp hz hS => ?_)
            obtain ⟨x4, rfl, q32_0, rfl⟩ := hp
            have hB := th_B_s hB hS
            replace hF := hF.trans (congrArg (dv_k f_X7_bestLook_4b) (dv_bn2 (q32_0)))
            refine W.eq (g2 := F0 m 35 ls [.int x4, .int x3]) rfl ?_
            refine tr_icmp_ge (tgt := 40) hx hb gX7_bestLook_2.2.2.2.2.2.1 (by decide) (Eq.refl _) (Eq.refl _) (fun c35 => ?_) (fun c35 => ?_)
            · replace hF := hF.trans (congrArg (dv_k f_X7_bestLook_4b) (if_pos c35))
              exact jn40 locs ls j4_1 hB (lv_sub hl [0, 2, 1] rfl) hF (by omega) (by omega)
            · replace hF := hF.trans (congrArg (dv_k f_X7_bestLook_4b) (if_neg (Int.not_le.mpr c35)))
              exact jn38 locs ls hB (lv_sub hl [0, 2] rfl) hF
  exact lp4 ((2147483648 : Int) - (0)).toNat [] ls (-1) 0 hB (lv_sub hl [2, 1, 0] rfl) (by rw [tk_m1, tk_0]; exact hF) (by decide) (by decide) (by decide) (by decide) (by have w0 := tk_0; have w1 := tk_m1; omega)

set_option maxHeartbeats 4000000 in
set_option maxRecDepth 100000 in
theorem c_X7_begin (l : Launch) (G : th_G) (Γ : th_Ga) (H0 : Heap) (hI : th_I G Γ H0) (hR : th_RC G Γ H0) (hU : dv_U Γ) (a0 : Nat) (h0 : Γ a0 = (27, 0)) (p1 : Int32) (f1 : 0 ≤ p1.toInt) (g1 : p1.toInt ≤ 1) (p2 : Int32) : Met l yX7_begin (.code yX7_begin cX7_begin 3 (none) :: th_tb) ({ frames := 1, cells := 0, slots := 0, locals := 21 } : Room) (th_P [.ref a0, .int p1, .int p2] G H0) (th_Q (fun (v : Option Value) (H1 : Heap) => v = none ∧ th_I G Γ H1 ∧ th_F G Γ [(27, 12), (27, 13), (27, 6), (27, 5), (12, 5), (12, 6)] H0 H1 ∧ th_RC G Γ H1) G) 0 0 (fun q => G.1.2.2 ≤ q) := by
  refine th_met RX7 (by decide) rfl (Nat.le_of_ble_eq_true rfl) ?_
  intro p e s m below meth c hC hH hr hlocks hnm ls hl
  have hx := hC.1
  have hb := hC.2.1
  have hB : th_B G Γ Γ [(27, 12), (27, 13), (27, 6), (27, 5), (12, 5), (12, 6)] H0 H0 [] := ⟨hI, va_S.rf, th_F_rf⟩
  have hl : lv_has ls 3 [(0, .ref a0), (1, .int p1), (2, .int p2)] := hl
  have lp1 := ti_lo p1; have up1 := ti_hi p1
  have lp2 := ti_lo p2; have up2 := ti_hi p2
  refine lv_aload_n hx hb gX7_begin_0.1 rfl (lv_at hl 0 rfl) ?_
  refine lv_iload_n hx hb gX7_begin_0.2.1 rfl (lv_at hl 1 rfl) ?_
  refine th_put hC cf_X7 hB h0 (Or.inl h0) ro_27 rfl (j := 12) rfl (th_sI (by omega) (by omega)) (by decide) rfl (th_nb (by omega) (by omega)) (th_fb (by omega) (by omega)) kf_X7_131 gX7_begin_0.2.2.1 (fun H2 locs hB hf hst2 => ?_)
  have hR := th_RC_F hB.1 hR hf (th_T_s h0 ro_27 hst2) (by decide)
  refine lv_aload_n hx hb gX7_begin_0.2.2.2.1 rfl (lv_at hl 0 rfl) ?_
  refine lv_iload_n hx hb gX7_begin_0.2.2.2.2.1 rfl (lv_at hl 2 rfl) ?_
  refine th_put hC cf_X7 hB h0 (Or.inl h0) ro_27 rfl (j := 13) rfl th_sIa (by decide) rfl rfl rfl kf_X7_135 gX7_begin_0.2.2.2.2.2.1 (fun H7 locs hB hf hst7 => ?_)
  have hR := th_RC_F hB.1 hR hf (th_T_s h0 ro_27 hst7) (by decide)
  refine lv_aload_n hx hb gX7_begin_0.2.2.2.2.2.2.1 rfl (lv_at hl 0 rfl) ?_
  refine th_getR (j := 0) (r2 := 12) hC cf_X7 hB.1 h0 ro_27 rfl rfl kf_X7_12 gX7_begin_0.2.2.2.2.2.2.2 (fun b1 mb1 hb1 => ?_)
  refine th_call (th_runV (As := []) (rest := []) hC mf_X3_clear km_X7_138 im_X3_clear se_X3_clear (c_X3_clear l G Γ H7 hB.1 hR b1 hb1) rfl rfl ⟨Nat.le_of_ble_eq_true rfl, Nat.le_of_ble_eq_true rfl⟩ hB.1 hb1 ro_12 rfl rfl hl.1 rfl (Nat.le_of_ble_eq_true rfl) gX7_begin_1.1 ⟨Nat.le_refl _, Nat.le_refl _⟩) hB.2.1 (fun v14 H14 locs hp hz hS => ?_)
  obtain ⟨rfl, hI1, hf, hR, z14_0⟩ := hp
  have hB := th_B_c hB hI1 hS hf (by decide)
  refine W.eq (g2 := F0 m 17 ls []) rfl ?_
  refine lv_aload_n hx hb gX7_begin_1.2.1 rfl (lv_at hl 0 rfl) ?_
  refine lv_dup hx hb gX7_begin_1.2.2.1 rfl ?_
  refine th_getI (j := 6) hC cf_X7 hB.1 h0 ro_27 rfl rfl kf_X7_35 gX7_begin_1.2.2.2.1 (fun x2 mx2 lx2 ux2 => ?_)
  refine lv_iconst (v := 1) hx hb gX7_begin_1.2.2.2.2.1 (by decide) ?_
  refine lv_iadd hx hb gX7_begin_1.2.2.2.2.2.1 ?_
  refine lv_topi (fun x3 ex3 => ?_)
  have lx3 := ti_lo x3; have ux3 := ti_hi x3
  refine th_put hC cf_X7 hB h0 (Or.inl h0) ro_27 rfl (j := 6) rfl th_sIa (by decide) rfl rfl rfl kf_X7_35 gX7_begin_1.2.2.2.2.2.2.1 (fun H24 locs hB hf hst24 => ?_)
  have hR := th_RC_F hB.1 hR hf (th_T_s h0 ro_27 hst24) (by decide)
  refine lv_aload_n hx hb gX7_begin_1.2.2.2.2.2.2.2 rfl (lv_at hl 0 rfl) ?_
  refine lv_iconst (v := 0) hx hb gX7_begin_2.1 (by decide) ?_
  refine th_put hC cf_X7 hB h0 (Or.inl h0) ro_27 rfl (j := 5) rfl th_sIa (by decide) rfl rfl rfl kf_X7_31 gX7_begin_2.2.1 (fun H29 locs hB hf hst29 => ?_)
  have hR := th_RC_F hB.1 hR hf (th_T_s h0 ro_27 hst29) (by decide)
  exact th_vret hC hH hr hlocks hB.2.1 ⟨rfl, hB.1, hB.2.2, hR⟩ gX7_begin_2.2.2

set_option maxHeartbeats 4000000 in
set_option maxRecDepth 100000 in
theorem c_X7_heed (l : Launch) (G : th_G) (Γ : th_Ga) (H0 : Heap) (hI : th_I G Γ H0) (hR : th_RC G Γ H0) (hU : dv_U Γ) (a0 : Nat) (h0 : Γ a0 = (27, 0)) (p1 : Nat) (h1 : Γ p1 = (32, 0)) (nn8 : ∃ b : Nat, th_sl H0 a0 (G.1.1.2 7 8) = .ref b ∧ Γ b = (3, 0)) : Met l yX7_heed (.code yX7_heed cX7_heed 4 (some FieldType.boolean) :: th_tb) ({ frames := 3, cells := 0, slots := 0, locals := 65 } : Room) (th_P [.ref a0, .ref p1] G H0) (th_Q (fun (v : Option Value) (H1 : Heap) => ∃ r : Int32, v = some (.int r) ∧ 0 ≤ r.toInt ∧ r.toInt ≤ 1 ∧ th_I G Γ H1 ∧ th_F G Γ [(27, 10)] H0 H1 ∧ th_RC G Γ H1 ∧ (f_X7_heed (dv G Γ H0) (a0 : Int) (p1 : Int) = (dv G Γ H1, r.toInt))) G) 0 0 (fun q => G.1.2.2 ≤ q) := by
  refine th_met RX7 (by decide) rfl (Nat.le_of_ble_eq_true rfl) ?_
  intro p e s m below meth c hC hH hr hlocks hnm ls hl
  have hx := hC.1
  have hb := hC.2.1
  have hB : th_B G Γ Γ [(27, 10)] H0 H0 [] := ⟨hI, va_S.rf, th_F_rf⟩
  have hl : lv_has ls 4 [(0, .ref a0), (1, .ref p1)] := hl
  obtain ⟨bn8, mbn8, hbn8⟩ := nn8
  obtain ⟨F, hF0⟩ : ∃ F, F = f_X7_heed (dv G Γ H0) ((a0 : Int)) ((p1 : Int)) := ⟨_, rfl⟩
  have hF := hF0.trans (f_X7_heed.eq_1 (dv G Γ H0) ((a0 : Int)) ((p1 : Int)))
  refine lv_aload_n hx hb gX7_heed_0.1 rfl (lv_at hl 0 rfl) ?_
  refine lv_aload_n hx hb gX7_heed_0.2.1 rfl (lv_at hl 1 rfl) ?_
  refine th_put hC cf_X7 hB h0 (Or.inl h0) ro_27 rfl (j := 10) rfl (th_sQ h1) (by decide) rfl rfl rfl kf_X7_50 gX7_heed_0.2.2.1 (fun H2 locs hB hf hst2 => ?_)
  have mm1 := (th_F_o hf h0 ro_27 (j := 8) (by decide) (by decide)).trans mbn8
  have hR := th_RC_F hB.1 hR hf (th_T_s h0 ro_27 hst2) (by decide)
  replace hF := hF.trans (dv_bn (dv_putR hB.1 h0 ro_27 (j := 10) rfl (th_apart hC cf_X7) hst2 (by decide)))
  refine lv_iconst (v := 0) hx hb gX7_heed_0.2.2.2.1 (by decide) ?_
  refine lv_istore_n (lv' := [(2, .int 0), (0, .ref a0), (1, .ref p1)]) hx hb gX7_heed_0.2.2.2.2.1 rfl hl (by decide) rfl (fun ls hl => ?_)
  have lp7 : ∀ (n7 : Nat) (locs : List Loc) (ls : Array Slot) (j7_2 : Int32), th_B G Γ Γ [(27, 10)] H0 H2 locs → lv_has ls 4 [(0, .ref a0), (1, .ref p1), (2, .int j7_2)] → F = dv_lp f_X7_heed_7b (dv G Γ H2, (a0 : Int), (p1 : Int), j7_2.toInt) → 0 ≤ j7_2.toInt → j7_2.toInt ≤ 6 → (2147483648 : Int) - j7_2.toInt ≤ (n7 : Int) → W p l e ({ frames := 3, cells := 0, slots := 0, locals := 65 } : Room) s m ([.ref a0, .ref p1] : List Value).toArray below meth c H2 locs 0 0 (MQ below (th_Q (fun (v : Option Value) (H1 : Heap) => ∃ r : Int32, v = some (.int r) ∧ 0 ≤ r.toInt ∧ r.toInt ≤ 1 ∧ th_I G Γ H1 ∧ th_F G Γ [(27, 10)] H0 H1 ∧ th_RC G Γ H1 ∧ (f_X7_heed (dv G Γ H0) (a0 : Int) (p1 : Int) = (dv G Γ H1, r.toInt))) G) ([.ref a0, .ref p1] : List Value).toArray s 0 0 (fun q => G.1.2.2 ≤ q)) (F0 m 7 ls []) := by
    intro n7
    induction n7 with
    | zero => intro locs ls j7_2 hB hl hF g7_0 g7_1 hm7; exact absurd hm7 (by have := ti_hi j7_2; omega)
    | succ n7 ih7 =>
      intro locs ls j7_2 hB hl hF g7_0 g7_1 hm7
      have lj7_2 := ti_lo j7_2; have uj7_2 := ti_hi j7_2
      have hm7 : (2147483648 : Int) - j7_2.toInt ≤ (n7 : Int) + 1 := by omega
      replace hF := hF.trans (dv_lp_eq)
      replace hF := hF.trans (congrArg (dv_k f_X7_heed_7b) (f_X7_heed_7c.eq_1 (dv G Γ H2) ((a0 : Int)) ((p1 : Int)) (j7_2.toInt)))
      refine lv_iload_n hx hb gX7_heed_0.2.2.2.2.2.1 rfl (lv_at hl 2 rfl) ?_
      refine lv_aload_n hx hb gX7_heed_0.2.2.2.2.2.2.1 rfl (lv_at hl 1 rfl) ?_
      refine th_getI (j := 7) hC cf_X8 hB.1 h1 ro_32 rfl rfl kf_X7_66 gX7_heed_0.2.2.2.2.2.2.2 (fun x2 mx2 lx2 ux2 => ?_)
      replace hF := hF.trans (congrArg (dv_k f_X7_heed_7b) (dv_bn (dv_getI h1 ro_32 (j := 7) rfl mx2 (by decide))))
      have sx2 := (th_F_o hB.2.2 h1 ro_32 (j := 7) (by decide) (by decide)).symm.trans mx2
      refine tr_icmp_ge (tgt := 100) hx hb gX7_heed_1.1 (by decide) (Eq.refl _) (Eq.refl _) (fun c12 => ?_) (fun c12 => ?_)
      · replace hF := hF.trans (congrArg (dv_k f_X7_heed_7b) (if_pos c12))
        refine lv_iconst (v := 1) hx hb gX7_heed_7.1 (by decide) ?_
        replace hF := hF.trans (dv_kr)
        exact th_iret hC hH hr hlocks narrow_b1 hB.2.1 ⟨_, rfl, by decide, by decide, hB.1, hB.2.2, hR, (hF0.symm.trans (hF.trans (by rw [tk_1])))⟩ gX7_heed_7.2
      · replace hF := hF.trans (congrArg (dv_k f_X7_heed_7b) (if_neg (Int.not_le.mpr c12)))
        refine lv_aload_n hx hb gX7_heed_1.2.1 rfl (lv_at hl 1 rfl) ?_
        refine th_getO (j := 2) (r2 := 34) hC cf_X8 hB.1 h1 ro_32 rfl rfl kf_X7_71 gX7_heed_1.2.2.1 (fun b3 mb3 hb3 => ?_)
        have sb3 := (th_F_o hB.2.2 h1 ro_32 (j := 2) (by decide) (by decide)).symm.trans mb3
        refine lv_iload_n hx hb gX7_heed_1.2.2.2.1 rfl (lv_at hl 2 rfl) ?_
        refine th_ialdF hC hB.1 hb3 ro_34 rfl (Eq.refl _) (by omega) (by omega) rfl gX7_heed_1.2.2.2.2.1 (fun x4 mx4 lx4 ux4 => ?_)
        replace hF := hF.trans (congrArg (dv_k f_X7_heed_7b) (dv_bn (dv_aldI hB.1 hU hb3 ow_34 (z := j7_2.toInt) mx4 (by omega))))
        refine lv_aload_n hx hb gX7_heed_1.2.2.2.2.2.1 rfl (lv_at hl 0 rfl) ?_
        refine th_getK hC cf_X7 hB.1 h0 ro_27 rfl (j := 8) (by decide) mm1 kf_X7_38 gX7_heed_1.2.2.2.2.2.2.1 ?_
        replace hF := hF.trans (congrArg (dv_k f_X7_heed_7b) (dv_bn (dv_getR h0 ro_27 (j := 8) rfl mm1 (by decide))))
        refine th_getI (j := 8) hC cf_X1 hB.1 hbn8 ro_3 rfl rfl kf_X7_74 gX7_heed_1.2.2.2.2.2.2.2 (fun x5 mx5 lx5 ux5 => ?_)
        replace hF := hF.trans (congrArg (dv_k f_X7_heed_7b) (dv_bn (dv_getI hbn8 ro_3 (j := 8) rfl mx5 (by decide))))
        have sx5 := (th_F_o hB.2.2 hbn8 ro_3 (j := 8) (by decide) (by decide)).symm.trans mx5
        refine tr_icmp_ge (tgt := 47) hx hb gX7_heed_2.1 (by decide) (Eq.refl _) (Eq.refl _) (fun c28 => ?_) (fun c28 => ?_)
        · replace hF := hF.trans (congrArg (dv_k f_X7_heed_7b) (if_pos c28))
          refine lv_iconst (v := 0) hx hb gX7_heed_3.2.1 (by decide) ?_
          replace hF := hF.trans (dv_kr)
          exact th_iret hC hH hr hlocks narrow_b0 hB.2.1 ⟨_, rfl, by decide, by decide, hB.1, hB.2.2, hR, (hF0.symm.trans (hF.trans (by rw [tk_0])))⟩ gX7_heed_3.2.2.1
        · replace hF := hF.trans (congrArg (dv_k f_X7_heed_7b) (if_neg (Int.not_le.mpr c28)))
          refine lv_aload_n hx hb gX7_heed_2.2.1 rfl (lv_at hl 1 rfl) ?_
          refine th_getO (j := 3) (r2 := 35) hC cf_X8 hB.1 h1 ro_32 rfl rfl kf_X7_77 gX7_heed_2.2.2.1 (fun b6 mb6 hb6 => ?_)
          have sb6 := (th_F_o hB.2.2 h1 ro_32 (j := 3) (by decide) (by decide)).symm.trans mb6
          refine lv_iload_n hx hb gX7_heed_2.2.2.2.1 rfl (lv_at hl 2 rfl) ?_
          refine th_ialdF hC hB.1 hb6 ro_35 rfl (Eq.refl _) (by omega) (by omega) rfl gX7_heed_2.2.2.2.2.1 (fun x7 mx7 lx7 ux7 => ?_)
          replace hF := hF.trans (congrArg (dv_k f_X7_heed_7b) (dv_bn (dv_aldI hB.1 hU hb6 ow_35 (z := j7_2.toInt) mx7 (by omega))))
          refine lv_aload_n hx hb gX7_heed_2.2.2.2.2.2.1 rfl (lv_at hl 0 rfl) ?_
          refine th_getK hC cf_X7 hB.1 h0 ro_27 rfl (j := 8) (by decide) mm1 kf_X7_38 gX7_heed_2.2.2.2.2.2.2.1 ?_
          replace hF := hF.trans (congrArg (dv_k f_X7_heed_7b) (dv_bn (dv_getR h0 ro_27 (j := 8) rfl mm1 (by decide))))
          refine th_getI (j := 9) hC cf_X1 hB.1 hbn8 ro_3 rfl rfl kf_X7_80 gX7_heed_2.2.2.2.2.2.2.2 (fun x8 mx8 lx8 ux8 => ?_)
          replace hF := hF.trans (congrArg (dv_k f_X7_heed_7b) (dv_bn (dv_getI hbn8 ro_3 (j := 9) rfl mx8 (by decide))))
          have sx8 := (th_F_o hB.2.2 hbn8 ro_3 (j := 9) (by decide) (by decide)).symm.trans mx8
          refine tr_icmp_lt (tgt := 49) hx hb gX7_heed_3.1 (by decide) (Eq.refl _) (Eq.refl _) (fun c44 => ?_) (fun c44 => ?_)
          · replace hF := hF.trans (congrArg (dv_k f_X7_heed_7b) (if_pos c44))
            refine lv_aload_n hx hb gX7_heed_3.2.2.2.1 rfl (lv_at hl 0 rfl) ?_
            refine th_getK hC cf_X7 hB.1 h0 ro_27 rfl (j := 8) (by decide) mm1 kf_X7_38 gX7_heed_3.2.2.2.2.1 ?_
            replace hF := hF.trans (congrArg (dv_k f_X7_heed_7b) (dv_bn (dv_getR h0 ro_27 (j := 8) rfl mm1 (by decide))))
            refine lv_aload_n hx hb gX7_heed_3.2.2.2.2.2.1 rfl (lv_at hl 1 rfl) ?_
            refine th_getK hC cf_X8 hB.1 h1 ro_32 rfl (j := 2) (by decide) mb3 kf_X7_71 gX7_heed_3.2.2.2.2.2.2.1 ?_
            refine lv_iload_n hx hb gX7_heed_3.2.2.2.2.2.2.2 rfl (lv_at hl 2 rfl) ?_
            refine th_ialdF hC hB.1 hb3 ro_34 rfl (Eq.refl _) (by omega) (by omega) rfl gX7_heed_4.1 (fun x9 mx9 lx9 ux9 => ?_)
            replace hF := hF.trans (congrArg (dv_k f_X7_heed_7b) (dv_bn (dv_aldI hB.1 hU hb3 ow_34 (z := j7_2.toInt) mx9 (by omega))))
            have qx9 : x9.toInt = x4.toInt := by rw [show x9 = x4 from Value.int.inj (mx9.symm.trans mx4)]
            refine lv_aload_n hx hb gX7_heed_4.2.1 rfl (lv_at hl 1 rfl) ?_
            refine th_getK hC cf_X8 hB.1 h1 ro_32 rfl (j := 3) (by decide) mb6 kf_X7_77 gX7_heed_4.2.2.1 ?_
            refine lv_iload_n hx hb gX7_heed_4.2.2.2.1 rfl (lv_at hl 2 rfl) ?_
            refine th_ialdF hC hB.1 hb6 ro_35 rfl (Eq.refl _) (by omega) (by omega) rfl gX7_heed_4.2.2.2.2.1 (fun x10 mx10 lx10 ux10 => ?_)
            replace hF := hF.trans (congrArg (dv_k f_X7_heed_7b) (dv_bn (dv_aldI hB.1 hU hb6 ow_35 (z := j7_2.toInt) mx10 (by omega))))
            have qx10 : x10.toInt = x7.toInt := by rw [show x10 = x7 from Value.int.inj (mx10.symm.trans mx7)]
            refine th_call (th_runV (As := [.int x9, .int x10]) (rest := []) hC mf_X1_carpetOn km_X7_83 im_X1_carpetOn se_X1_carpetOn (c_X1_carpetOn l G Γ H2 hB.1 hU bn8 hbn8 x9 x10) rfl rfl ⟨Nat.le_of_ble_eq_true rfl, Nat.le_of_ble_eq_true rfl⟩ hB.1 hbn8 ro_3 rfl rfl hl.1 rfl (Nat.le_of_ble_eq_true rfl) gX7_heed_4.2.2.2.2.2.1 ⟨Nat.le_refl _, Nat.le_refl _⟩) hB.2.1 (fun v65 H65 locs hp hz hS => ?_)
            obtain ⟨x11, rfl, lx11, ux11, q65_0, rfl⟩ := hp
            have hB := th_B_s hB hS
            replace hF := hF.trans (congrArg (dv_k f_X7_heed_7b) (dv_bn2 (q65_0)))
            refine W.eq (g2 := F0 m 68 ls [.int x11]) rfl ?_
            refine lv_istore_n (lv' := [(3, .int x11), (0, .ref a0), (1, .ref p1), (2, .int j7_2)]) hx hb gX7_heed_4.2.2.2.2.2.2.1 rfl hl (by decide) rfl (fun ls hl => ?_)
            refine lv_iload_n hx hb gX7_heed_4.2.2.2.2.2.2.2 rfl (lv_at hl 0 rfl) ?_
            refine lv_iconst (v := (-1)) hx hb gX7_heed_5.1 (by decide) ?_
            have jn94 : ∀ (locs : List Loc) (ls : Array Slot) , th_B G Γ Γ [(27, 10)] H0 H2 locs → lv_has ls 4 [(0, .ref a0), (1, .ref p1), (2, .int j7_2)] → F = dv_k f_X7_heed_7b (f_X7_heed_94 (dv G Γ H2) ((a0 : Int)) ((p1 : Int)) (j7_2.toInt)) → W p l e ({ frames := 3, cells := 0, slots := 0, locals := 65 } : Room) s m ([.ref a0, .ref p1] : List Value).toArray below meth c H2 locs 0 0 (MQ below (th_Q (fun (v : Option Value) (H1 : Heap) => ∃ r : Int32, v = some (.int r) ∧ 0 ≤ r.toInt ∧ r.toInt ≤ 1 ∧ th_I G Γ H1 ∧ th_F G Γ [(27, 10)] H0 H1 ∧ th_RC G Γ H1 ∧ (f_X7_heed (dv G Γ H0) (a0 : Int) (p1 : Int) = (dv G Γ H1, r.toInt))) G) ([.ref a0, .ref p1] : List Value).toArray s 0 0 (fun q => G.1.2.2 ≤ q)) (F0 m 94 ls []) := by
              intro locs ls hB hl hF
              replace hF := hF.trans (congrArg (dv_k f_X7_heed_7b) (f_X7_heed_94.eq_1 (dv G Γ H2) ((a0 : Int)) ((p1 : Int)) (j7_2.toInt)))
              refine tr_iinc (fun x12 => [(2, .int x12), (0, .ref a0), (1, .ref p1)]) hx hb gX7_heed_6.2.2.2.2.2.2.1 hl (k := 2) rfl (Eq.refl _) tk_1 (by omega) (by omega) (by decide) (fun _ => rfl) (fun x12 ls ex12 hl => ?_)
              replace hF := hF.trans (congrArg (dv_k f_X7_heed_7b) (dv_bn (ex12.symm)))
              refine lv_goto (tgt := 7) hx hb gX7_heed_6.2.2.2.2.2.2.2 (by decide) ?_
              replace hF := hF.trans (dv_kl)
              exact ih7 locs ls x12 hB (lv_sub hl [1, 2, 0] rfl) hF (by omega) (by omega) (by omega)
            refine tr_icmp_eq (tgt := 94) hx hb gX7_heed_5.2.1 (by decide) (Eq.refl _) tk_m1 (fun c71 => ?_) (fun c71 => ?_)
            · replace hF := hF.trans (congrArg (dv_k f_X7_heed_7b) (if_pos c71))
              exact jn94 locs ls hB (lv_sub hl [1, 2, 3] rfl) hF
            · replace hF := hF.trans (congrArg (dv_k f_X7_heed_7b) (if_neg c71))
              refine lv_aload_n hx hb gX7_heed_5.2.2.1 rfl (lv_at hl 1 rfl) ?_
              refine th_getK hC cf_X7 hB.1 h0 ro_27 rfl (j := 8) (by decide) mm1 kf_X7_38 gX7_heed_5.2.2.2.1 ?_
              replace hF := hF.trans (congrArg (dv_k f_X7_heed_7b) (dv_bn (dv_getR h0 ro_27 (j := 8) rfl mm1 (by decide))))
              refine th_getO (j := 0) (r2 := 4) hC cf_X1 hB.1 hbn8 ro_3 rfl rfl kf_X7_87 gX7_heed_5.2.2.2.2.1 (fun b13 mb13 hb13 => ?_)
              have sb13 := (th_F_o hB.2.2 hbn8 ro_3 (j := 0) (by decide) (by decide)).symm.trans mb13
              refine lv_iload_n hx hb gX7_heed_5.2.2.2.2.2.1 rfl (lv_at hl 0 rfl) ?_
              refine th_ialdF hC hB.1 hb13 ro_4 rfl (Eq.refl _) (by omega) (by omega) rfl gX7_heed_5.2.2.2.2.2.2.1 (fun x14 mx14 lx14 ux14 => ?_)
              replace hF := hF.trans (congrArg (dv_k f_X7_heed_7b) (dv_bn (dv_aldI hB.1 hU hb13 ow_4 (z := x11.toInt) mx14 (by omega))))
              refine lv_aload_n hx hb gX7_heed_5.2.2.2.2.2.2.2 rfl (lv_at hl 2 rfl) ?_
              refine th_getO (j := 4) (r2 := 36) hC cf_X8 hB.1 h1 ro_32 rfl rfl kf_X7_90 gX7_heed_6.1 (fun b15 mb15 hb15 => ?_)
              have sb15 := (th_F_o hB.2.2 h1 ro_32 (j := 4) (by decide) (by decide)).symm.trans mb15
              refine lv_iload_n hx hb gX7_heed_6.2.1 rfl (lv_at hl 3 rfl) ?_
              refine th_ialdF hC hB.1 hb15 ro_36 rfl (Eq.refl _) (by omega) (by omega) rfl gX7_heed_6.2.2.1 (fun x16 mx16 lx16 ux16 => ?_)
              replace hF := hF.trans (congrArg (dv_k f_X7_heed_7b) (dv_bn (dv_aldI hB.1 hU hb15 ow_36 (z := j7_2.toInt) mx16 (by omega))))
              refine tr_icmp_eq (tgt := 94) hx hb gX7_heed_6.2.2.2.1 (by decide) (Eq.refl _) (Eq.refl _) (fun c89 => ?_) (fun c89 => ?_)
              · replace hF := hF.trans (congrArg (dv_k f_X7_heed_7b) (if_pos c89))
                exact jn94 locs ls hB (lv_sub hl [1, 2, 3] rfl) hF
              · replace hF := hF.trans (congrArg (dv_k f_X7_heed_7b) (if_neg c89))
                refine lv_iconst (v := 0) hx hb gX7_heed_6.2.2.2.2.1 (by decide) ?_
                replace hF := hF.trans (dv_kr)
                exact th_iret hC hH hr hlocks narrow_b0 hB.2.1 ⟨_, rfl, by decide, by decide, hB.1, hB.2.2, hR, (hF0.symm.trans (hF.trans (by rw [tk_0])))⟩ gX7_heed_6.2.2.2.2.2.1
          · replace hF := hF.trans (congrArg (dv_k f_X7_heed_7b) (if_neg (Int.not_lt.mpr c44)))
            refine lv_iconst (v := 0) hx hb gX7_heed_3.2.1 (by decide) ?_
            replace hF := hF.trans (dv_kr)
            exact th_iret hC hH hr hlocks narrow_b0 hB.2.1 ⟨_, rfl, by decide, by decide, hB.1, hB.2.2, hR, (hF0.symm.trans (hF.trans (by rw [tk_0])))⟩ gX7_heed_3.2.2.1
  exact lp7 ((2147483648 : Int) - (0)).toNat locs ls 0 hB (lv_sub hl [1, 2, 0] rfl) (by rw [tk_0]; exact hF) (by decide) (by decide) (by have w0 := tk_0; omega)
end
section
def th_fit (G : th_G) (Γ : th_Ga) (H : Heap) (a : Nat) (c q : Int32) : Prop := ∃ (fb b o : Nat) (v : Int32), th_sl H a (G.1.1.2 7 8) = .ref fb ∧ Γ fb = (3, 0) ∧ th_sl H fb (G.1.1.2 1 0) = .ref b ∧ Γ b = (4, o) ∧ th_sl H b c.toInt.toNat = .int v ∧ q.toInt % 12 + v.toInt ≤ 12 ∧ q.toInt / 12 + v.toInt ≤ 12
theorem th_fit_F {G : th_G} {Γ : th_Ga} {L : List (Nat × Nat)} {H H1 : Heap} {a : Nat} {c q : Int32} (h : th_fit G Γ H a c q) (ha : Γ a = (27, 0)) (hF : th_F G Γ L H H1) (hL : th_in L 27 8 = false ∧ th_in L 3 0 = false ∧ th_in L 4 0 = false) : th_fit G Γ H1 a c q := by
  obtain ⟨fb, b, o, v, e1, e2, e3, e4, e5, e6⟩ := h
  exact ⟨fb, b, o, v, (th_F_o hF ha ro_27 (j := 8) (by decide) hL.1).trans e1, e2, (th_F_o hF e2 ro_3 (j := 0) (by decide) hL.2.1).trans e3, e4, (th_F_a hF e4 ro_4 hL.2.2 _).trans e5, e6⟩
theorem th_fit_at {G : th_G} {Γ : th_Ga} {H : Heap} {a fb b : Nat} {c q v : Int32} (h : th_fit G Γ H a c q) (e1 : th_sl H a (G.1.1.2 7 8) = .ref fb) (e3 : th_sl H fb (G.1.1.2 1 0) = .ref b) (e5 : th_sl H b c.toInt.toNat = .int v) : q.toInt % 12 + v.toInt ≤ 12 ∧ q.toInt / 12 + v.toInt ≤ 12 := by
  obtain ⟨fb', b', o, v', d1, d2, d3, d4, d5, d6⟩ := h
  rw [e1] at d1; cases d1
  rw [e3] at d3; cases d3
  rw [e5] at d5; cases d5
  exact d6
set_option maxHeartbeats 4000000 in
set_option maxRecDepth 100000 in
theorem c_X7_fits (l : Launch) (G : th_G) (Γ : th_Ga) (H0 : Heap) (hI : th_I G Γ H0) (hU : dv_U Γ) (a0 : Nat) (h0 : Γ a0 = (27, 0)) (p1 : Int64) (p2 : Int32) (p3 : Int32) (f3 : (-1) ≤ p3.toInt) (g3 : p3.toInt ≤ 143) (nn8 : ∃ b : Nat, th_sl H0 a0 (G.1.1.2 7 8) = .ref b ∧ Γ b = (3, 0)) : Met l yX7_fits (.code yX7_fits cX7_fits 10 (some FieldType.boolean) :: th_tb) ({ frames := 2, cells := 0, slots := 0, locals := 42 } : Room) (th_P [.ref a0, .long p1, .int p2, .int p3] G H0) (th_Q (fun (v : Option Value) (H1 : Heap) => ∃ r : Int32, v = some (.int r) ∧ 0 ≤ r.toInt ∧ r.toInt ≤ 1 ∧ (r.toInt = 1 → 0 ≤ p2.toInt ∧ p2.toInt ≤ 8) ∧ (r.toInt = 1 → 0 ≤ p3.toInt) ∧ (r.toInt = 1 → th_fit G Γ H0 a0 p2 p3) ∧ (f_X7_fits (dv G Γ H0) (a0 : Int) p1.toInt p2.toInt p3.toInt = (r.toInt, ())) ∧ H0 = H1) G) 0 0 (fun q => G.1.2.2 ≤ q) := by
  refine th_met RX7 (by decide) rfl (Nat.le_of_ble_eq_true rfl) ?_
  intro p e s m below meth c hC hH hr hlocks hnm ls hl
  have hx := hC.1
  have hb := hC.2.1
  have hB : th_B G Γ Γ [] H0 H0 [] := ⟨hI, va_S.rf, th_F_rf⟩
  have hl : lv_has ls 10 [(0, .ref a0), (1, .long p1), (3, .int p2), (4, .int p3)] := hl
  have lp2 := ti_lo p2; have up2 := ti_hi p2
  have lp3 := ti_lo p3; have up3 := ti_hi p3
  obtain ⟨bn8, mbn8, hbn8⟩ := nn8
  obtain ⟨F, hF0⟩ : ∃ F, F = f_X7_fits (dv G Γ H0) ((a0 : Int)) (p1.toInt) (p2.toInt) (p3.toInt) := ⟨_, rfl⟩
  have hF := hF0.trans (f_X7_fits.eq_1 (dv G Γ H0) ((a0 : Int)) (p1.toInt) (p2.toInt) (p3.toInt))
  refine lv_iload hx hb gX7_fits_0.1 (lv_at hl 3 rfl) ?_
  refine tr_if_lt (tgt := 29) hx hb gX7_fits_0.2.1 (by decide) (Eq.refl _) (fun c2 => ?_) (fun c2 => ?_)
  · replace hF := hF.trans (if_pos c2)
    refine lv_iconst (v := 0) hx hb gX7_fits_2.2.1 (by decide) ?_
    exact th_iret hC hH hr hlocks narrow_b0 hB.2.1 ⟨_, rfl, by decide, by decide, by first | (intro h9; exact absurd h9 (by decide)) | (have w9 := tk_0; intros; omega), by first | (intro h9; exact absurd h9 (by decide)) | (have w9 := tk_0; intros; omega), by first | (intro h9; exact absurd h9 (by decide)) | (intro _; exact ⟨_, _, _, _, mbn8, hbn8, mb6, hb6, mx7, by omega, by omega⟩), (hF0.symm.trans (hF.trans (by rw [tk_0]))), rfl⟩ gX7_fits_2.2.2.1
  · replace hF := hF.trans (if_neg (Int.not_lt.mpr c2))
    refine lv_aload_n hx hb gX7_fits_0.2.2.1 rfl (lv_at hl 0 rfl) ?_
    refine th_getK hC cf_X7 hB.1 h0 ro_27 rfl (j := 8) (by decide) mbn8 kf_X7_38 gX7_fits_0.2.2.2.1 ?_
    replace hF := hF.trans (dv_bn (dv_getR h0 ro_27 (j := 8) rfl mbn8 (by decide)))
    refine lv_iload_n hx hb gX7_fits_0.2.2.2.2.1 rfl (lv_at hl 2 rfl) ?_
    refine th_call (th_runV (As := [.int p2]) (rest := []) hC mf_X1_isReady km_X7_141 im_X1_isReady se_X1_isReady (c_X1_isReady l G Γ H0 hB.1 hU bn8 hbn8 p2) rfl rfl ⟨Nat.le_of_ble_eq_true rfl, Nat.le_of_ble_eq_true rfl⟩ hB.1 hbn8 ro_3 rfl rfl hl.1 rfl (Nat.le_of_ble_eq_true rfl) gX7_fits_0.2.2.2.2.2.1 ⟨Nat.le_refl _, Nat.le_refl _⟩) hB.2.1 (fun v10 H10 locs hp hz hS => ?_)
    obtain ⟨x1, rfl, lx1, ux1, q10_0, q10_1, rfl⟩ := hp
    have hB := th_B_s hB hS
    replace hF := hF.trans (dv_bn2 (q10_1))
    refine W.eq (g2 := F0 m 13 ls [.int x1]) rfl ?_
    refine tr_if_eq (tgt := 29) hx hb gX7_fits_0.2.2.2.2.2.2.1 (by decide) (Eq.refl _) (fun c13 => ?_) (fun c13 => ?_)
    · replace hF := hF.trans (if_pos c13)
      refine lv_iconst (v := 0) hx hb gX7_fits_2.2.1 (by decide) ?_
      exact th_iret hC hH hr hlocks narrow_b0 hB.2.1 ⟨_, rfl, by decide, by decide, by first | (intro h9; exact absurd h9 (by decide)) | (have w9 := tk_0; intros; omega), by first | (intro h9; exact absurd h9 (by decide)) | (have w9 := tk_0; intros; omega), by first | (intro h9; exact absurd h9 (by decide)) | (intro _; exact ⟨_, _, _, _, mbn8, hbn8, mb6, hb6, mx7, by omega, by omega⟩), (hF0.symm.trans (hF.trans (by rw [tk_0]))), rfl⟩ gX7_fits_2.2.2.1
    · replace hF := hF.trans (if_neg c13)
      refine lv_lload_n hx hb gX7_fits_0.2.2.2.2.2.2.2 rfl (lv_at hl 1 rfl) ?_
      refine lv_bipush (v := 48) hx hb gX7_fits_1.1 (by decide) ?_
      refine lv_iload_n hx hb gX7_fits_1.2.1 rfl (lv_at hl 2 rfl) ?_
      refine lv_iadd hx hb gX7_fits_1.2.2.1 ?_
      refine lv_topi (fun x2 ex2 => ?_)
      have lx2 := ti_lo x2; have ux2 := ti_hi x2
      replace hF := hF.trans (dv_bn (dv_add_e tk_48 (Eq.refl _) ex2))
      refine lv_lushr hx hb gX7_fits_1.2.2.2.1 rfl ?_
      refine lv_topl (fun y3 ey3 => ?_)
      replace hF := hF.trans (dv_bn (dv_lushr_e (Eq.refl (p1.toInt)) (Eq.refl _) ey3))
      refine lv_lconst (v := 1) hx hb gX7_fits_1.2.2.2.2.1 rfl ?_
      refine lv_land hx hb gX7_fits_1.2.2.2.2.2.1 ?_
      refine lv_topl (fun y4 ey4 => ?_)
      replace hF := hF.trans (dv_bn (dv_land_e (Eq.refl (y3.toInt)) (rfl : (1 : Int64).toInt = 1) ey4))
      refine lv_lconst (v := 0) hx hb gX7_fits_1.2.2.2.2.2.2.1 rfl ?_
      refine tr_lcmp2 hx hb gX7_fits_1.2.2.2.2.2.2.2 (fun x5 fx5 gx5 ix5 => ?_)
      replace hF := hF.trans (dv_bn (dv_lcmp_e (Eq.refl (y4.toInt)) (rfl : (0 : Int64).toInt = 0) fx5 ix5))
      refine tr_if_eq (tgt := 31) hx hb gX7_fits_2.1 (by decide) (Eq.refl _) (fun c26 => ?_) (fun c26 => ?_)
      · replace hF := hF.trans (if_pos c26)
        refine lv_aload_n hx hb gX7_fits_2.2.2.2.1 rfl (lv_at hl 0 rfl) ?_
        refine th_getK hC cf_X7 hB.1 h0 ro_27 rfl (j := 8) (by decide) mbn8 kf_X7_38 gX7_fits_2.2.2.2.2.1 ?_
        replace hF := hF.trans (dv_bn (dv_getR h0 ro_27 (j := 8) rfl mbn8 (by decide)))
        refine th_getO (j := 0) (r2 := 4) hC cf_X1 hB.1 hbn8 ro_3 rfl rfl kf_X7_87 gX7_fits_2.2.2.2.2.2.1 (fun b6 mb6 hb6 => ?_)
        refine lv_iload_n hx hb gX7_fits_2.2.2.2.2.2.2.1 rfl (lv_at hl 2 rfl) ?_
        refine th_ialdF hC hB.1 hb6 ro_4 rfl (Eq.refl _) (by omega) (by omega) rfl gX7_fits_2.2.2.2.2.2.2.2 (fun x7 mx7 lx7 ux7 => ?_)
        replace hF := hF.trans (dv_bn (dv_aldI hB.1 hU hb6 ow_4 (z := p2.toInt) mx7 (by omega)))
        refine lv_istore (lv' := [(5, .int x7), (0, .ref a0), (1, .long p1), (3, .int p2), (4, .int p3)]) hx hb gX7_fits_3.1 hl (by decide) rfl (fun ls hl => ?_)
        refine lv_iload hx hb gX7_fits_3.2.1 (lv_at hl 4 rfl) ?_
        refine lv_bipush (v := 12) hx hb gX7_fits_3.2.2.1 (by decide) ?_
        refine tr_irem hx hb gX7_fits_3.2.2.2.1 (Eq.refl _) tk_12 (by omega) (by omega) (fun x8 ex8 => ?_)
        replace hF := hF.trans (dv_bn (ex8.symm))
        refine lv_istore (lv' := [(6, .int x8), (5, .int x7), (0, .ref a0), (1, .long p1), (3, .int p2), (4, .int p3)]) hx hb gX7_fits_3.2.2.2.2.1 hl (by decide) rfl (fun ls hl => ?_)
        refine lv_iload hx hb gX7_fits_3.2.2.2.2.2.1 (lv_at hl 5 rfl) ?_
        refine lv_bipush (v := 12) hx hb gX7_fits_3.2.2.2.2.2.2.1 (by decide) ?_
        refine tr_idiv hx hb gX7_fits_3.2.2.2.2.2.2.2 (Eq.refl _) tk_12 (by omega) (by omega) (fun x9 ex9 => ?_)
        replace hF := hF.trans (dv_bn (ex9.symm))
        refine lv_istore (lv' := [(7, .int x9), (6, .int x8), (5, .int x7), (0, .ref a0), (1, .long p1), (3, .int p2), (4, .int p3)]) hx hb gX7_fits_4.1 hl (by decide) rfl (fun ls hl => ?_)
        refine lv_iload hx hb gX7_fits_4.2.1 (lv_at hl 1 rfl) ?_
        refine lv_iload hx hb gX7_fits_4.2.2.1 (lv_at hl 2 rfl) ?_
        refine tr_iadd hx hb gX7_fits_4.2.2.2.1 (Eq.refl _) (Eq.refl _) (by omega) (by omega) (fun x10 ex10 => ?_)
        replace hF := hF.trans (dv_bn (ex10.symm))
        refine lv_aload_n hx hb gX7_fits_4.2.2.2.2.1 rfl (lv_at hl 3 rfl) ?_
        refine th_getK hC cf_X7 hB.1 h0 ro_27 rfl (j := 8) (by decide) mbn8 kf_X7_38 gX7_fits_4.2.2.2.2.2.1 ?_
        replace hF := hF.trans (dv_bn (dv_getR h0 ro_27 (j := 8) rfl mbn8 (by decide)))
        refine th_getI (j := 8) hC cf_X1 hB.1 hbn8 ro_3 rfl rfl kf_X7_74 gX7_fits_4.2.2.2.2.2.2.1 (fun x11 mx11 lx11 ux11 => ?_)
        replace hF := hF.trans (dv_bn (dv_getI hbn8 ro_3 (j := 8) rfl mx11 (by decide)))
        refine tr_icmp_gt (tgt := 86) hx hb gX7_fits_4.2.2.2.2.2.2.2 (by decide) (Eq.refl _) (Eq.refl _) (fun c68 => ?_) (fun c68 => ?_)
        · replace hF := hF.trans (if_pos c68)
          refine lv_iconst (v := 0) hx hb gX7_fits_5.2.2.2.2.2.2.2 (by decide) ?_
          exact th_iret hC hH hr hlocks narrow_b0 hB.2.1 ⟨_, rfl, by decide, by decide, by first | (intro h9; exact absurd h9 (by decide)) | (have w9 := tk_0; intros; omega), by first | (intro h9; exact absurd h9 (by decide)) | (have w9 := tk_0; intros; omega), by first | (intro h9; exact absurd h9 (by decide)) | (intro _; exact ⟨_, _, _, _, mbn8, hbn8, mb6, hb6, mx7, by omega, by omega⟩), (hF0.symm.trans (hF.trans (by rw [tk_0]))), rfl⟩ gX7_fits_6.1
        · replace hF := hF.trans (if_neg (Int.not_lt.mpr c68))
          refine lv_iload hx hb gX7_fits_5.1 (lv_at hl 0 rfl) ?_
          refine lv_iload hx hb gX7_fits_5.2.1 (lv_at hl 2 rfl) ?_
          refine tr_iadd hx hb gX7_fits_5.2.2.1 (Eq.refl _) (Eq.refl _) (by omega) (by omega) (fun x12 ex12 => ?_)
          replace hF := hF.trans (dv_bn (ex12.symm))
          refine lv_aload_n hx hb gX7_fits_5.2.2.2.1 rfl (lv_at hl 3 rfl) ?_
          refine th_getK hC cf_X7 hB.1 h0 ro_27 rfl (j := 8) (by decide) mbn8 kf_X7_38 gX7_fits_5.2.2.2.2.1 ?_
          replace hF := hF.trans (dv_bn (dv_getR h0 ro_27 (j := 8) rfl mbn8 (by decide)))
          refine th_getI (j := 9) hC cf_X1 hB.1 hbn8 ro_3 rfl rfl kf_X7_80 gX7_fits_5.2.2.2.2.2.1 (fun x13 mx13 lx13 ux13 => ?_)
          replace hF := hF.trans (dv_bn (dv_getI hbn8 ro_3 (j := 9) rfl mx13 (by decide)))
          refine tr_icmp_le (tgt := 88) hx hb gX7_fits_5.2.2.2.2.2.2.1 (by decide) (Eq.refl _) (Eq.refl _) (fun c83 => ?_) (fun c83 => ?_)
          · replace hF := hF.trans (if_pos c83)
            refine lv_iconst (v := 1) hx hb gX7_fits_6.2.1 (by decide) ?_
            refine lv_iload hx hb gX7_fits_6.2.2.1 (lv_at hl 2 rfl) ?_
            refine lv_ishl hx hb gX7_fits_6.2.2.2.1 ?_
            refine lv_topi (fun x14 ex14 => ?_)
            have lx14 := ti_lo x14; have ux14 := ti_hi x14
            replace hF := hF.trans (dv_bn (dv_shl_e tk_1 (Eq.refl _) ex14))
            refine lv_iconst (v := 1) hx hb gX7_fits_6.2.2.2.2.1 (by decide) ?_
            refine lv_isub hx hb gX7_fits_6.2.2.2.2.2.1 ?_
            refine lv_topi (fun x15 ex15 => ?_)
            have lx15 := ti_lo x15; have ux15 := ti_hi x15
            replace hF := hF.trans (dv_bn (dv_sub_e (Eq.refl _) tk_1 ex15))
            refine lv_istore (lv' := [(8, .int x15), (7, .int x9), (6, .int x8), (5, .int x7), (0, .ref a0), (1, .long p1), (3, .int p2), (4, .int p3)]) hx hb gX7_fits_6.2.2.2.2.2.2.1 hl (by decide) rfl (fun ls hl => ?_)
            refine lv_iconst (v := 0) hx hb gX7_fits_6.2.2.2.2.2.2.2 (by decide) ?_
            refine lv_istore (lv' := [(9, .int 0), (8, .int x15), (7, .int x9), (6, .int x8), (5, .int x7), (0, .ref a0), (1, .long p1), (3, .int p2), (4, .int p3)]) hx hb gX7_fits_7.1 hl (by decide) rfl (fun ls hl => ?_)
            have lp99 : ∀ (n99 : Nat) (locs : List Loc) (ls : Array Slot) (j99_9 : Int32), th_B G Γ Γ [] H0 H0 locs → lv_has ls 10 [(8, .int x15), (7, .int x9), (6, .int x8), (5, .int x7), (0, .ref a0), (1, .long p1), (9, .int j99_9)] → F = dv_lp f_X7_fits_99b (dv G Γ H0, x15.toInt, x9.toInt, x8.toInt, x7.toInt, (a0 : Int), p1.toInt, j99_9.toInt) → 0 ≤ j99_9.toInt → j99_9.toInt ≤ 12 → (2147483648 : Int) - j99_9.toInt ≤ (n99 : Int) → W p l e ({ frames := 2, cells := 0, slots := 0, locals := 42 } : Room) s m ([.ref a0, .long p1, .int p2, .int p3] : List Value).toArray below meth c H0 locs 0 0 (MQ below (th_Q (fun (v : Option Value) (H1 : Heap) => ∃ r : Int32, v = some (.int r) ∧ 0 ≤ r.toInt ∧ r.toInt ≤ 1 ∧ (r.toInt = 1 → 0 ≤ p2.toInt ∧ p2.toInt ≤ 8) ∧ (r.toInt = 1 → 0 ≤ p3.toInt) ∧ (r.toInt = 1 → th_fit G Γ H0 a0 p2 p3) ∧ (f_X7_fits (dv G Γ H0) (a0 : Int) p1.toInt p2.toInt p3.toInt = (r.toInt, ())) ∧ H0 = H1) G) ([.ref a0, .long p1, .int p2, .int p3] : List Value).toArray s 0 0 (fun q => G.1.2.2 ≤ q)) (F0 m 99 ls []) := by
              intro n99
              induction n99 with
              | zero => intro locs ls j99_9 hB hl hF g99_0 g99_1 hm99; exact absurd hm99 (by have := ti_hi j99_9; omega)
              | succ n99 ih99 =>
                intro locs ls j99_9 hB hl hF g99_0 g99_1 hm99
                have lj99_9 := ti_lo j99_9; have uj99_9 := ti_hi j99_9
                have hm99 : (2147483648 : Int) - j99_9.toInt ≤ (n99 : Int) + 1 := by omega
                replace hF := hF.trans (dv_lp_eq)
                replace hF := hF.trans (congrArg (dv_k f_X7_fits_99b) (f_X7_fits_99c.eq_1 (dv G Γ H0) (x15.toInt) (x9.toInt) (x8.toInt) (x7.toInt) ((a0 : Int)) (p1.toInt) (j99_9.toInt)))
                refine lv_iload hx hb gX7_fits_7.2.1 (lv_at hl 6 rfl) ?_
                refine lv_iload hx hb gX7_fits_7.2.2.1 (lv_at hl 3 rfl) ?_
                refine tr_icmp_ge (tgt := 156) hx hb gX7_fits_7.2.2.2.1 (by decide) (Eq.refl _) (Eq.refl _) (fun c103 => ?_) (fun c103 => ?_)
                · replace hF := hF.trans (congrArg (dv_k f_X7_fits_99b) (if_pos c103))
                  refine lv_aload_n hx hb gX7_fits_11.2.1 rfl (lv_at hl 4 rfl) ?_
                  refine lv_iload hx hb gX7_fits_11.2.2.1 (lv_at hl 3 rfl) ?_
                  refine lv_iload hx hb gX7_fits_11.2.2.2.1 (lv_at hl 2 rfl) ?_
                  refine lv_iload hx hb gX7_fits_11.2.2.2.2.1 (lv_at hl 1 rfl) ?_
                  refine th_call (th_runV (As := [.int x7, .int x8, .int x9]) (rest := []) hC mf_X7_agreesWithSeen km_X7_172 im_X7_agreesWithSeen se_X7_agreesWithSeen (c_X7_agreesWithSeen l G Γ H0 hB.1 hU a0 h0 x7 x8 x9) rfl rfl ⟨Nat.le_of_ble_eq_true rfl, Nat.le_of_ble_eq_true rfl⟩ hB.1 h0 ro_27 rfl rfl hl.1 rfl (Nat.le_of_ble_eq_true rfl) gX7_fits_11.2.2.2.2.2.1 ⟨Nat.le_refl _, Nat.le_refl _⟩) hB.2.1 (fun v163 H163 locs hp hz hS => ?_)
                  obtain ⟨x16, rfl, lx16, ux16, q163_0, rfl⟩ := hp
                  have hB := th_B_s hB hS
                  replace hF := hF.trans (congrArg (dv_k f_X7_fits_99b) (dv_bn2 (q163_0)))
                  refine W.eq (g2 := F0 m 166 ls [.int x16]) rfl ?_
                  replace hF := hF.trans (dv_kr)
                  exact th_iret hC hH hr hlocks (th_nb (by omega) (by omega)) hB.2.1 ⟨_, rfl, by omega, by omega, by intros; omega, by intros; omega, by first | (intro h9; exact absurd h9 (by decide)) | (intro _; exact ⟨_, _, _, _, mbn8, hbn8, mb6, hb6, mx7, by omega, by omega⟩), (hF0.symm.trans hF), rfl⟩ gX7_fits_11.2.2.2.2.2.2
                · replace hF := hF.trans (congrArg (dv_k f_X7_fits_99b) (if_neg (Int.not_le.mpr c103)))
                  refine lv_lload_n hx hb gX7_fits_7.2.2.2.2.1 rfl (lv_at hl 5 rfl) ?_
                  refine lv_iconst (v := 4) hx hb gX7_fits_7.2.2.2.2.2.1 (by decide) ?_
                  refine lv_iload hx hb gX7_fits_7.2.2.2.2.2.2.1 (lv_at hl 2 rfl) ?_
                  refine lv_iload hx hb gX7_fits_7.2.2.2.2.2.2.2 (lv_at hl 6 rfl) ?_
                  refine tr_iadd hx hb gX7_fits_8.1 (Eq.refl _) (Eq.refl _) (by omega) (by omega) (fun x17 ex17 => ?_)
                  replace hF := hF.trans (congrArg (dv_k f_X7_fits_99b) (dv_bn (ex17.symm)))
                  refine tr_imul hx hb gX7_fits_8.2.1 tk_4 (Eq.refl _) (by omega) (by omega) (fun x18 ex18 => ?_)
                  replace hF := hF.trans (congrArg (dv_k f_X7_fits_99b) (dv_bn (ex18.symm)))
                  refine lv_lushr hx hb gX7_fits_8.2.2.1 rfl ?_
                  refine lv_topl (fun y19 ey19 => ?_)
                  replace hF := hF.trans (congrArg (dv_k f_X7_fits_99b) (dv_bn (dv_lushr_e (Eq.refl (p1.toInt)) (Eq.refl _) ey19)))
                  refine lv_ldc2 (v := 15) hx hb hC.2.2.2.1 (hC.2.2.2.2.1 _ kw_950) gX7_fits_8.2.2.2.1 ?_
                  refine lv_land hx hb gX7_fits_8.2.2.2.2.1 ?_
                  refine lv_topl (fun y20 ey20 => ?_)
                  replace hF := hF.trans (congrArg (dv_k f_X7_fits_99b) (dv_bn (dv_land_e (Eq.refl (y19.toInt)) (rfl : (15 : Int64).toInt = 15) ey20)))
                  refine lv_iload hx hb gX7_fits_8.2.2.2.2.2.1 (lv_at hl 1 rfl) ?_
                  refine lv_i2l hx hb gX7_fits_8.2.2.2.2.2.2.1 rfl ?_
                  refine lv_topl (fun y21 ey21 => ?_)
                  replace hF := hF.trans (congrArg (dv_k f_X7_fits_99b) (dv_bn (dv_i2l_e (Eq.refl _) ey21)))
                  refine tr_lcmp2 hx hb gX7_fits_8.2.2.2.2.2.2.2 (fun x22 fx22 gx22 ix22 => ?_)
                  replace hF := hF.trans (congrArg (dv_k f_X7_fits_99b) (dv_bn (dv_lcmp_e (Eq.refl (y20.toInt)) (Eq.refl (y21.toInt)) fx22 ix22)))
                  refine tr_if_gt (tgt := 148) hx hb gX7_fits_9.1 (by decide) (Eq.refl _) (fun c123 => ?_) (fun c123 => ?_)
                  · replace hF := hF.trans (congrArg (dv_k f_X7_fits_99b) (if_pos c123))
                    refine lv_iconst (v := 0) hx hb gX7_fits_10.2.2.2.2.2.1 (by decide) ?_
                    replace hF := hF.trans (dv_kr)
                    exact th_iret hC hH hr hlocks narrow_b0 hB.2.1 ⟨_, rfl, by decide, by decide, by first | (intro h9; exact absurd h9 (by decide)) | (have w9 := tk_0; intros; omega), by first | (intro h9; exact absurd h9 (by decide)) | (have w9 := tk_0; intros; omega), by first | (intro h9; exact absurd h9 (by decide)) | (intro _; exact ⟨_, _, _, _, mbn8, hbn8, mb6, hb6, mx7, by omega, by omega⟩), (hF0.symm.trans (hF.trans (by rw [tk_0]))), rfl⟩ gX7_fits_10.2.2.2.2.2.2.1
                  · replace hF := hF.trans (congrArg (dv_k f_X7_fits_99b) (if_neg (Int.not_lt.mpr c123)))
                    refine lv_aload_n hx hb gX7_fits_9.2.1 rfl (lv_at hl 4 rfl) ?_
                    refine th_getK hC cf_X7 hB.1 h0 ro_27 rfl (j := 8) (by decide) mbn8 kf_X7_38 gX7_fits_9.2.2.1 ?_
                    replace hF := hF.trans (congrArg (dv_k f_X7_fits_99b) (dv_bn (dv_getR h0 ro_27 (j := 8) rfl mbn8 (by decide))))
                    refine th_getO (j := 6) (r2 := 10) hC cf_X1 hB.1 hbn8 ro_3 rfl rfl kf_X7_167 gX7_fits_9.2.2.2.1 (fun b23 mb23 hb23 => ?_)
                    refine lv_iload hx hb gX7_fits_9.2.2.2.2.1 (lv_at hl 1 rfl) ?_
                    refine lv_iload hx hb gX7_fits_9.2.2.2.2.2.1 (lv_at hl 6 rfl) ?_
                    refine tr_iadd hx hb gX7_fits_9.2.2.2.2.2.2.1 (Eq.refl _) (Eq.refl _) (by omega) (by omega) (fun x24 ex24 => ?_)
                    replace hF := hF.trans (congrArg (dv_k f_X7_fits_99b) (dv_bn (ex24.symm)))
                    refine th_ialdF hC hB.1 hb23 ro_10 rfl (Eq.refl _) (by omega) (by omega) rfl gX7_fits_9.2.2.2.2.2.2.2 (fun x25 mx25 lx25 ux25 => ?_)
                    replace hF := hF.trans (congrArg (dv_k f_X7_fits_99b) (dv_bn (dv_aldI hB.1 hU hb23 ow_10 (z := x24.toInt) mx25 (by omega))))
                    refine lv_iload hx hb gX7_fits_10.1 (lv_at hl 2 rfl) ?_
                    refine lv_ishr hx hb gX7_fits_10.2.1 ?_
                    refine lv_topi (fun x26 ex26 => ?_)
                    have lx26 := ti_lo x26; have ux26 := ti_hi x26
                    replace hF := hF.trans (congrArg (dv_k f_X7_fits_99b) (dv_bn (dv_shr_e (Eq.refl _) (Eq.refl _) ex26)))
                    refine lv_iload hx hb gX7_fits_10.2.2.1 (lv_at hl 0 rfl) ?_
                    refine lv_iand hx hb gX7_fits_10.2.2.2.1 ?_
                    refine lv_topi (fun x27 ex27 => ?_)
                    have lx27 := ti_lo x27; have ux27 := ti_hi x27
                    replace hF := hF.trans (congrArg (dv_k f_X7_fits_99b) (dv_bn (dv_and_e (Eq.refl _) (Eq.refl _) ex27)))
                    refine tr_if_eq (tgt := 150) hx hb gX7_fits_10.2.2.2.2.1 (by decide) (Eq.refl _) (fun c145 => ?_) (fun c145 => ?_)
                    · replace hF := hF.trans (congrArg (dv_k f_X7_fits_99b) (if_pos c145))
                      refine tr_iinc (fun x28 => [(9, .int x28), (8, .int x15), (7, .int x9), (6, .int x8), (5, .int x7), (0, .ref a0), (1, .long p1)]) hx hb gX7_fits_10.2.2.2.2.2.2.2 hl (k := 6) rfl (Eq.refl _) tk_1 (by omega) (by omega) (by decide) (fun _ => rfl) (fun x28 ls ex28 hl => ?_)
                      replace hF := hF.trans (congrArg (dv_k f_X7_fits_99b) (dv_bn (ex28.symm)))
                      refine lv_goto (tgt := 99) hx hb gX7_fits_11.1 (by decide) ?_
                      replace hF := hF.trans (dv_kl)
                      exact ih99 locs ls x28 hB (lv_sub hl [1, 2, 3, 4, 5, 6, 0] rfl) hF (by omega) (by omega) (by omega)
                    · replace hF := hF.trans (congrArg (dv_k f_X7_fits_99b) (if_neg c145))
                      refine lv_iconst (v := 0) hx hb gX7_fits_10.2.2.2.2.2.1 (by decide) ?_
                      replace hF := hF.trans (dv_kr)
                      exact th_iret hC hH hr hlocks narrow_b0 hB.2.1 ⟨_, rfl, by decide, by decide, by first | (intro h9; exact absurd h9 (by decide)) | (have w9 := tk_0; intros; omega), by first | (intro h9; exact absurd h9 (by decide)) | (have w9 := tk_0; intros; omega), by first | (intro h9; exact absurd h9 (by decide)) | (intro _; exact ⟨_, _, _, _, mbn8, hbn8, mb6, hb6, mx7, by omega, by omega⟩), (hF0.symm.trans (hF.trans (by rw [tk_0]))), rfl⟩ gX7_fits_10.2.2.2.2.2.2.1
            exact lp99 ((2147483648 : Int) - (0)).toNat locs ls 0 hB (lv_sub hl [1, 2, 3, 4, 5, 6, 0] rfl) (by rw [tk_0]; exact hF) (by decide) (by decide) (by have w0 := tk_0; omega)
          · replace hF := hF.trans (if_neg (Int.not_le.mpr c83))
            refine lv_iconst (v := 0) hx hb gX7_fits_5.2.2.2.2.2.2.2 (by decide) ?_
            exact th_iret hC hH hr hlocks narrow_b0 hB.2.1 ⟨_, rfl, by decide, by decide, by first | (intro h9; exact absurd h9 (by decide)) | (have w9 := tk_0; intros; omega), by first | (intro h9; exact absurd h9 (by decide)) | (have w9 := tk_0; intros; omega), by first | (intro h9; exact absurd h9 (by decide)) | (intro _; exact ⟨_, _, _, _, mbn8, hbn8, mb6, hb6, mx7, by omega, by omega⟩), (hF0.symm.trans (hF.trans (by rw [tk_0]))), rfl⟩ gX7_fits_6.1
      · replace hF := hF.trans (if_neg c26)
        refine lv_iconst (v := 0) hx hb gX7_fits_2.2.1 (by decide) ?_
        exact th_iret hC hH hr hlocks narrow_b0 hB.2.1 ⟨_, rfl, by decide, by decide, by first | (intro h9; exact absurd h9 (by decide)) | (have w9 := tk_0; intros; omega), by first | (intro h9; exact absurd h9 (by decide)) | (have w9 := tk_0; intros; omega), by first | (intro h9; exact absurd h9 (by decide)) | (intro _; exact ⟨_, _, _, _, mbn8, hbn8, mb6, hb6, mx7, by omega, by omega⟩), (hF0.symm.trans (hF.trans (by rw [tk_0]))), rfl⟩ gX7_fits_2.2.2.1

set_option maxHeartbeats 4000000 in
set_option maxRecDepth 100000 in
theorem c_X7_fillsAlone (l : Launch) (G : th_G) (Γ : th_Ga) (H0 : Heap) (hI : th_I G Γ H0) (hR : th_RC G Γ H0) (hU : dv_U Γ) (a0 : Nat) (h0 : Γ a0 = (27, 0)) (p1 : Int32) (f1 : 0 ≤ p1.toInt) (g1 : p1.toInt ≤ 8) (nn7 : ∃ b : Nat, th_sl H0 a0 (G.1.1.2 7 7) = .ref b ∧ Γ b = (11, 0)) (nn8 : ∃ b : Nat, th_sl H0 a0 (G.1.1.2 7 8) = .ref b ∧ Γ b = (3, 0)) : Met l yX7_fillsAlone (.code yX7_fillsAlone cX7_fillsAlone 3 (some FieldType.boolean) :: th_tb) ({ frames := 5, cells := 0, slots := 0, locals := 130 } : Room) (th_P [.ref a0, .int p1] G H0) (th_Q (fun (v : Option Value) (H1 : Heap) => ∃ r : Int32, v = some (.int r) ∧ 0 ≤ r.toInt ∧ r.toInt ≤ 1 ∧ th_I G Γ H1 ∧ th_F G Γ [(24, 0), (23, 3), (26, 0), (25, 0), (28, 0), (29, 0)] H0 H1 ∧ th_RC G Γ H1 ∧ (f_X7_fillsAlone (dv G Γ H0) (a0 : Int) p1.toInt = (dv G Γ H1, r.toInt))) G) 0 0 (fun q => G.1.2.2 ≤ q) := by
  refine th_met RX7 (by decide) rfl (Nat.le_of_ble_eq_true rfl) ?_
  intro p e s m below meth c hC hH hr hlocks hnm ls hl
  have hx := hC.1
  have hb := hC.2.1
  have hB : th_B G Γ Γ [(24, 0), (23, 3), (26, 0), (25, 0), (28, 0), (29, 0)] H0 H0 [] := ⟨hI, va_S.rf, th_F_rf⟩
  have hl : lv_has ls 3 [(0, .ref a0), (1, .int p1)] := hl
  have lp1 := ti_lo p1; have up1 := ti_hi p1
  obtain ⟨bn7, mbn7, hbn7⟩ := nn7
  obtain ⟨bn8, mbn8, hbn8⟩ := nn8
  obtain ⟨F, hF0⟩ : ∃ F, F = f_X7_fillsAlone (dv G Γ H0) ((a0 : Int)) (p1.toInt) := ⟨_, rfl⟩
  have hF := hF0.trans (f_X7_fillsAlone.eq_1 (dv G Γ H0) ((a0 : Int)) (p1.toInt))
  refine lv_aload_n hx hb gX7_fillsAlone_0.1 rfl (lv_at hl 0 rfl) ?_
  refine lv_lconst (v := 0) hx hb gX7_fillsAlone_0.2.1 rfl ?_
  refine lv_iconst (v := 0) hx hb gX7_fillsAlone_0.2.2.1 (by decide) ?_
  refine th_call (th_runV (As := [.long 0, .int 0]) (rest := []) hC mf_X7_firstBare km_X7_104 im_X7_firstBare se_X7_firstBare (c_X7_firstBare l G Γ H0 hB.1 hU a0 h0 0 0 (by decide) (by decide) ⟨_, mbn8, hbn8⟩) rfl rfl ⟨Nat.le_of_ble_eq_true rfl, Nat.le_of_ble_eq_true rfl⟩ hB.1 h0 ro_27 rfl rfl hl.1 rfl (Nat.le_of_ble_eq_true rfl) gX7_fillsAlone_0.2.2.2.1 ⟨Nat.le_refl _, Nat.le_refl _⟩) hB.2.1 (fun v3 H3 locs hp hz hS => ?_)
  obtain ⟨x1, rfl, lx1, ux1, q3_0, rfl⟩ := hp
  have hB := th_B_s hB hS
  have w3_1 := tk_0
  have zf3 := q3_0
  rw [show (0 : Int64).toInt = 0 from rfl, tk_0] at zf3
  replace hF := hF.trans (dv_bn2 (zf3))
  refine W.eq (g2 := F0 m 6 ls [.int x1]) rfl ?_
  refine lv_istore_n (lv' := [(2, .int x1), (0, .ref a0), (1, .int p1)]) hx hb gX7_fillsAlone_0.2.2.2.2.1 rfl hl (by decide) rfl (fun ls hl => ?_)
  refine lv_aload_n hx hb gX7_fillsAlone_0.2.2.2.2.2.1 rfl (lv_at hl 1 rfl) ?_
  refine th_getK hC cf_X7 hB.1 h0 ro_27 rfl (j := 8) (by decide) mbn8 kf_X7_38 gX7_fillsAlone_0.2.2.2.2.2.2.1 ?_
  replace hF := hF.trans (dv_bn (dv_getR h0 ro_27 (j := 8) rfl mbn8 (by decide)))
  refine th_getO (j := 0) (r2 := 4) hC cf_X1 hB.1 hbn8 ro_3 rfl rfl kf_X7_87 gX7_fillsAlone_0.2.2.2.2.2.2.2 (fun b2 mb2 hb2 => ?_)
  refine lv_iload_n hx hb gX7_fillsAlone_1.1 rfl (lv_at hl 2 rfl) ?_
  refine th_ialdF hC hB.1 hb2 ro_4 rfl (Eq.refl _) (by omega) (by omega) rfl gX7_fillsAlone_1.2.1 (fun x3 mx3 lx3 ux3 => ?_)
  replace hF := hF.trans (dv_bn (dv_aldI hB.1 hU hb2 ow_4 (z := p1.toInt) mx3 (by omega)))
  refine lv_aload_n hx hb gX7_fillsAlone_1.2.2.1 rfl (lv_at hl 1 rfl) ?_
  refine th_getK hC cf_X7 hB.1 h0 ro_27 rfl (j := 8) (by decide) mbn8 kf_X7_38 gX7_fillsAlone_1.2.2.2.1 ?_
  replace hF := hF.trans (dv_bn (dv_getR h0 ro_27 (j := 8) rfl mbn8 (by decide)))
  refine th_getK hC cf_X1 hB.1 hbn8 ro_3 rfl (j := 0) (by decide) mb2 kf_X7_87 gX7_fillsAlone_1.2.2.2.2.1 ?_
  refine lv_iload_n hx hb gX7_fillsAlone_1.2.2.2.2.2.1 rfl (lv_at hl 2 rfl) ?_
  refine th_ialdF hC hB.1 hb2 ro_4 rfl (Eq.refl _) (by omega) (by omega) rfl gX7_fillsAlone_1.2.2.2.2.2.2.1 (fun x4 mx4 lx4 ux4 => ?_)
  replace hF := hF.trans (dv_bn (dv_aldI hB.1 hU hb2 ow_4 (z := p1.toInt) mx4 (by omega)))
  have qx4 : x4.toInt = x3.toInt := by rw [show x4 = x3 from Value.int.inj (mx4.symm.trans mx3)]
  have q6 := ti_mulr (a := x3.toInt) (b := x4.toInt) (A := 12) (B := 12) (by omega) (by omega) (by omega) (by omega)
  generalize hex5 : x3.toInt * x4.toInt = wx5 at q6
  refine tr_imul hx hb gX7_fillsAlone_1.2.2.2.2.2.2.2 (Eq.refl _) (Eq.refl _) (by rw [hex5]; omega) (by rw [hex5]; omega) (fun x5 ex5 => ?_)
  rw [hex5] at ex5
  replace hF := hF.trans (dv_bn (hex5.trans ex5.symm))
  refine lv_aload_n hx hb gX7_fillsAlone_2.1 rfl (lv_at hl 1 rfl) ?_
  refine th_getI (j := 11) hC cf_X7 hB.1 h0 ro_27 rfl rfl kf_X7_63 gX7_fillsAlone_2.2.1 (fun x7 mx7 lx7 ux7 => ?_)
  replace hF := hF.trans (dv_bn (dv_getI h0 ro_27 (j := 11) rfl mx7 (by decide)))
  refine tr_icmp_ne (tgt := 57) hx hb gX7_fillsAlone_2.2.2.1 (by decide) (Eq.refl _) (Eq.refl _) (fun c30 => ?_) (fun c30 => ?_)
  · replace hF := hF.trans (if_pos c30)
    refine lv_iconst (v := 0) hx hb gX7_fillsAlone_4.2.1 (by decide) ?_
    exact th_iret hC hH hr hlocks narrow_b0 hB.2.1 ⟨_, rfl, by decide, by decide, hB.1, hB.2.2, hR, (hF0.symm.trans (hF.trans (by rw [tk_0])))⟩ gX7_fillsAlone_4.2.2
  · replace hF := hF.trans (if_neg (not_not_intro c30))
    refine lv_aload_n hx hb gX7_fillsAlone_2.2.2.2.1 rfl (lv_at hl 1 rfl) ?_
    refine lv_lconst (v := 0) hx hb gX7_fillsAlone_2.2.2.2.2.1 rfl ?_
    refine lv_iload_n hx hb gX7_fillsAlone_2.2.2.2.2.2.1 rfl (lv_at hl 2 rfl) ?_
    refine lv_iload_n hx hb gX7_fillsAlone_2.2.2.2.2.2.2.1 rfl (lv_at hl 0 rfl) ?_
    refine th_call (th_runV (As := [.long 0, .int p1, .int x1]) (rest := []) hC mf_X7_fits km_X7_108 im_X7_fits se_X7_fits (c_X7_fits l G Γ H0 hB.1 hU a0 h0 0 p1 x1 (by omega) (by omega) ⟨_, mbn8, hbn8⟩) rfl rfl ⟨Nat.le_of_ble_eq_true rfl, Nat.le_of_ble_eq_true rfl⟩ hB.1 h0 ro_27 rfl rfl hl.1 rfl (Nat.le_of_ble_eq_true rfl) gX7_fillsAlone_2.2.2.2.2.2.2.2 ⟨Nat.le_refl _, Nat.le_refl _⟩) hB.2.1 (fun v37 H37 locs hp hz hS => ?_)
    obtain ⟨x8, rfl, lx8, ux8, q37_0, q37_1, q37_2, q37_3, rfl⟩ := hp
    have hB := th_B_s hB hS
    have zf37 := q37_3
    rw [show (0 : Int64).toInt = 0 from rfl] at zf37
    replace hF := hF.trans (dv_bn2 (zf37))
    refine W.eq (g2 := F0 m 40 ls [.int x8]) rfl ?_
    refine tr_if_eq (tgt := 57) hx hb gX7_fillsAlone_3.1 (by decide) (Eq.refl _) (fun c40 => ?_) (fun c40 => ?_)
    · replace hF := hF.trans (if_pos c40)
      refine lv_iconst (v := 0) hx hb gX7_fillsAlone_4.2.1 (by decide) ?_
      exact th_iret hC hH hr hlocks narrow_b0 hB.2.1 ⟨_, rfl, by decide, by decide, hB.1, hB.2.2, hR, (hF0.symm.trans (hF.trans (by rw [tk_0])))⟩ gX7_fillsAlone_4.2.2
    · replace hF := hF.trans (if_neg c40)
      refine lv_aload_n hx hb gX7_fillsAlone_3.2.1 rfl (lv_at hl 1 rfl) ?_
      refine lv_iload_n hx hb gX7_fillsAlone_3.2.2.1 rfl (lv_at hl 2 rfl) ?_
      refine lv_iload_n hx hb gX7_fillsAlone_3.2.2.2.1 rfl (lv_at hl 0 rfl) ?_
      refine th_call (th_runV (As := [.int p1, .int x1]) (rest := []) hC mf_X7_priceAt km_X7_112 im_X7_priceAt se_X7_priceAt (c_X7_priceAt l G Γ H0 hB.1 hR hU a0 h0 p1 (by omega) (by omega) x1 (by omega) (by omega) ⟨_, mbn7, hbn7⟩ ⟨_, mbn8, hbn8⟩) rfl rfl ⟨Nat.le_of_ble_eq_true rfl, Nat.le_of_ble_eq_true rfl⟩ hB.1 h0 ro_27 rfl rfl hl.1 rfl (Nat.le_of_ble_eq_true rfl) gX7_fillsAlone_3.2.2.2.2.1 ⟨Nat.le_refl _, Nat.le_refl _⟩) hB.2.1 (fun v46 H46 locs hp hz hS => ?_)
      obtain ⟨x9, rfl, hI1, hf, hR, z46_0⟩ := hp
      have hB := th_B_c hB hI1 hS hf (by decide)
      have mm10 := (th_F_o hf h0 ro_27 (j := 7) (by decide) (by decide)).trans mbn7
      have mm11 := (th_F_o hf h0 ro_27 (j := 8) (by decide) (by decide)).trans mbn8
      have mm12 := (th_F_o hf hbn8 ro_3 (j := 0) (by decide) (by decide)).trans mb2
      replace hF := hF.trans (dv_bn2 (z46_0))
      refine W.eq (g2 := F0 m 49 ls [.int x9]) rfl ?_
      refine lv_iconst (v := (-1)) hx hb gX7_fillsAlone_3.2.2.2.2.2.1 (by decide) ?_
      refine tr_icmp_eq (tgt := 57) hx hb gX7_fillsAlone_3.2.2.2.2.2.2.1 (by decide) (Eq.refl _) tk_m1 (fun c50 => ?_) (fun c50 => ?_)
      · replace hF := hF.trans (if_pos c50)
        refine lv_iconst (v := 0) hx hb gX7_fillsAlone_4.2.1 (by decide) ?_
        exact th_iret hC hH hr hlocks narrow_b0 hB.2.1 ⟨_, rfl, by decide, by decide, hB.1, hB.2.2, hR, (hF0.symm.trans (hF.trans (by rw [tk_0])))⟩ gX7_fillsAlone_4.2.2
      · replace hF := hF.trans (if_neg c50)
        refine lv_iconst (v := 1) hx hb gX7_fillsAlone_3.2.2.2.2.2.2.2 (by decide) ?_
        refine lv_goto (tgt := 58) hx hb gX7_fillsAlone_4.1 (by decide) ?_
        exact th_iret hC hH hr hlocks narrow_b1 hB.2.1 ⟨_, rfl, by decide, by decide, hB.1, hB.2.2, hR, (hF0.symm.trans (hF.trans (by rw [tk_1])))⟩ gX7_fillsAlone_4.2.2

set_option maxHeartbeats 4000000 in
set_option maxRecDepth 100000 in
theorem c_X7_addToTally (l : Launch) (G : th_G) (Γ : th_Ga) (H0 : Heap) (hI : th_I G Γ H0) (hR : th_RC G Γ H0) (hU : dv_U Γ) (a0 : Nat) (h0 : Γ a0 = (27, 0)) (p1 : Int32) (f1 : 0 ≤ p1.toInt) (g1 : p1.toInt ≤ 8) (p2 : Int32) (f2 : 0 ≤ p2.toInt) (g2 : p2.toInt ≤ 143) (p3 : Int32) (nn8 : ∃ b : Nat, th_sl H0 a0 (G.1.1.2 7 8) = .ref b ∧ Γ b = (3, 0)) (k1 : th_fit G Γ H0 a0 p1 p2) : Met l yX7_addToTally (.code yX7_addToTally cX7_addToTally 7 (none) :: th_tb) ({ frames := 0, cells := 0, slots := 0, locals := 0 } : Room) (th_P [.ref a0, .int p1, .int p2, .int p3] G H0) (th_Q (fun (v : Option Value) (H1 : Heap) => v = none ∧ th_I G Γ H1 ∧ th_F G Γ [(30, 0)] H0 H1 ∧ th_RC G Γ H1 ∧ (f_X7_addToTally (dv G Γ H0) (a0 : Int) p1.toInt p2.toInt p3.toInt = (dv G Γ H1, 0))) G) 0 0 (fun q => G.1.2.2 ≤ q) := by
  refine th_met RX7 (by decide) rfl (Nat.le_of_ble_eq_true rfl) ?_
  intro p e s m below meth c hC hH hr hlocks hnm ls hl
  have hx := hC.1
  have hb := hC.2.1
  have hB : th_B G Γ Γ [(30, 0)] H0 H0 [] := ⟨hI, va_S.rf, th_F_rf⟩
  have hl : lv_has ls 7 [(0, .ref a0), (1, .int p1), (2, .int p2), (3, .int p3)] := hl
  have lp1 := ti_lo p1; have up1 := ti_hi p1
  have lp2 := ti_lo p2; have up2 := ti_hi p2
  have lp3 := ti_lo p3; have up3 := ti_hi p3
  obtain ⟨bn8, mbn8, hbn8⟩ := nn8
  obtain ⟨F, hF0⟩ : ∃ F, F = f_X7_addToTally (dv G Γ H0) ((a0 : Int)) (p1.toInt) (p2.toInt) (p3.toInt) := ⟨_, rfl⟩
  have hF := hF0.trans (f_X7_addToTally.eq_1 (dv G Γ H0) ((a0 : Int)) (p1.toInt) (p2.toInt) (p3.toInt))
  refine lv_aload_n hx hb gX7_addToTally_0.1 rfl (lv_at hl 0 rfl) ?_
  refine th_getK hC cf_X7 hB.1 h0 ro_27 rfl (j := 8) (by decide) mbn8 kf_X7_38 gX7_addToTally_0.2.1 ?_
  replace hF := hF.trans (dv_bn (dv_getR h0 ro_27 (j := 8) rfl mbn8 (by decide)))
  refine th_getO (j := 0) (r2 := 4) hC cf_X1 hB.1 hbn8 ro_3 rfl rfl kf_X7_87 gX7_addToTally_0.2.2.1 (fun b1 mb1 hb1 => ?_)
  refine lv_iload_n hx hb gX7_addToTally_0.2.2.2.1 rfl (lv_at hl 1 rfl) ?_
  refine th_ialdF hC hB.1 hb1 ro_4 rfl (Eq.refl _) (by omega) (by omega) rfl gX7_addToTally_0.2.2.2.2.1 (fun x2 mx2 lx2 ux2 => ?_)
  replace hF := hF.trans (dv_bn (dv_aldI hB.1 hU hb1 ow_4 (z := p1.toInt) mx2 (by omega)))
  obtain ⟨fi1, fi2⟩ := th_fit_at k1 mbn8 mb1 mx2
  refine lv_istore (lv' := [(4, .int x2), (0, .ref a0), (1, .int p1), (2, .int p2), (3, .int p3)]) hx hb gX7_addToTally_0.2.2.2.2.2.1 hl (by decide) rfl (fun ls hl => ?_)
  refine lv_iconst (v := 0) hx hb gX7_addToTally_0.2.2.2.2.2.2.1 (by decide) ?_
  refine lv_istore (lv' := [(5, .int 0), (4, .int x2), (0, .ref a0), (1, .int p1), (2, .int p2), (3, .int p3)]) hx hb gX7_addToTally_0.2.2.2.2.2.2.2 hl (by decide) rfl (fun ls hl => ?_)
  have lp14 : ∀ (n14 : Nat) (H14 : Heap) (locs : List Loc) (ls : Array Slot) (j14_5 : Int32), th_B G Γ Γ [(30, 0)] H0 H14 locs → th_RC G Γ H14 → lv_has ls 7 [(4, .int x2), (0, .ref a0), (1, .int p1), (2, .int p2), (3, .int p3), (5, .int j14_5)] → F = dv_lp f_X7_addToTally_14b (dv G Γ H14, x2.toInt, (a0 : Int), p1.toInt, p2.toInt, p3.toInt, j14_5.toInt) → 0 ≤ j14_5.toInt → j14_5.toInt ≤ 12 → (2147483648 : Int) - j14_5.toInt ≤ (n14 : Int) → W p l e ({ frames := 0, cells := 0, slots := 0, locals := 0 } : Room) s m ([.ref a0, .int p1, .int p2, .int p3] : List Value).toArray below meth c H14 locs 0 0 (MQ below (th_Q (fun (v : Option Value) (H1 : Heap) => v = none ∧ th_I G Γ H1 ∧ th_F G Γ [(30, 0)] H0 H1 ∧ th_RC G Γ H1 ∧ (f_X7_addToTally (dv G Γ H0) (a0 : Int) p1.toInt p2.toInt p3.toInt = (dv G Γ H1, 0))) G) ([.ref a0, .int p1, .int p2, .int p3] : List Value).toArray s 0 0 (fun q => G.1.2.2 ≤ q)) (F0 m 14 ls []) := by
    intro n14
    induction n14 with
    | zero => intro H14 locs ls j14_5 hB hR hl hF g14_0 g14_1 hm14; exact absurd hm14 (by have := ti_hi j14_5; omega)
    | succ n14 ih14 =>
      intro H14 locs ls j14_5 hB hR hl hF g14_0 g14_1 hm14
      have lj14_5 := ti_lo j14_5; have uj14_5 := ti_hi j14_5
      have hm14 : (2147483648 : Int) - j14_5.toInt ≤ (n14 : Int) + 1 := by omega
      replace hF := hF.trans (dv_lp_eq)
      replace hF := hF.trans (congrArg (dv_k f_X7_addToTally_14b) (f_X7_addToTally_14c.eq_1 (dv G Γ H14) (x2.toInt) ((a0 : Int)) (p1.toInt) (p2.toInt) (p3.toInt) (j14_5.toInt)))
      refine lv_iload hx hb gX7_addToTally_1.1 (lv_at hl 5 rfl) ?_
      refine lv_iload hx hb gX7_addToTally_1.2.1 (lv_at hl 0 rfl) ?_
      refine tr_icmp_ge (tgt := 72) hx hb gX7_addToTally_1.2.2.1 (by decide) (Eq.refl _) (Eq.refl _) (fun c18 => ?_) (fun c18 => ?_)
      · replace hF := hF.trans (congrArg (dv_k f_X7_addToTally_14b) (if_pos c18))
        replace hF := hF.trans (dv_kr)
        exact th_vret hC hH hr hlocks hB.2.1 ⟨rfl, hB.1, hB.2.2, hR, (hF0.symm.trans hF)⟩ gX7_addToTally_5
      · replace hF := hF.trans (congrArg (dv_k f_X7_addToTally_14b) (if_neg (Int.not_le.mpr c18)))
        refine lv_iload_n hx hb gX7_addToTally_1.2.2.2.1 rfl (lv_at hl 4 rfl) ?_
        refine tr_if_le (tgt := 72) hx hb gX7_addToTally_1.2.2.2.2.1 (by decide) (Eq.refl _) (fun c22 => ?_) (fun c22 => ?_)
        · replace hF := hF.trans (congrArg (dv_k f_X7_addToTally_14b) (if_pos c22))
          replace hF := hF.trans (dv_kr)
          exact th_vret hC hH hr hlocks hB.2.1 ⟨rfl, hB.1, hB.2.2, hR, (hF0.symm.trans hF)⟩ gX7_addToTally_5
        · replace hF := hF.trans (congrArg (dv_k f_X7_addToTally_14b) (if_neg (Int.not_le.mpr c22)))
          refine lv_iconst (v := 0) hx hb gX7_addToTally_1.2.2.2.2.2.1 (by decide) ?_
          refine lv_istore (lv' := [(6, .int 0), (4, .int x2), (0, .ref a0), (1, .int p1), (2, .int p2), (3, .int p3), (5, .int j14_5)]) hx hb gX7_addToTally_1.2.2.2.2.2.2.1 hl (by decide) rfl (fun ls hl => ?_)
          have lp28 : ∀ (n28 : Nat) (H28 : Heap) (locs : List Loc) (ls : Array Slot) (j28_6 : Int32), th_B G Γ Γ [(30, 0)] H0 H28 locs → th_RC G Γ H28 → lv_has ls 7 [(4, .int x2), (0, .ref a0), (1, .int p1), (2, .int p2), (3, .int p3), (5, .int j14_5), (6, .int j28_6)] → F = dv_k f_X7_addToTally_14b (dv_lp f_X7_addToTally_28b (dv G Γ H28, x2.toInt, (a0 : Int), p1.toInt, p2.toInt, p3.toInt, j14_5.toInt, j28_6.toInt)) → 0 ≤ j28_6.toInt → j28_6.toInt ≤ 12 → (2147483648 : Int) - j28_6.toInt ≤ (n28 : Int) → W p l e ({ frames := 0, cells := 0, slots := 0, locals := 0 } : Room) s m ([.ref a0, .int p1, .int p2, .int p3] : List Value).toArray below meth c H28 locs 0 0 (MQ below (th_Q (fun (v : Option Value) (H1 : Heap) => v = none ∧ th_I G Γ H1 ∧ th_F G Γ [(30, 0)] H0 H1 ∧ th_RC G Γ H1 ∧ (f_X7_addToTally (dv G Γ H0) (a0 : Int) p1.toInt p2.toInt p3.toInt = (dv G Γ H1, 0))) G) ([.ref a0, .int p1, .int p2, .int p3] : List Value).toArray s 0 0 (fun q => G.1.2.2 ≤ q)) (F0 m 28 ls []) := by
            intro n28
            induction n28 with
            | zero => intro H28 locs ls j28_6 hB hR hl hF g28_0 g28_1 hm28; exact absurd hm28 (by have := ti_hi j28_6; omega)
            | succ n28 ih28 =>
              intro H28 locs ls j28_6 hB hR hl hF g28_0 g28_1 hm28
              have lj28_6 := ti_lo j28_6; have uj28_6 := ti_hi j28_6
              have hm28 : (2147483648 : Int) - j28_6.toInt ≤ (n28 : Int) + 1 := by omega
              replace hF := hF.trans (congrArg (dv_k f_X7_addToTally_14b) (dv_lp_eq))
              replace hF := hF.trans (congrArg (dv_k f_X7_addToTally_14b) (congrArg (dv_k f_X7_addToTally_28b) (f_X7_addToTally_28c.eq_1 (dv G Γ H28) (x2.toInt) ((a0 : Int)) (p1.toInt) (p2.toInt) (p3.toInt) (j14_5.toInt) (j28_6.toInt))))
              refine lv_iload hx hb gX7_addToTally_1.2.2.2.2.2.2.2 (lv_at hl 6 rfl) ?_
              refine lv_iload hx hb gX7_addToTally_2.1 (lv_at hl 0 rfl) ?_
              refine tr_icmp_ge (tgt := 66) hx hb gX7_addToTally_2.2.1 (by decide) (Eq.refl _) (Eq.refl _) (fun c32 => ?_) (fun c32 => ?_)
              · replace hF := hF.trans (congrArg (dv_k f_X7_addToTally_14b) (congrArg (dv_k f_X7_addToTally_28b) (if_pos c32)))
                refine tr_iinc (fun x3 => [(5, .int x3), (4, .int x2), (0, .ref a0), (1, .int p1), (2, .int p2), (3, .int p3), (6, .int j28_6)]) hx hb gX7_addToTally_4.2.2.2.2.2.2.1 hl (k := 5) rfl (Eq.refl _) tk_1 (by omega) (by omega) (by decide) (fun _ => rfl) (fun x3 ls ex3 hl => ?_)
                replace hF := hF.trans (congrArg (dv_k f_X7_addToTally_14b) (congrArg (dv_k f_X7_addToTally_28b) (dv_bn (ex3.symm))))
                refine lv_goto (tgt := 14) hx hb gX7_addToTally_4.2.2.2.2.2.2.2 (by decide) ?_
                replace hF := hF.trans (congrArg (dv_k f_X7_addToTally_14b) (dv_kr))
                replace hF := hF.trans (dv_kl)
                exact ih14 H28 locs ls x3 hB hR (lv_sub hl [1, 2, 3, 4, 5, 0] rfl) hF (by omega) (by omega) (by omega)
              · replace hF := hF.trans (congrArg (dv_k f_X7_addToTally_14b) (congrArg (dv_k f_X7_addToTally_28b) (if_neg (Int.not_le.mpr c32))))
                refine lv_aload_n hx hb gX7_addToTally_2.2.2.1 rfl (lv_at hl 1 rfl) ?_
                refine th_getO (j := 3) (r2 := 30) hC cf_X7 hB.1 h0 ro_27 rfl rfl kf_X7_25 gX7_addToTally_2.2.2.2.1 (fun b4 mb4 hb4 => ?_)
                have sb4 := (th_F_o hB.2.2 h0 ro_27 (j := 3) (by decide) (by decide)).symm.trans mb4
                refine lv_iload_n hx hb gX7_addToTally_2.2.2.2.2.1 rfl (lv_at hl 2 rfl) ?_
                refine lv_sipush (v := 144) hx hb gX7_addToTally_2.2.2.2.2.2.1 (by decide) ?_
                refine tr_imul hx hb gX7_addToTally_2.2.2.2.2.2.2.1 (Eq.refl _) tk_144 (by omega) (by omega) (fun x5 ex5 => ?_)
                replace hF := hF.trans (congrArg (dv_k f_X7_addToTally_14b) (congrArg (dv_k f_X7_addToTally_28b) (dv_bn (ex5.symm))))
                refine lv_iload_n hx hb gX7_addToTally_2.2.2.2.2.2.2.2 rfl (lv_at hl 3 rfl) ?_
                refine tr_iadd hx hb gX7_addToTally_3.1 (Eq.refl _) (Eq.refl _) (by omega) (by omega) (fun x6 ex6 => ?_)
                replace hF := hF.trans (congrArg (dv_k f_X7_addToTally_14b) (congrArg (dv_k f_X7_addToTally_28b) (dv_bn (ex6.symm))))
                refine lv_iload hx hb gX7_addToTally_3.2.1 (lv_at hl 5 rfl) ?_
                refine lv_bipush (v := 12) hx hb gX7_addToTally_3.2.2.1 (by decide) ?_
                refine tr_imul hx hb gX7_addToTally_3.2.2.2.1 (Eq.refl _) tk_12 (by omega) (by omega) (fun x7 ex7 => ?_)
                replace hF := hF.trans (congrArg (dv_k f_X7_addToTally_14b) (congrArg (dv_k f_X7_addToTally_28b) (dv_bn (ex7.symm))))
                refine tr_iadd hx hb gX7_addToTally_3.2.2.2.2.1 (Eq.refl _) (Eq.refl _) (by omega) (by omega) (fun x8 ex8 => ?_)
                replace hF := hF.trans (congrArg (dv_k f_X7_addToTally_14b) (congrArg (dv_k f_X7_addToTally_28b) (dv_bn (ex8.symm))))
                refine lv_iload hx hb gX7_addToTally_3.2.2.2.2.2.1 (lv_at hl 6 rfl) ?_
                refine tr_iadd hx hb gX7_addToTally_3.2.2.2.2.2.2.1 (Eq.refl _) (Eq.refl _) (by omega) (by omega) (fun x9 ex9 => ?_)
                replace hF := hF.trans (congrArg (dv_k f_X7_addToTally_14b) (congrArg (dv_k f_X7_addToTally_28b) (dv_bn (ex9.symm))))
                refine lv_dup2_11 hx hb gX7_addToTally_3.2.2.2.2.2.2.2 rfl rfl ?_
                refine th_ialdF hC hB.1 hb4 ro_30 rfl (Eq.refl _) (by omega) (by omega) rfl gX7_addToTally_4.1 (fun x10 mx10 lx10 ux10 => ?_)
                replace hF := hF.trans (congrArg (dv_k f_X7_addToTally_14b) (congrArg (dv_k f_X7_addToTally_28b) (dv_bn (dv_aldI hB.1 hU hb4 ow_30 (z := x9.toInt) mx10 (by omega)))))
                refine lv_iload_n hx hb gX7_addToTally_4.2.1 rfl (lv_at hl 4 rfl) ?_
                refine lv_iadd hx hb gX7_addToTally_4.2.2.1 ?_
                refine lv_topi (fun x11 ex11 => ?_)
                have lx11 := ti_lo x11; have ux11 := ti_hi x11
                replace hF := hF.trans (congrArg (dv_k f_X7_addToTally_14b) (congrArg (dv_k f_X7_addToTally_28b) (dv_bn (dv_add_e (Eq.refl _) (Eq.refl _) ex11))))
                have hIo := hB.1
                refine th_iastF hC hB hb4 (Or.inl hb4) ro_30 rfl (by decide) (Eq.refl _) (by omega) (by omega) th_sIa gX7_addToTally_4.2.2.2.1 (fun H59 locs hB hf59 hst59 => ?_)
                have hf := hf59
                have mm12 := (th_F_o hf h0 ro_27 (j := 3) (by decide) (by decide)).trans mb4
                have hR := th_RC_F hB.1 hR hf (th_T_s hb4 ro_30 hst59) (by decide)
                replace hF := hF.trans (congrArg (dv_k f_X7_addToTally_14b) (congrArg (dv_k f_X7_addToTally_28b) (dv_bn (dv_stoI hIo hB.1 hU hb4 ow_30 (i := x9.toInt) hst59 (Eq.refl _) (by omega)))))
                refine tr_iinc (fun x13 => [(6, .int x13), (4, .int x2), (0, .ref a0), (1, .int p1), (2, .int p2), (3, .int p3), (5, .int j14_5)]) hx hb gX7_addToTally_4.2.2.2.2.1 hl (k := 6) rfl (Eq.refl _) tk_1 (by omega) (by omega) (by decide) (fun _ => rfl) (fun x13 ls ex13 hl => ?_)
                replace hF := hF.trans (congrArg (dv_k f_X7_addToTally_14b) (congrArg (dv_k f_X7_addToTally_28b) (dv_bn (ex13.symm))))
                refine lv_goto (tgt := 28) hx hb gX7_addToTally_4.2.2.2.2.2.1 (by decide) ?_
                replace hF := hF.trans (congrArg (dv_k f_X7_addToTally_14b) (dv_kl))
                exact ih28 H59 locs ls x13 hB hR (lv_sub hl [1, 2, 3, 4, 5, 6, 0] rfl) hF (by omega) (by omega) (by omega)
          exact lp28 ((2147483648 : Int) - (0)).toNat H14 locs ls 0 hB hR (lv_sub hl [1, 2, 3, 4, 5, 6, 0] rfl) (by rw [tk_0]; exact hF) (by decide) (by decide) (by have w0 := tk_0; omega)
  exact lp14 ((2147483648 : Int) - (0)).toNat H0 [] ls 0 hB hR (lv_sub hl [1, 2, 3, 4, 5, 0] rfl) (by rw [tk_0]; exact hF) (by decide) (by decide) (by have w0 := tk_0; omega)

set_option maxHeartbeats 4000000 in
set_option maxRecDepth 100000 in
theorem c_X7_tallyKey (l : Launch) (G : th_G) (Γ : th_Ga) (H0 : Heap) (hI : th_I G Γ H0) (hR : th_RC G Γ H0) (hU : dv_U Γ) (a0 : Nat) (h0 : Γ a0 = (27, 0)) (p1 : Int64) (p2 : Int32) (nn7 : ∃ b : Nat, th_sl H0 a0 (G.1.1.2 7 7) = .ref b ∧ Γ b = (11, 0)) (nn8 : ∃ b : Nat, th_sl H0 a0 (G.1.1.2 7 8) = .ref b ∧ Γ b = (3, 0)) : Met l yX7_tallyKey (.code yX7_tallyKey cX7_tallyKey 7 (none) :: th_tb) ({ frames := 5, cells := 0, slots := 0, locals := 130 } : Room) (th_P [.ref a0, .long p1, .int p2] G H0) (th_Q (fun (v : Option Value) (H1 : Heap) => v = none ∧ th_I G Γ H1 ∧ th_F G Γ [(24, 0), (23, 3), (26, 0), (25, 0), (28, 0), (29, 0), (30, 0)] H0 H1 ∧ th_RC G Γ H1) G) 0 0 (fun q => G.1.2.2 ≤ q) := by
  refine th_met RX7 (by decide) rfl (Nat.le_of_ble_eq_true rfl) ?_
  intro p e s m below meth c hC hH hr hlocks hnm ls hl
  have hx := hC.1
  have hb := hC.2.1
  have hB : th_B G Γ Γ [(24, 0), (23, 3), (26, 0), (25, 0), (28, 0), (29, 0), (30, 0)] H0 H0 [] := ⟨hI, va_S.rf, th_F_rf⟩
  have hl : lv_has ls 7 [(0, .ref a0), (1, .long p1), (3, .int p2)] := hl
  have lp2 := ti_lo p2; have up2 := ti_hi p2
  obtain ⟨bn7, mbn7, hbn7⟩ := nn7
  obtain ⟨bn8, mbn8, hbn8⟩ := nn8
  refine lv_aload_n hx hb gX7_tallyKey_0.1 rfl (lv_at hl 0 rfl) ?_
  refine lv_lload_n hx hb gX7_tallyKey_0.2.1 rfl (lv_at hl 1 rfl) ?_
  refine lv_iconst (v := 0) hx hb gX7_tallyKey_0.2.2.1 (by decide) ?_
  refine th_call (th_runV (As := [.long p1, .int 0]) (rest := []) hC mf_X7_firstBare km_X7_104 im_X7_firstBare se_X7_firstBare (c_X7_firstBare l G Γ H0 hB.1 hU a0 h0 p1 0 (by decide) (by decide) ⟨_, mbn8, hbn8⟩) rfl rfl ⟨Nat.le_of_ble_eq_true rfl, Nat.le_of_ble_eq_true rfl⟩ hB.1 h0 ro_27 rfl rfl hl.1 rfl (Nat.le_of_ble_eq_true rfl) gX7_tallyKey_0.2.2.2.1 ⟨Nat.le_refl _, Nat.le_refl _⟩) hB.2.1 (fun v3 H3 locs hp hz hS => ?_)
  obtain ⟨x1, rfl, lx1, ux1, q3_0, rfl⟩ := hp
  have hB := th_B_s hB hS
  have w3_1 := tk_0
  refine W.eq (g2 := F0 m 6 ls [.int x1]) rfl ?_
  refine lv_istore (lv' := [(4, .int x1), (0, .ref a0), (1, .long p1), (3, .int p2)]) hx hb gX7_tallyKey_0.2.2.2.2.1 hl (by decide) rfl (fun ls hl => ?_)
  refine lv_iconst (v := 0) hx hb gX7_tallyKey_0.2.2.2.2.2.1 (by decide) ?_
  refine lv_istore (lv' := [(5, .int 0), (4, .int x1), (0, .ref a0), (1, .long p1), (3, .int p2)]) hx hb gX7_tallyKey_0.2.2.2.2.2.2.1 hl (by decide) rfl (fun ls hl => ?_)
  have lp11 : ∀ (n11 : Nat) (H11 : Heap) (locs : List Loc) (ls : Array Slot) (j11_5 : Int32), th_B G Γ Γ [(24, 0), (23, 3), (26, 0), (25, 0), (28, 0), (29, 0), (30, 0)] H0 H11 locs → th_RC G Γ H11 → lv_has ls 7 [(4, .int x1), (0, .ref a0), (1, .long p1), (3, .int p2), (5, .int j11_5)] → 0 ≤ j11_5.toInt → j11_5.toInt ≤ 9 → (2147483648 : Int) - j11_5.toInt ≤ (n11 : Int) → W p l e ({ frames := 5, cells := 0, slots := 0, locals := 130 } : Room) s m ([.ref a0, .long p1, .int p2] : List Value).toArray below meth c H11 locs 0 0 (MQ below (th_Q (fun (v : Option Value) (H1 : Heap) => v = none ∧ th_I G Γ H1 ∧ th_F G Γ [(24, 0), (23, 3), (26, 0), (25, 0), (28, 0), (29, 0), (30, 0)] H0 H1 ∧ th_RC G Γ H1) G) ([.ref a0, .long p1, .int p2] : List Value).toArray s 0 0 (fun q => G.1.2.2 ≤ q)) (F0 m 11 ls []) := by
    intro n11
    induction n11 with
    | zero => intro H11 locs ls j11_5 hB hR hl g11_0 g11_1 hm11; exact absurd hm11 (by have := ti_hi j11_5; omega)
    | succ n11 ih11 =>
      intro H11 locs ls j11_5 hB hR hl g11_0 g11_1 hm11
      have lj11_5 := ti_lo j11_5; have uj11_5 := ti_hi j11_5
      have mm2 := (th_F_o hB.2.2 h0 ro_27 (j := 7) (by decide) (by decide)).trans mbn7
      have mm3 := (th_F_o hB.2.2 h0 ro_27 (j := 8) (by decide) (by decide)).trans mbn8
      have hm11 : (2147483648 : Int) - j11_5.toInt ≤ (n11 : Int) + 1 := by omega
      refine lv_iload hx hb gX7_tallyKey_0.2.2.2.2.2.2.2 (lv_at hl 4 rfl) ?_
      refine lv_aload_n hx hb gX7_tallyKey_1.1 rfl (lv_at hl 1 rfl) ?_
      refine th_getK hC cf_X7 hB.1 h0 ro_27 rfl (j := 8) (by decide) mm3 kf_X7_38 gX7_tallyKey_1.2.1 ?_
      refine th_getI (j := 7) hC cf_X1 hB.1 hbn8 ro_3 rfl rfl kf_X7_123 gX7_tallyKey_1.2.2.1 (fun x4 mx4 lx4 ux4 => ?_)
      have sx4 := (th_F_o hB.2.2 hbn8 ro_3 (j := 7) (by decide) (by decide)).symm.trans mx4
      refine tr_icmp_ge (tgt := 121) hx hb gX7_tallyKey_1.2.2.2.1 (by decide) (Eq.refl _) (Eq.refl _) (fun c20 => ?_) (fun c20 => ?_)
      · exact th_vret hC hH hr hlocks hB.2.1 ⟨rfl, hB.1, hB.2.2, hR⟩ gX7_tallyKey_7.2.2.2.2
      · refine lv_aload_n hx hb gX7_tallyKey_1.2.2.2.2.1 rfl (lv_at hl 1 rfl) ?_
        refine lv_lload_n hx hb gX7_tallyKey_1.2.2.2.2.2.1 rfl (lv_at hl 2 rfl) ?_
        refine lv_iload hx hb gX7_tallyKey_1.2.2.2.2.2.2.1 (lv_at hl 4 rfl) ?_
        refine lv_iload hx hb gX7_tallyKey_1.2.2.2.2.2.2.2 (lv_at hl 0 rfl) ?_
        refine th_call (th_runV (As := [.long p1, .int j11_5, .int x1]) (rest := []) hC mf_X7_fits km_X7_108 im_X7_fits se_X7_fits (c_X7_fits l G Γ H11 hB.1 hU a0 h0 p1 j11_5 x1 (by omega) (by omega) ⟨_, mm3, hbn8⟩) rfl rfl ⟨Nat.le_of_ble_eq_true rfl, Nat.le_of_ble_eq_true rfl⟩ hB.1 h0 ro_27 rfl rfl hl.1 rfl (Nat.le_of_ble_eq_true rfl) gX7_tallyKey_2.1 ⟨Nat.le_refl _, Nat.le_refl _⟩) hB.2.1 (fun v29 H29 locs hp hz hS => ?_)
        obtain ⟨x5, rfl, lx5, ux5, q29_0, q29_1, q29_2, q29_3, rfl⟩ := hp
        have hB := th_B_s hB hS
        refine W.eq (g2 := F0 m 32 ls [.int x5]) rfl ?_
        have jn115 : ∀ (H115 : Heap) (locs : List Loc) (ls : Array Slot) , th_B G Γ Γ [(24, 0), (23, 3), (26, 0), (25, 0), (28, 0), (29, 0), (30, 0)] H0 H115 locs → th_RC G Γ H115 → lv_has ls 7 [(4, .int x1), (0, .ref a0), (1, .long p1), (3, .int p2), (5, .int j11_5)] → W p l e ({ frames := 5, cells := 0, slots := 0, locals := 130 } : Room) s m ([.ref a0, .long p1, .int p2] : List Value).toArray below meth c H115 locs 0 0 (MQ below (th_Q (fun (v : Option Value) (H1 : Heap) => v = none ∧ th_I G Γ H1 ∧ th_F G Γ [(24, 0), (23, 3), (26, 0), (25, 0), (28, 0), (29, 0), (30, 0)] H0 H1 ∧ th_RC G Γ H1) G) ([.ref a0, .long p1, .int p2] : List Value).toArray s 0 0 (fun q => G.1.2.2 ≤ q)) (F0 m 115 ls []) := by
          intro H115 locs ls hB hR hl
          have mm6 := (th_F_o hB.2.2 h0 ro_27 (j := 7) (by decide) (by decide)).trans mbn7
          have mm7 := (th_F_o hB.2.2 h0 ro_27 (j := 8) (by decide) (by decide)).trans mbn8
          have mm8 := (th_F_o hB.2.2 hbn8 ro_3 (j := 7) (by decide) (by decide)).trans sx4
          refine tr_iinc (fun x9 => [(5, .int x9), (4, .int x1), (0, .ref a0), (1, .long p1), (3, .int p2)]) hx hb gX7_tallyKey_7.2.2.1 hl (k := 4) rfl (Eq.refl _) tk_1 (by omega) (by omega) (by decide) (fun _ => rfl) (fun x9 ls ex9 hl => ?_)
          refine lv_goto (tgt := 11) hx hb gX7_tallyKey_7.2.2.2.1 (by decide) ?_
          exact ih11 H115 locs ls x9 hB hR (lv_sub hl [1, 2, 3, 4, 0] rfl) (by omega) (by omega) (by omega)
        refine tr_if_eq (tgt := 115) hx hb gX7_tallyKey_2.2.1 (by decide) (Eq.refl _) (fun c32 => ?_) (fun c32 => ?_)
        · exact jn115 H11 locs ls hB hR (lv_sub hl [0, 1, 2, 3, 4] rfl)
        · refine lv_aload_n hx hb gX7_tallyKey_2.2.2.1 rfl (lv_at hl 1 rfl) ?_
          have ft := q29_2 (by omega)
          refine lv_iload hx hb gX7_tallyKey_2.2.2.2.1 (lv_at hl 4 rfl) ?_
          refine lv_iload hx hb gX7_tallyKey_2.2.2.2.2.1 (lv_at hl 0 rfl) ?_
          refine th_call (th_runV (As := [.int j11_5, .int x1]) (rest := []) hC mf_X7_priceAt km_X7_112 im_X7_priceAt se_X7_priceAt (c_X7_priceAt l G Γ H11 hB.1 hR hU a0 h0 j11_5 (by omega) (by omega) x1 (by omega) (by omega) ⟨_, mm2, hbn7⟩ ⟨_, mm3, hbn8⟩) rfl rfl ⟨Nat.le_of_ble_eq_true rfl, Nat.le_of_ble_eq_true rfl⟩ hB.1 h0 ro_27 rfl rfl hl.1 rfl (Nat.le_of_ble_eq_true rfl) gX7_tallyKey_2.2.2.2.2.2.1 ⟨Nat.le_refl _, Nat.le_refl _⟩) hB.2.1 (fun v40 H40 locs hp hz hS => ?_)
          obtain ⟨x10, rfl, hI1, hf, hR, z40_0⟩ := hp
          have hB := th_B_c hB hI1 hS hf (by decide)
          have mm11 := (th_F_o hf h0 ro_27 (j := 7) (by decide) (by decide)).trans mm2
          have mm12 := (th_F_o hf h0 ro_27 (j := 8) (by decide) (by decide)).trans mm3
          have mm13 := (th_F_o hf hbn8 ro_3 (j := 7) (by decide) (by decide)).trans mx4
          have mc14 := th_fit_F ft h0 hf (by decide)
          refine W.eq (g2 := F0 m 43 ls [.int x10]) rfl ?_
          refine lv_iconst (v := (-1)) hx hb gX7_tallyKey_2.2.2.2.2.2.2.1 (by decide) ?_
          refine tr_icmp_ne (tgt := 50) hx hb gX7_tallyKey_2.2.2.2.2.2.2.2 (by decide) (Eq.refl _) tk_m1 (fun c44 => ?_) (fun c44 => ?_)
          · refine lv_aload_n hx hb gX7_tallyKey_3.2.1 rfl (lv_at hl 1 rfl) ?_
            refine th_getR (j := 0) (r2 := 12) hC cf_X7 hB.1 h0 ro_27 rfl rfl kf_X7_12 gX7_tallyKey_3.2.2.1 (fun b15 mb15 hb15 => ?_)
            have sb15 := (th_F_o hB.2.2 h0 ro_27 (j := 0) (by decide) (by decide)).symm.trans mb15
            refine lv_aload_n hx hb gX7_tallyKey_3.2.2.2.1 rfl (lv_at hl 1 rfl) ?_
            refine lv_lload_n hx hb gX7_tallyKey_3.2.2.2.2.1 rfl (lv_at hl 2 rfl) ?_
            refine lv_iload hx hb gX7_tallyKey_3.2.2.2.2.2.1 (lv_at hl 4 rfl) ?_
            refine lv_iload hx hb gX7_tallyKey_3.2.2.2.2.2.2.1 (lv_at hl 0 rfl) ?_
            refine th_call (th_runV (As := [.long p1, .int j11_5, .int x1]) (rest := [.ref b15]) hC mf_X7_keyWith km_X7_152 im_X7_keyWith se_X7_keyWith (c_X7_keyWith l G Γ H40 hB.1 hU a0 h0 p1 j11_5 (by omega) (by omega) x1 (by omega) (by omega) ⟨_, mm12, hbn8⟩) rfl rfl ⟨Nat.le_of_ble_eq_true rfl, Nat.le_of_ble_eq_true rfl⟩ hB.1 h0 ro_27 rfl rfl hl.1 rfl (Nat.le_of_ble_eq_true rfl) gX7_tallyKey_3.2.2.2.2.2.2.2 ⟨Nat.le_refl _, Nat.le_refl _⟩) hB.2.1 (fun v60 H60 locs hp hz hS => ?_)
            obtain ⟨y16, rfl, q60_0, rfl⟩ := hp
            have hB := th_B_s hB hS
            refine W.eq (g2 := F0 m 63 ls [.long y16, .ref b15]) rfl ?_
            refine th_call (th_runV (As := [.long y16]) (rest := []) hC mf_X3_find km_X7_145 im_X3_find se_X3_find (c_X3_find l G Γ H40 hB.1 hR b15 hb15 y16) rfl rfl ⟨Nat.le_of_ble_eq_true rfl, Nat.le_of_ble_eq_true rfl⟩ hB.1 hb15 ro_12 rfl rfl hl.1 rfl (Nat.le_of_ble_eq_true rfl) gX7_tallyKey_4.1 ⟨Nat.le_refl _, Nat.le_refl _⟩) hB.2.1 (fun v63 H63 locs hp hz hS => ?_)
            obtain ⟨x17, rfl, lx17, ux17, q63_0, rfl⟩ := hp
            have hB := th_B_s hB hS
            refine W.eq (g2 := F0 m 66 ls [.int x17]) rfl ?_
            refine lv_istore (lv' := [(6, .int x17), (4, .int x1), (0, .ref a0), (1, .long p1), (3, .int p2), (5, .int j11_5)]) hx hb gX7_tallyKey_4.2.1 hl (by decide) rfl (fun ls hl => ?_)
            refine lv_iload hx hb gX7_tallyKey_4.2.2.1 (lv_at hl 0 rfl) ?_
            refine lv_iconst (v := (-1)) hx hb gX7_tallyKey_4.2.2.2.1 (by decide) ?_
            refine tr_icmp_ne (tgt := 86) hx hb gX7_tallyKey_4.2.2.2.2.1 (by decide) (Eq.refl _) tk_m1 (fun c71 => ?_) (fun c71 => ?_)
            · refine lv_aload_n hx hb gX7_tallyKey_5.2.2.2.1 rfl (lv_at hl 2 rfl) ?_
              refine th_getK hC cf_X7 hB.1 h0 ro_27 rfl (j := 0) (by decide) mb15 kf_X7_12 gX7_tallyKey_5.2.2.2.2.1 ?_
              refine lv_iload hx hb gX7_tallyKey_5.2.2.2.2.2.1 (lv_at hl 0 rfl) ?_
              refine lv_iload_n hx hb gX7_tallyKey_5.2.2.2.2.2.2.1 rfl (lv_at hl 4 rfl) ?_
              refine th_call (th_runV (As := [.int x17, .int p2]) (rest := []) hC mf_X3_addFlow km_X7_202 im_X3_addFlow se_X3_addFlow (c_X3_addFlow l G Γ H40 hB.1 hR b15 hb15 x17 p2) rfl rfl ⟨Nat.le_of_ble_eq_true rfl, Nat.le_of_ble_eq_true rfl⟩ hB.1 hb15 ro_12 rfl rfl hl.1 rfl (Nat.le_of_ble_eq_true rfl) gX7_tallyKey_5.2.2.2.2.2.2.2 ⟨Nat.le_refl _, Nat.le_refl _⟩) hB.2.1 (fun v93 H93 locs hp hz hS => ?_)
              obtain ⟨rfl, hI1, hf, hR⟩ := hp
              have hB := th_B_c hB hI1 hS hf (by decide)
              have mm18 := (th_F_o hf h0 ro_27 (j := 7) (by decide) (by decide)).trans mm11
              have mm19 := (th_F_o hf h0 ro_27 (j := 8) (by decide) (by decide)).trans mm12
              have mm20 := (th_F_o hf hbn8 ro_3 (j := 7) (by decide) (by decide)).trans mm13
              have mm21 := (th_F_o hf h0 ro_27 (j := 0) (by decide) (by decide)).trans mb15
              have mc22 := th_fit_F mc14 h0 hf (by decide)
              refine W.eq (g2 := F0 m 96 ls []) rfl ?_
              refine lv_aload_n hx hb gX7_tallyKey_6.1 rfl (lv_at hl 2 rfl) ?_
              refine lv_iload hx hb gX7_tallyKey_6.2.1 (lv_at hl 5 rfl) ?_
              refine lv_iload hx hb gX7_tallyKey_6.2.2.1 (lv_at hl 1 rfl) ?_
              refine lv_iload_n hx hb gX7_tallyKey_6.2.2.2.1 rfl (lv_at hl 4 rfl) ?_
              refine lv_aload_n hx hb gX7_tallyKey_6.2.2.2.2.1 rfl (lv_at hl 2 rfl) ?_
              refine th_getK hC cf_X7 hB.1 h0 ro_27 rfl (j := 0) (by decide) mm21 kf_X7_12 gX7_tallyKey_6.2.2.2.2.2.1 ?_
              refine lv_iload hx hb gX7_tallyKey_6.2.2.2.2.2.2.1 (lv_at hl 0 rfl) ?_
              refine th_call (th_runV (As := [.int x17]) (rest := [.int p2, .int x1, .int j11_5, .ref a0]) hC mf_X3_valueIn km_X7_149 im_X3_valueIn se_X3_valueIn (c_X3_valueIn l G Γ H93 hB.1 hR b15 hb15 x17) rfl rfl ⟨Nat.le_of_ble_eq_true rfl, Nat.le_of_ble_eq_true rfl⟩ hB.1 hb15 ro_12 rfl rfl hl.1 rfl (Nat.le_of_ble_eq_true rfl) gX7_tallyKey_6.2.2.2.2.2.2.2 ⟨Nat.le_refl _, Nat.le_refl _⟩) hB.2.1 (fun v108 H108 locs hp hz hS => ?_)
              obtain ⟨x23, rfl, q108_0, rfl⟩ := hp
              have hB := th_B_s hB hS
              refine W.eq (g2 := F0 m 111 ls [.int x23, .int p2, .int x1, .int j11_5, .ref a0]) rfl ?_
              refine lv_imul hx hb gX7_tallyKey_7.1 ?_
              refine lv_topi (fun x24 ex24 => ?_)
              have lx24 := ti_lo x24; have ux24 := ti_hi x24
              refine th_call (th_runV (As := [.int j11_5, .int x1, .int x24]) (rest := []) hC mf_X7_addToTally km_X7_222 im_X7_addToTally se_X7_addToTally (c_X7_addToTally l G Γ H93 hB.1 hR hU a0 h0 j11_5 (by omega) (by omega) x1 (by omega) (by omega) x24 ⟨_, mm19, hbn8⟩ mc22) rfl rfl ⟨Nat.le_of_ble_eq_true rfl, Nat.le_of_ble_eq_true rfl⟩ hB.1 h0 ro_27 rfl rfl hl.1 rfl (Nat.le_of_ble_eq_true rfl) gX7_tallyKey_7.2.1 ⟨Nat.le_refl _, Nat.le_refl _⟩) hB.2.1 (fun v112 H112 locs hp hz hS => ?_)
              obtain ⟨rfl, hI1, hf, hR, z112_0⟩ := hp
              have hB := th_B_c hB hI1 hS hf (by decide)
              have mm25 := (th_F_o hf h0 ro_27 (j := 7) (by decide) (by decide)).trans mm18
              have mm26 := (th_F_o hf h0 ro_27 (j := 8) (by decide) (by decide)).trans mm19
              have mm27 := (th_F_o hf hbn8 ro_3 (j := 7) (by decide) (by decide)).trans mm20
              have mm28 := (th_F_o hf h0 ro_27 (j := 0) (by decide) (by decide)).trans mm21
              have mc29 := th_fit_F mc22 h0 hf (by decide)
              refine W.eq (g2 := F0 m 115 ls []) rfl ?_
              exact jn115 H112 locs ls hB hR (lv_sub hl [1, 2, 3, 4, 5] rfl)
            · refine lv_aload_n hx hb gX7_tallyKey_4.2.2.2.2.2.1 rfl (lv_at hl 2 rfl) ?_
              refine lv_iload hx hb gX7_tallyKey_4.2.2.2.2.2.2.1 (lv_at hl 5 rfl) ?_
              refine lv_iload hx hb gX7_tallyKey_4.2.2.2.2.2.2.2 (lv_at hl 1 rfl) ?_
              refine lv_iload_n hx hb gX7_tallyKey_5.1 rfl (lv_at hl 4 rfl) ?_
              refine th_call (th_runV (As := [.int j11_5, .int x1, .int p2]) (rest := []) hC mf_X7_addToTally km_X7_222 im_X7_addToTally se_X7_addToTally (c_X7_addToTally l G Γ H40 hB.1 hR hU a0 h0 j11_5 (by omega) (by omega) x1 (by omega) (by omega) p2 ⟨_, mm12, hbn8⟩ mc14) rfl rfl ⟨Nat.le_of_ble_eq_true rfl, Nat.le_of_ble_eq_true rfl⟩ hB.1 h0 ro_27 rfl rfl hl.1 rfl (Nat.le_of_ble_eq_true rfl) gX7_tallyKey_5.2.1 ⟨Nat.le_refl _, Nat.le_refl _⟩) hB.2.1 (fun v80 H80 locs hp hz hS => ?_)
              obtain ⟨rfl, hI1, hf, hR, z80_0⟩ := hp
              have hB := th_B_c hB hI1 hS hf (by decide)
              have mm30 := (th_F_o hf h0 ro_27 (j := 7) (by decide) (by decide)).trans mm11
              have mm31 := (th_F_o hf h0 ro_27 (j := 8) (by decide) (by decide)).trans mm12
              have mm32 := (th_F_o hf hbn8 ro_3 (j := 7) (by decide) (by decide)).trans mm13
              have mm33 := (th_F_o hf h0 ro_27 (j := 0) (by decide) (by decide)).trans mb15
              have mc34 := th_fit_F mc14 h0 hf (by decide)
              refine W.eq (g2 := F0 m 83 ls []) rfl ?_
              refine lv_goto (tgt := 115) hx hb gX7_tallyKey_5.2.2.1 (by decide) ?_
              exact jn115 H80 locs ls hB hR (lv_sub hl [1, 2, 3, 4, 5] rfl)
          · refine lv_goto (tgt := 115) hx hb gX7_tallyKey_3.1 (by decide) ?_
            exact jn115 H40 locs ls hB hR (lv_sub hl [0, 1, 2, 3, 4] rfl)
  exact lp11 ((2147483648 : Int) - (0)).toNat H0 locs ls 0 hB hR (lv_sub hl [1, 2, 3, 4, 0] rfl) (by decide) (by decide) (by have w0 := tk_0; omega)
end
section
def s_X7_tallyRow (d : Nat) : Prop := ∀ (l : Launch) (G : th_G) (Γ : th_Ga) (H0 : Heap) (hI : th_I G Γ H0) (hR : th_RC G Γ H0) (hU : dv_U Γ) (a0 : Nat) (h0 : Γ a0 = (27, 0)) (p1 : Int64) (p2 : Int32) (p3 : Int32) (f3 : 0 ≤ p3.toInt) (g3 : p3.toInt ≤ 144) (p4 : Int32) (f4 : 0 ≤ p4.toInt) (g4 : p4.toInt ≤ 9) (nn7 : ∃ b : Nat, th_sl H0 a0 (G.1.1.2 7 7) = .ref b ∧ Γ b = (11, 0)) (nn8 : ∃ b : Nat, th_sl H0 a0 (G.1.1.2 7 8) = .ref b ∧ Γ b = (3, 0)) (hdm : 9 ≤ p4.toInt + (d : Int)), Met l yX7_tallyRow (.code yX7_tallyRow cX7_tallyRow 10 (some FieldType.int) :: th_tb) ({ frames := 5 + d, cells := 0, slots := 0, locals := 130 + d * 29 } : Room) (th_P [.ref a0, .long p1, .int p2, .int p3, .int p4] G H0) (th_Q (fun (v : Option Value) (H1 : Heap) => ∃ r : Int32, v = some (.int r) ∧ th_I G Γ H1 ∧ th_F G Γ [(24, 0), (23, 3), (26, 0), (25, 0), (28, 0), (29, 0), (30, 0)] H0 H1 ∧ th_RC G Γ H1) G) 0 0 (fun q => G.1.2.2 ≤ q)
set_option maxHeartbeats 4000000 in
set_option maxRecDepth 100000 in
theorem c_X7_tallyRow_s (d : Nat) (ihd : ∀ d', d = d' + 1 → s_X7_tallyRow d') : s_X7_tallyRow d := by
  intro l G Γ H0 hI hR hU a0 h0 p1 p2 p3 f3 g3 p4 f4 g4 nn7 nn8 hdm
  refine th_met RX7 (by decide) rfl (Nat.le_of_ble_eq_true rfl) ?_
  intro p e s m below meth c hC hH hr hlocks hnm ls hl
  have hx := hC.1
  have hb := hC.2.1
  have hB : th_B G Γ Γ [(24, 0), (23, 3), (26, 0), (25, 0), (28, 0), (29, 0), (30, 0)] H0 H0 [] := ⟨hI, va_S.rf, th_F_rf⟩
  have hl : lv_has ls 10 [(0, .ref a0), (1, .long p1), (3, .int p2), (4, .int p3), (5, .int p4)] := hl
  have lp2 := ti_lo p2; have up2 := ti_hi p2
  have lp3 := ti_lo p3; have up3 := ti_hi p3
  have lp4 := ti_lo p4; have up4 := ti_hi p4
  obtain ⟨bn7, mbn7, hbn7⟩ := nn7
  obtain ⟨bn8, mbn8, hbn8⟩ := nn8
  refine lv_iload_n hx hb gX7_tallyRow_0.1 rfl (lv_at hl 2 rfl) ?_
  refine tr_if_ne (tgt := 6) hx hb gX7_tallyRow_0.2.1 (by decide) (Eq.refl _) (fun c1 => ?_) (fun c1 => ?_)
  · refine lv_aload_n hx hb gX7_tallyRow_0.2.2.2.2.1 rfl (lv_at hl 0 rfl) ?_
    refine lv_lload_n hx hb gX7_tallyRow_0.2.2.2.2.2.1 rfl (lv_at hl 1 rfl) ?_
    refine lv_iload hx hb gX7_tallyRow_0.2.2.2.2.2.2.1 (lv_at hl 3 rfl) ?_
    refine th_call (th_runV (As := [.long p1, .int p3]) (rest := []) hC mf_X7_firstBare km_X7_104 im_X7_firstBare se_X7_firstBare (c_X7_firstBare l G Γ H0 hB.1 hU a0 h0 p1 p3 (by omega) (by omega) ⟨_, mbn8, hbn8⟩) rfl rfl ⟨by dsimp only; omega, by dsimp only; omega⟩ hB.1 h0 ro_27 rfl rfl hl.1 rfl (Nat.le_of_ble_eq_true rfl) gX7_tallyRow_0.2.2.2.2.2.2.2 ⟨Nat.le_refl _, Nat.le_refl _⟩) hB.2.1 (fun v10 H10 locs hp hz hS => ?_)
    obtain ⟨x1, rfl, lx1, ux1, q10_0, rfl⟩ := hp
    have hB := th_B_s hB hS
    refine W.eq (g2 := F0 m 13 ls [.int x1]) rfl ?_
    refine lv_istore (lv' := [(6, .int x1), (0, .ref a0), (1, .long p1), (3, .int p2), (4, .int p3), (5, .int p4)]) hx hb gX7_tallyRow_1.1 hl (by decide) rfl (fun ls hl => ?_)
    refine lv_iconst (v := 0) hx hb gX7_tallyRow_1.2.1 (by decide) ?_
    refine lv_istore (lv' := [(7, .int 0), (6, .int x1), (0, .ref a0), (1, .long p1), (3, .int p2), (4, .int p3), (5, .int p4)]) hx hb gX7_tallyRow_1.2.2.1 hl (by decide) rfl (fun ls hl => ?_)
    refine lv_iconst (v := 0) hx hb gX7_tallyRow_1.2.2.2.1 (by decide) ?_
    refine lv_istore (lv' := [(8, .int 0), (7, .int 0), (6, .int x1), (0, .ref a0), (1, .long p1), (3, .int p2), (4, .int p3), (5, .int p4)]) hx hb gX7_tallyRow_1.2.2.2.2.1 hl (by decide) rfl (fun ls hl => ?_)
    have lp21 : ∀ (n21 : Nat) (H21 : Heap) (locs : List Loc) (ls : Array Slot) (j21_7 : Int32) (j21_8 : Int32), th_B G Γ Γ [(24, 0), (23, 3), (26, 0), (25, 0), (28, 0), (29, 0), (30, 0)] H0 H21 locs → th_RC G Γ H21 → lv_has ls 10 [(6, .int x1), (0, .ref a0), (1, .long p1), (3, .int p2), (5, .int p4), (7, .int j21_7), (8, .int j21_8)] → 0 ≤ j21_8.toInt → j21_8.toInt ≤ 9 → (2147483648 : Int) - j21_8.toInt ≤ (n21 : Int) → W p l e ({ frames := 5 + d, cells := 0, slots := 0, locals := 130 + d * 29 } : Room) s m ([.ref a0, .long p1, .int p2, .int p3, .int p4] : List Value).toArray below meth c H21 locs 0 0 (MQ below (th_Q (fun (v : Option Value) (H1 : Heap) => ∃ r : Int32, v = some (.int r) ∧ th_I G Γ H1 ∧ th_F G Γ [(24, 0), (23, 3), (26, 0), (25, 0), (28, 0), (29, 0), (30, 0)] H0 H1 ∧ th_RC G Γ H1) G) ([.ref a0, .long p1, .int p2, .int p3, .int p4] : List Value).toArray s 0 0 (fun q => G.1.2.2 ≤ q)) (F0 m 21 ls []) := by
      intro n21
      induction n21 with
      | zero => intro H21 locs ls j21_7 j21_8 hB hR hl g21_0 g21_1 hm21; exact absurd hm21 (by have := ti_hi j21_8; omega)
      | succ n21 ih21 =>
        intro H21 locs ls j21_7 j21_8 hB hR hl g21_0 g21_1 hm21
        have lj21_7 := ti_lo j21_7; have uj21_7 := ti_hi j21_7
        have lj21_8 := ti_lo j21_8; have uj21_8 := ti_hi j21_8
        have mm2 := (th_F_o hB.2.2 h0 ro_27 (j := 7) (by decide) (by decide)).trans mbn7
        have mm3 := (th_F_o hB.2.2 h0 ro_27 (j := 8) (by decide) (by decide)).trans mbn8
        have hm21 : (2147483648 : Int) - j21_8.toInt ≤ (n21 : Int) + 1 := by omega
        refine lv_iload hx hb gX7_tallyRow_1.2.2.2.2.2.1 (lv_at hl 6 rfl) ?_
        refine lv_aload_n hx hb gX7_tallyRow_1.2.2.2.2.2.2.1 rfl (lv_at hl 1 rfl) ?_
        refine th_getK hC cf_X7 hB.1 h0 ro_27 rfl (j := 8) (by decide) mm3 kf_X7_38 gX7_tallyRow_1.2.2.2.2.2.2.2 ?_
        refine th_getI (j := 7) hC cf_X1 hB.1 hbn8 ro_3 rfl rfl kf_X7_123 gX7_tallyRow_2.1 (fun x4 mx4 lx4 ux4 => ?_)
        have sx4 := (th_F_o hB.2.2 hbn8 ro_3 (j := 7) (by decide) (by decide)).symm.trans mx4
        refine tr_icmp_ge (tgt := 134) hx hb gX7_tallyRow_2.2.1 (by decide) (Eq.refl _) (Eq.refl _) (fun c30 => ?_) (fun c30 => ?_)
        · refine lv_iload hx hb gX7_tallyRow_8.2.2.2.2.2.2.1 (lv_at hl 5 rfl) ?_
          exact th_iret hC hH hr hlocks rfl hB.2.1 ⟨_, rfl, hB.1, hB.2.2, hR⟩ gX7_tallyRow_8.2.2.2.2.2.2.2
        · refine lv_iload hx hb gX7_tallyRow_2.2.2.1 (lv_at hl 4 rfl) ?_
          refine lv_bipush (v := 9) hx hb gX7_tallyRow_2.2.2.2.1 (by decide) ?_
          refine tr_icmp_ge (tgt := 134) hx hb gX7_tallyRow_2.2.2.2.2.1 (by decide) (Eq.refl _) tk_9 (fun c37 => ?_) (fun c37 => ?_)
          · refine lv_iload hx hb gX7_tallyRow_8.2.2.2.2.2.2.1 (lv_at hl 5 rfl) ?_
            exact th_iret hC hH hr hlocks rfl hB.2.1 ⟨_, rfl, hB.1, hB.2.2, hR⟩ gX7_tallyRow_8.2.2.2.2.2.2.2
          · refine lv_aload_n hx hb gX7_tallyRow_2.2.2.2.2.2.1 rfl (lv_at hl 1 rfl) ?_
            refine lv_lload_n hx hb gX7_tallyRow_2.2.2.2.2.2.2.1 rfl (lv_at hl 2 rfl) ?_
            refine lv_iload hx hb gX7_tallyRow_2.2.2.2.2.2.2.2 (lv_at hl 6 rfl) ?_
            refine lv_iload hx hb gX7_tallyRow_3.1 (lv_at hl 0 rfl) ?_
            refine th_call (th_runV (As := [.long p1, .int j21_8, .int x1]) (rest := []) hC mf_X7_fits km_X7_108 im_X7_fits se_X7_fits (c_X7_fits l G Γ H21 hB.1 hU a0 h0 p1 j21_8 x1 (by omega) (by omega) ⟨_, mm3, hbn8⟩) rfl rfl ⟨by dsimp only; omega, by dsimp only; omega⟩ hB.1 h0 ro_27 rfl rfl hl.1 rfl (Nat.le_of_ble_eq_true rfl) gX7_tallyRow_3.2.1 ⟨Nat.le_refl _, Nat.le_refl _⟩) hB.2.1 (fun v46 H46 locs hp hz hS => ?_)
            obtain ⟨x5, rfl, lx5, ux5, q46_0, q46_1, q46_2, q46_3, rfl⟩ := hp
            have hB := th_B_s hB hS
            refine W.eq (g2 := F0 m 49 ls [.int x5]) rfl ?_
            have jn128 : ∀ (H128 : Heap) (locs : List Loc) (ls : Array Slot) (j128_7 : Int32), th_B G Γ Γ [(24, 0), (23, 3), (26, 0), (25, 0), (28, 0), (29, 0), (30, 0)] H0 H128 locs → th_RC G Γ H128 → lv_has ls 10 [(6, .int x1), (0, .ref a0), (1, .long p1), (3, .int p2), (5, .int p4), (8, .int j21_8), (7, .int j128_7)] → W p l e ({ frames := 5 + d, cells := 0, slots := 0, locals := 130 + d * 29 } : Room) s m ([.ref a0, .long p1, .int p2, .int p3, .int p4] : List Value).toArray below meth c H128 locs 0 0 (MQ below (th_Q (fun (v : Option Value) (H1 : Heap) => ∃ r : Int32, v = some (.int r) ∧ th_I G Γ H1 ∧ th_F G Γ [(24, 0), (23, 3), (26, 0), (25, 0), (28, 0), (29, 0), (30, 0)] H0 H1 ∧ th_RC G Γ H1) G) ([.ref a0, .long p1, .int p2, .int p3, .int p4] : List Value).toArray s 0 0 (fun q => G.1.2.2 ≤ q)) (F0 m 128 ls []) := by
              intro H128 locs ls j128_7 hB hR hl
              have lj128_7 := ti_lo j128_7; have uj128_7 := ti_hi j128_7
              have mm6 := (th_F_o hB.2.2 h0 ro_27 (j := 7) (by decide) (by decide)).trans mbn7
              have mm7 := (th_F_o hB.2.2 h0 ro_27 (j := 8) (by decide) (by decide)).trans mbn8
              have mm8 := (th_F_o hB.2.2 hbn8 ro_3 (j := 7) (by decide) (by decide)).trans sx4
              refine tr_iinc (fun x9 => [(8, .int x9), (6, .int x1), (0, .ref a0), (1, .long p1), (3, .int p2), (5, .int p4), (7, .int j128_7)]) hx hb gX7_tallyRow_8.2.2.2.2.1 hl (k := 5) rfl (Eq.refl _) tk_1 (by omega) (by omega) (by decide) (fun _ => rfl) (fun x9 ls ex9 hl => ?_)
              refine lv_goto (tgt := 21) hx hb gX7_tallyRow_8.2.2.2.2.2.1 (by decide) ?_
              exact ih21 H128 locs ls j128_7 x9 hB hR (lv_sub hl [1, 2, 3, 4, 5, 6, 0] rfl) (by omega) (by omega) (by omega)
            refine tr_if_eq (tgt := 128) hx hb gX7_tallyRow_3.2.2.1 (by decide) (Eq.refl _) (fun c49 => ?_) (fun c49 => ?_)
            · exact jn128 H21 locs ls j21_7 hB hR (lv_sub hl [0, 1, 2, 3, 4, 6, 5] rfl)
            · refine lv_aload_n hx hb gX7_tallyRow_3.2.2.2.1 rfl (lv_at hl 1 rfl) ?_
              have ft := q46_2 (by omega)
              refine lv_iload hx hb gX7_tallyRow_3.2.2.2.2.1 (lv_at hl 6 rfl) ?_
              refine lv_iload hx hb gX7_tallyRow_3.2.2.2.2.2.1 (lv_at hl 0 rfl) ?_
              refine th_call (th_runV (As := [.int j21_8, .int x1]) (rest := []) hC mf_X7_priceAt km_X7_112 im_X7_priceAt se_X7_priceAt (c_X7_priceAt l G Γ H21 hB.1 hR hU a0 h0 j21_8 (by omega) (by omega) x1 (by omega) (by omega) ⟨_, mm2, hbn7⟩ ⟨_, mm3, hbn8⟩) rfl rfl ⟨by dsimp only; omega, by dsimp only; omega⟩ hB.1 h0 ro_27 rfl rfl hl.1 rfl (Nat.le_of_ble_eq_true rfl) gX7_tallyRow_3.2.2.2.2.2.2.1 ⟨Nat.le_refl _, Nat.le_refl _⟩) hB.2.1 (fun v57 H57 locs hp hz hS => ?_)
              obtain ⟨x10, rfl, hI1, hf, hR, z57_0⟩ := hp
              have hB := th_B_c hB hI1 hS hf (by decide)
              have mm11 := (th_F_o hf h0 ro_27 (j := 7) (by decide) (by decide)).trans mm2
              have mm12 := (th_F_o hf h0 ro_27 (j := 8) (by decide) (by decide)).trans mm3
              have mm13 := (th_F_o hf hbn8 ro_3 (j := 7) (by decide) (by decide)).trans mx4
              have mc14 := th_fit_F ft h0 hf (by decide)
              refine W.eq (g2 := F0 m 60 ls [.int x10]) rfl ?_
              refine lv_iconst (v := (-1)) hx hb gX7_tallyRow_3.2.2.2.2.2.2.2 (by decide) ?_
              refine tr_icmp_ne (tgt := 67) hx hb gX7_tallyRow_4.1 (by decide) (Eq.refl _) tk_m1 (fun c61 => ?_) (fun c61 => ?_)
              · refine lv_aload_n hx hb gX7_tallyRow_4.2.2.1 rfl (lv_at hl 1 rfl) ?_
                refine lv_aload_n hx hb gX7_tallyRow_4.2.2.2.1 rfl (lv_at hl 1 rfl) ?_
                refine lv_lload_n hx hb gX7_tallyRow_4.2.2.2.2.1 rfl (lv_at hl 2 rfl) ?_
                refine lv_iload hx hb gX7_tallyRow_4.2.2.2.2.2.1 (lv_at hl 6 rfl) ?_
                refine lv_iload hx hb gX7_tallyRow_4.2.2.2.2.2.2.1 (lv_at hl 0 rfl) ?_
                refine th_call (th_runV (As := [.long p1, .int j21_8, .int x1]) (rest := [.ref a0]) hC mf_X7_keyWith km_X7_152 im_X7_keyWith se_X7_keyWith (c_X7_keyWith l G Γ H57 hB.1 hU a0 h0 p1 j21_8 (by omega) (by omega) x1 (by omega) (by omega) ⟨_, mm12, hbn8⟩) rfl rfl ⟨by dsimp only; omega, by dsimp only; omega⟩ hB.1 h0 ro_27 rfl rfl hl.1 rfl (Nat.le_of_ble_eq_true rfl) gX7_tallyRow_4.2.2.2.2.2.2.2 ⟨Nat.le_refl _, Nat.le_refl _⟩) hB.2.1 (fun v74 H74 locs hp hz hS => ?_)
                obtain ⟨y15, rfl, q74_0, rfl⟩ := hp
                have hB := th_B_s hB hS
                refine W.eq (g2 := F0 m 77 ls [.long y15, .ref a0]) rfl ?_
                refine lv_iload_n hx hb gX7_tallyRow_5.1 rfl (lv_at hl 3 rfl) ?_
                refine lv_aload_n hx hb gX7_tallyRow_5.2.1 rfl (lv_at hl 1 rfl) ?_
                refine th_getK hC cf_X7 hB.1 h0 ro_27 rfl (j := 8) (by decide) mm12 kf_X7_38 gX7_tallyRow_5.2.2.1 ?_
                refine th_getO (j := 0) (r2 := 4) hC cf_X1 hB.1 hbn8 ro_3 rfl rfl kf_X7_87 gX7_tallyRow_5.2.2.2.1 (fun b16 mb16 hb16 => ?_)
                have sb16 := (th_F_o hB.2.2 hbn8 ro_3 (j := 0) (by decide) (by decide)).symm.trans mb16
                refine lv_iload hx hb gX7_tallyRow_5.2.2.2.2.1 (lv_at hl 6 rfl) ?_
                refine th_ialdF hC hB.1 hb16 ro_4 rfl (Eq.refl _) (by omega) (by omega) rfl gX7_tallyRow_5.2.2.2.2.2.1 (fun x17 mx17 lx17 ux17 => ?_)
                refine lv_aload_n hx hb gX7_tallyRow_5.2.2.2.2.2.2.1 rfl (lv_at hl 1 rfl) ?_
                refine th_getK hC cf_X7 hB.1 h0 ro_27 rfl (j := 8) (by decide) mm12 kf_X7_38 gX7_tallyRow_5.2.2.2.2.2.2.2 ?_
                refine th_getK hC cf_X1 hB.1 hbn8 ro_3 rfl (j := 0) (by decide) mb16 kf_X7_87 gX7_tallyRow_6.1 ?_
                refine lv_iload hx hb gX7_tallyRow_6.2.1 (lv_at hl 6 rfl) ?_
                refine th_ialdF hC hB.1 hb16 ro_4 rfl (Eq.refl _) (by omega) (by omega) rfl gX7_tallyRow_6.2.2.1 (fun x18 mx18 lx18 ux18 => ?_)
                have qx18 : x18.toInt = x17.toInt := by rw [show x18 = x17 from Value.int.inj (mx18.symm.trans mx17)]
                have q20 := ti_mulr (a := x17.toInt) (b := x18.toInt) (A := 12) (B := 12) (by omega) (by omega) (by omega) (by omega)
                generalize hex19 : x17.toInt * x18.toInt = wx19 at q20
                refine tr_imul hx hb gX7_tallyRow_6.2.2.2.1 (Eq.refl _) (Eq.refl _) (by rw [hex19]; omega) (by rw [hex19]; omega) (fun x19 ex19 => ?_)
                rw [hex19] at ex19
                refine lv_isub hx hb gX7_tallyRow_6.2.2.2.2.1 ?_
                refine lv_topi (fun x21 ex21 => ?_)
                have lx21 := ti_lo x21; have ux21 := ti_hi x21
                refine lv_iload hx hb gX7_tallyRow_6.2.2.2.2.2.1 (lv_at hl 0 rfl) ?_
                refine lv_iload hx hb gX7_tallyRow_6.2.2.2.2.2.2.1 (lv_at hl 4 rfl) ?_
                refine lv_iconst (v := 1) hx hb gX7_tallyRow_6.2.2.2.2.2.2.2 (by decide) ?_
                refine tr_iadd hx hb gX7_tallyRow_7.1 (Eq.refl _) tk_1 (by omega) (by omega) (fun x22 ex22 => ?_)
                obtain ⟨d', hd'⟩ : ∃ d', d = d' + 1 := ⟨d - 1, by omega⟩
                refine th_call (th_runV (As := [.long y15, .int x21, .int x1, .int x22]) (rest := []) hC mf_X7_tallyRow km_X7_199 im_X7_tallyRow se_X7_tallyRow (ihd d' hd' l G Γ H57 hB.1 hR hU a0 h0 y15 x21 x1 (by omega) (by omega) x22 (by omega) (by omega) ⟨_, mm11, hbn7⟩ ⟨_, mm12, hbn8⟩ (by omega)) rfl rfl ⟨by dsimp only; omega, by dsimp only; omega⟩ hB.1 h0 ro_27 rfl rfl hl.1 rfl (Nat.le_of_ble_eq_true rfl) gX7_tallyRow_7.2.1 ⟨Nat.le_refl _, Nat.le_refl _⟩) hB.2.1 (fun v106 H106 locs hp hz hS => ?_)
                obtain ⟨x23, rfl, hI1, hf, hR⟩ := hp
                have hB := th_B_c hB hI1 hS hf (by decide)
                have mm24 := (th_F_o hf h0 ro_27 (j := 7) (by decide) (by decide)).trans mm11
                have mm25 := (th_F_o hf h0 ro_27 (j := 8) (by decide) (by decide)).trans mm12
                have mm26 := (th_F_o hf hbn8 ro_3 (j := 7) (by decide) (by decide)).trans mm13
                have mm27 := (th_F_o hf hbn8 ro_3 (j := 0) (by decide) (by decide)).trans mb16
                have mc28 := th_fit_F mc14 h0 hf (by decide)
                refine W.eq (g2 := F0 m 109 ls [.int x23]) rfl ?_
                refine lv_istore (lv' := [(9, .int x23), (6, .int x1), (0, .ref a0), (1, .long p1), (3, .int p2), (5, .int p4), (7, .int j21_7), (8, .int j21_8)]) hx hb gX7_tallyRow_7.2.2.1 hl (by decide) rfl (fun ls hl => ?_)
                refine lv_aload_n hx hb gX7_tallyRow_7.2.2.2.1 rfl (lv_at hl 2 rfl) ?_
                refine lv_iload hx hb gX7_tallyRow_7.2.2.2.2.1 (lv_at hl 7 rfl) ?_
                refine lv_iload hx hb gX7_tallyRow_7.2.2.2.2.2.1 (lv_at hl 1 rfl) ?_
                refine lv_iload hx hb gX7_tallyRow_7.2.2.2.2.2.2.1 (lv_at hl 0 rfl) ?_
                refine th_call (th_runV (As := [.int j21_8, .int x1, .int x23]) (rest := []) hC mf_X7_addToTally km_X7_222 im_X7_addToTally se_X7_addToTally (c_X7_addToTally l G Γ H106 hB.1 hR hU a0 h0 j21_8 (by omega) (by omega) x1 (by omega) (by omega) x23 ⟨_, mm25, hbn8⟩ mc28) rfl rfl ⟨by dsimp only; omega, by dsimp only; omega⟩ hB.1 h0 ro_27 rfl rfl hl.1 rfl (Nat.le_of_ble_eq_true rfl) gX7_tallyRow_7.2.2.2.2.2.2.2 ⟨Nat.le_refl _, Nat.le_refl _⟩) hB.2.1 (fun v118 H118 locs hp hz hS => ?_)
                obtain ⟨rfl, hI1, hf, hR, z118_0⟩ := hp
                have hB := th_B_c hB hI1 hS hf (by decide)
                have mm29 := (th_F_o hf h0 ro_27 (j := 7) (by decide) (by decide)).trans mm24
                have mm30 := (th_F_o hf h0 ro_27 (j := 8) (by decide) (by decide)).trans mm25
                have mm31 := (th_F_o hf hbn8 ro_3 (j := 7) (by decide) (by decide)).trans mm26
                have mm32 := (th_F_o hf hbn8 ro_3 (j := 0) (by decide) (by decide)).trans mm27
                have mc33 := th_fit_F mc28 h0 hf (by decide)
                refine W.eq (g2 := F0 m 121 ls []) rfl ?_
                refine lv_iload hx hb gX7_tallyRow_8.1 (lv_at hl 6 rfl) ?_
                refine lv_iload hx hb gX7_tallyRow_8.2.1 (lv_at hl 0 rfl) ?_
                refine lv_iadd hx hb gX7_tallyRow_8.2.2.1 ?_
                refine lv_topi (fun x34 ex34 => ?_)
                have lx34 := ti_lo x34; have ux34 := ti_hi x34
                refine lv_istore (lv' := [(7, .int x34), (9, .int x23), (6, .int x1), (0, .ref a0), (1, .long p1), (3, .int p2), (5, .int p4), (8, .int j21_8)]) hx hb gX7_tallyRow_8.2.2.2.1 hl (by decide) rfl (fun ls hl => ?_)
                exact jn128 H118 locs ls x34 hB hR (lv_sub hl [2, 3, 4, 5, 6, 7, 0] rfl)
              · refine lv_goto (tgt := 128) hx hb gX7_tallyRow_4.2.1 (by decide) ?_
                exact jn128 H57 locs ls j21_7 hB hR (lv_sub hl [0, 1, 2, 3, 4, 6, 5] rfl)
    exact lp21 ((2147483648 : Int) - (0)).toNat H0 locs ls 0 0 hB hR (lv_sub hl [2, 3, 4, 5, 7, 1, 0] rfl) (by decide) (by decide) (by have w0 := tk_0; omega)
  · refine lv_iconst (v := 1) hx hb gX7_tallyRow_0.2.2.1 (by decide) ?_
    exact th_iret hC hH hr hlocks rfl hB.2.1 ⟨_, rfl, hB.1, hB.2.2, hR⟩ gX7_tallyRow_0.2.2.2.1
theorem c_X7_tallyRow_d (d : Nat) : s_X7_tallyRow d := by
  induction d with
  | zero => exact c_X7_tallyRow_s 0 (fun d' h => absurd h (by omega))
  | succ d ih => exact c_X7_tallyRow_s (d + 1) (fun d' h => by cases h; exact ih)
theorem c_X7_tallyRow (l : Launch) (G : th_G) (Γ : th_Ga) (H0 : Heap) (hI : th_I G Γ H0) (hR : th_RC G Γ H0) (hU : dv_U Γ) (a0 : Nat) (h0 : Γ a0 = (27, 0)) (p1 : Int64) (p2 : Int32) (p3 : Int32) (f3 : 0 ≤ p3.toInt) (g3 : p3.toInt ≤ 144) (p4 : Int32) (f4 : 0 ≤ p4.toInt) (g4 : p4.toInt ≤ 9) (nn7 : ∃ b : Nat, th_sl H0 a0 (G.1.1.2 7 7) = .ref b ∧ Γ b = (11, 0)) (nn8 : ∃ b : Nat, th_sl H0 a0 (G.1.1.2 7 8) = .ref b ∧ Γ b = (3, 0)) : Met l yX7_tallyRow (.code yX7_tallyRow cX7_tallyRow 10 (some FieldType.int) :: th_tb) ({ frames := 14, cells := 0, slots := 0, locals := 391 } : Room) (th_P [.ref a0, .long p1, .int p2, .int p3, .int p4] G H0) (th_Q (fun (v : Option Value) (H1 : Heap) => ∃ r : Int32, v = some (.int r) ∧ th_I G Γ H1 ∧ th_F G Γ [(24, 0), (23, 3), (26, 0), (25, 0), (28, 0), (29, 0), (30, 0)] H0 H1 ∧ th_RC G Γ H1) G) 0 0 (fun q => G.1.2.2 ≤ q) := c_X7_tallyRow_d 9 l G Γ H0 hI hR hU a0 h0 p1 p2 p3 f3 g3 p4 f4 g4 nn7 nn8 (by omega)

set_option maxHeartbeats 4000000 in
set_option maxRecDepth 100000 in
theorem c_X7_tallyFills (l : Launch) (G : th_G) (Γ : th_Ga) (H0 : Heap) (hI : th_I G Γ H0) (hR : th_RC G Γ H0) (hU : dv_U Γ) (a0 : Nat) (h0 : Γ a0 = (27, 0)) (nn7 : ∃ b : Nat, th_sl H0 a0 (G.1.1.2 7 7) = .ref b ∧ Γ b = (11, 0)) (nn8 : ∃ b : Nat, th_sl H0 a0 (G.1.1.2 7 8) = .ref b ∧ Γ b = (3, 0)) : Met l yX7_tallyFills (.code yX7_tallyFills cX7_tallyFills 3 (none) :: th_tb) ({ frames := 15, cells := 0, slots := 0, locals := 420 } : Room) (th_P [.ref a0] G H0) (th_Q (fun (v : Option Value) (H1 : Heap) => v = none ∧ th_I G Γ H1 ∧ th_F G Γ [(24, 0), (23, 3), (26, 0), (25, 0), (28, 0), (29, 0), (30, 0)] H0 H1 ∧ th_RC G Γ H1) G) 0 0 (fun q => G.1.2.2 ≤ q) := by
  refine th_met RX7 (by decide) rfl (Nat.le_of_ble_eq_true rfl) ?_
  intro p e s m below meth c hC hH hr hlocks hnm ls hl
  have hx := hC.1
  have hb := hC.2.1
  have hB : th_B G Γ Γ [(24, 0), (23, 3), (26, 0), (25, 0), (28, 0), (29, 0), (30, 0)] H0 H0 [] := ⟨hI, va_S.rf, th_F_rf⟩
  have hl : lv_has ls 3 [(0, .ref a0)] := hl
  obtain ⟨bn7, mbn7, hbn7⟩ := nn7
  obtain ⟨bn8, mbn8, hbn8⟩ := nn8
  refine lv_aload_n hx hb gX7_tallyFills_0.1 rfl (lv_at hl 0 rfl) ?_
  refine th_getO (j := 3) (r2 := 30) hC cf_X7 hB.1 h0 ro_27 rfl rfl kf_X7_25 gX7_tallyFills_0.2.1 (fun b1 mb1 hb1 => ?_)
  refine lv_iconst (v := 0) hx hb gX7_tallyFills_0.2.2.1 (by decide) ?_
  refine th_call (th_runS (As := [.ref b1, .int 0]) (rest := []) hC mf_J7_fill_53178 km_X7_190 st_J7_fill_53178 (c_J7_fill_53178_Stally l G Γ H0 hB.1 hR hU b1 a0 hb1 0) rfl rfl ⟨Nat.le_of_ble_eq_true rfl, Nat.le_of_ble_eq_true rfl⟩ rfl hl.1 rfl (Nat.le_of_ble_eq_true rfl) gX7_tallyFills_0.2.2.2.1 ⟨Nat.le_refl _, Nat.le_refl _⟩) hB.2.1 (fun v5 H5 locs hp hz hS => ?_)
  obtain ⟨rfl, hI1, hf, hR, z5_0⟩ := hp
  have hB := th_B_c hB hI1 hS hf (by decide)
  have mm2 := (th_F_o hf h0 ro_27 (j := 7) (by decide) (by decide)).trans mbn7
  have mm3 := (th_F_o hf h0 ro_27 (j := 8) (by decide) (by decide)).trans mbn8
  refine W.eq (g2 := F0 m 8 ls []) rfl ?_
  refine lv_aload_n hx hb gX7_tallyFills_0.2.2.2.2.1 rfl (lv_at hl 0 rfl) ?_
  refine th_getR (j := 0) (r2 := 12) hC cf_X7 hB.1 h0 ro_27 rfl rfl kf_X7_12 gX7_tallyFills_0.2.2.2.2.2.1 (fun b4 mb4 hb4 => ?_)
  have sb4 := (th_F_o hB.2.2 h0 ro_27 (j := 0) (by decide) (by decide)).symm.trans mb4
  refine th_getI (j := 6) hC cf_X3 hB.1 hb4 ro_12 rfl rfl kf_X7_196 gX7_tallyFills_0.2.2.2.2.2.2.1 (fun x5 mx5 lx5 ux5 => ?_)
  refine tr_if_eq (tgt := 31) hx hb gX7_tallyFills_0.2.2.2.2.2.2.2 (by decide) (Eq.refl _) (fun c15 => ?_) (fun c15 => ?_)
  · refine lv_aload_n hx hb gX7_tallyFills_2.2.1 rfl (lv_at hl 0 rfl) ?_
    refine th_getK hC cf_X7 hB.1 h0 ro_27 rfl (j := 0) (by decide) mb4 kf_X7_12 gX7_tallyFills_2.2.2.1 ?_
    refine lv_aload_n hx hb gX7_tallyFills_2.2.2.2.1 rfl (lv_at hl 0 rfl) ?_
    refine th_getK hC cf_X7 hB.1 h0 ro_27 rfl (j := 0) (by decide) mb4 kf_X7_12 gX7_tallyFills_2.2.2.2.2.1 ?_
    refine lv_lconst (v := 0) hx hb gX7_tallyFills_2.2.2.2.2.2.1 rfl ?_
    refine th_call (th_runV (As := [.long 0]) (rest := [.ref b4]) hC mf_X3_find km_X7_145 im_X3_find se_X3_find (c_X3_find l G Γ H5 hB.1 hR b4 hb4 0) rfl rfl ⟨Nat.le_of_ble_eq_true rfl, Nat.le_of_ble_eq_true rfl⟩ hB.1 hb4 ro_12 rfl rfl hl.1 rfl (Nat.le_of_ble_eq_true rfl) gX7_tallyFills_2.2.2.2.2.2.2.1 ⟨Nat.le_refl _, Nat.le_refl _⟩) hB.2.1 (fun v40 H40 locs hp hz hS => ?_)
    obtain ⟨x6, rfl, lx6, ux6, q40_0, rfl⟩ := hp
    have hB := th_B_s hB hS
    refine W.eq (g2 := F0 m 43 ls [.int x6, .ref b4]) rfl ?_
    refine lv_iconst (v := 1) hx hb gX7_tallyFills_2.2.2.2.2.2.2.2 (by decide) ?_
    refine th_call (th_runV (As := [.int x6, .int 1]) (rest := []) hC mf_X3_addFlow km_X7_202 im_X3_addFlow se_X3_addFlow (c_X3_addFlow l G Γ H5 hB.1 hR b4 hb4 x6 1) rfl rfl ⟨Nat.le_of_ble_eq_true rfl, Nat.le_of_ble_eq_true rfl⟩ hB.1 hb4 ro_12 rfl rfl hl.1 rfl (Nat.le_of_ble_eq_true rfl) gX7_tallyFills_3.1 ⟨Nat.le_refl _, Nat.le_refl _⟩) hB.2.1 (fun v44 H44 locs hp hz hS => ?_)
    obtain ⟨rfl, hI1, hf, hR⟩ := hp
    have hB := th_B_c hB hI1 hS hf (by decide)
    have mm7 := (th_F_o hf h0 ro_27 (j := 7) (by decide) (by decide)).trans mm2
    have mm8 := (th_F_o hf h0 ro_27 (j := 8) (by decide) (by decide)).trans mm3
    have mm9 := (th_F_o hf h0 ro_27 (j := 0) (by decide) (by decide)).trans mb4
    refine W.eq (g2 := F0 m 47 ls []) rfl ?_
    refine lv_aload_n hx hb gX7_tallyFills_3.2.1 rfl (lv_at hl 0 rfl) ?_
    refine th_getK hC cf_X7 hB.1 h0 ro_27 rfl (j := 0) (by decide) mm9 kf_X7_12 gX7_tallyFills_3.2.2.1 ?_
    refine th_getI (j := 5) hC cf_X3 hB.1 hb4 ro_12 rfl rfl kf_X7_206 gX7_tallyFills_3.2.2.2.1 (fun x10 mx10 lx10 ux10 => ?_)
    refine lv_iconst (v := 1) hx hb gX7_tallyFills_3.2.2.2.2.1 (by decide) ?_
    refine tr_isub hx hb gX7_tallyFills_3.2.2.2.2.2.1 (Eq.refl _) tk_1 (by omega) (by omega) (fun x11 ex11 => ?_)
    refine lv_istore_n (lv' := [(1, .int x11), (0, .ref a0)]) hx hb gX7_tallyFills_3.2.2.2.2.2.2.1 rfl hl (by decide) rfl (fun ls hl => ?_)
    have lp57 : ∀ (n57 : Nat) (H57 : Heap) (locs : List Loc) (ls : Array Slot) (j57_1 : Int32), th_B G Γ Γ [(24, 0), (23, 3), (26, 0), (25, 0), (28, 0), (29, 0), (30, 0)] H0 H57 locs → th_RC G Γ H57 → lv_has ls 3 [(0, .ref a0), (1, .int j57_1)] → (-1) ≤ j57_1.toInt → j57_1.toInt ≤ 8191 → j57_1.toInt + (2147483649 : Int) ≤ (n57 : Int) → W p l e ({ frames := 15, cells := 0, slots := 0, locals := 420 } : Room) s m ([.ref a0] : List Value).toArray below meth c H57 locs 0 0 (MQ below (th_Q (fun (v : Option Value) (H1 : Heap) => v = none ∧ th_I G Γ H1 ∧ th_F G Γ [(24, 0), (23, 3), (26, 0), (25, 0), (28, 0), (29, 0), (30, 0)] H0 H1 ∧ th_RC G Γ H1) G) ([.ref a0] : List Value).toArray s 0 0 (fun q => G.1.2.2 ≤ q)) (F0 m 57 ls []) := by
      intro n57
      induction n57 with
      | zero => intro H57 locs ls j57_1 hB hR hl g57_0 g57_1 hm57; exact absurd hm57 (by have := ti_lo j57_1; omega)
      | succ n57 ih57 =>
        intro H57 locs ls j57_1 hB hR hl g57_0 g57_1 hm57
        have lj57_1 := ti_lo j57_1; have uj57_1 := ti_hi j57_1
        have mm12 := (th_F_o hB.2.2 h0 ro_27 (j := 7) (by decide) (by decide)).trans mbn7
        have mm13 := (th_F_o hB.2.2 h0 ro_27 (j := 8) (by decide) (by decide)).trans mbn8
        have mm14 := (th_F_o hB.2.2 h0 ro_27 (j := 0) (by decide) (by decide)).trans sb4
        have hm57 : j57_1.toInt + (2147483649 : Int) ≤ (n57 : Int) + 1 := by omega
        refine lv_iload_n hx hb gX7_tallyFills_3.2.2.2.2.2.2.2 rfl (lv_at hl 1 rfl) ?_
        refine tr_if_lt (tgt := 118) hx hb gX7_tallyFills_4.1 (by decide) (Eq.refl _) (fun c58 => ?_) (fun c58 => ?_)
        · exact th_vret hC hH hr hlocks hB.2.1 ⟨rfl, hB.1, hB.2.2, hR⟩ gX7_tallyFills_7.2.2.2.2
        · refine lv_aload_n hx hb gX7_tallyFills_4.2.1 rfl (lv_at hl 0 rfl) ?_
          refine th_getK hC cf_X7 hB.1 h0 ro_27 rfl (j := 0) (by decide) mm14 kf_X7_12 gX7_tallyFills_4.2.2.1 ?_
          refine lv_iload_n hx hb gX7_tallyFills_4.2.2.2.1 rfl (lv_at hl 1 rfl) ?_
          refine th_call (th_runV (As := [.int j57_1]) (rest := []) hC mf_X3_slotOfNth km_X7_209 im_X3_slotOfNth se_X3_slotOfNth (c_X3_slotOfNth l G Γ H57 hB.1 hR b4 hb4 j57_1) rfl rfl ⟨Nat.le_of_ble_eq_true rfl, Nat.le_of_ble_eq_true rfl⟩ hB.1 hb4 ro_12 rfl rfl hl.1 rfl (Nat.le_of_ble_eq_true rfl) gX7_tallyFills_4.2.2.2.2.1 ⟨Nat.le_refl _, Nat.le_refl _⟩) hB.2.1 (fun v66 H66 locs hp hz hS => ?_)
          obtain ⟨x15, rfl, rfl⟩ := hp
          have hB := th_B_s hB hS
          refine W.eq (g2 := F0 m 69 ls [.int x15]) rfl ?_
          refine lv_istore_n (lv' := [(2, .int x15), (0, .ref a0), (1, .int j57_1)]) hx hb gX7_tallyFills_4.2.2.2.2.2.1 rfl hl (by decide) rfl (fun ls hl => ?_)
          refine lv_aload_n hx hb gX7_tallyFills_4.2.2.2.2.2.2.1 rfl (lv_at hl 1 rfl) ?_
          refine th_getK hC cf_X7 hB.1 h0 ro_27 rfl (j := 0) (by decide) mm14 kf_X7_12 gX7_tallyFills_4.2.2.2.2.2.2.2 ?_
          refine lv_iload_n hx hb gX7_tallyFills_5.1 rfl (lv_at hl 0 rfl) ?_
          refine th_call (th_runV (As := [.int x15]) (rest := []) hC mf_X3_flowIn km_X7_212 im_X3_flowIn se_X3_flowIn (c_X3_flowIn l G Γ H57 hB.1 hR b4 hb4 x15) rfl rfl ⟨Nat.le_of_ble_eq_true rfl, Nat.le_of_ble_eq_true rfl⟩ hB.1 hb4 ro_12 rfl rfl hl.1 rfl (Nat.le_of_ble_eq_true rfl) gX7_tallyFills_5.2.1 ⟨Nat.le_refl _, Nat.le_refl _⟩) hB.2.1 (fun v75 H75 locs hp hz hS => ?_)
          obtain ⟨x16, rfl, rfl⟩ := hp
          have hB := th_B_s hB hS
          refine W.eq (g2 := F0 m 78 ls [.int x16]) rfl ?_
          have jn112 : ∀ (H112 : Heap) (locs : List Loc) (ls : Array Slot) , th_B G Γ Γ [(24, 0), (23, 3), (26, 0), (25, 0), (28, 0), (29, 0), (30, 0)] H0 H112 locs → th_RC G Γ H112 → lv_has ls 3 [(0, .ref a0), (1, .int j57_1)] → W p l e ({ frames := 15, cells := 0, slots := 0, locals := 420 } : Room) s m ([.ref a0] : List Value).toArray below meth c H112 locs 0 0 (MQ below (th_Q (fun (v : Option Value) (H1 : Heap) => v = none ∧ th_I G Γ H1 ∧ th_F G Γ [(24, 0), (23, 3), (26, 0), (25, 0), (28, 0), (29, 0), (30, 0)] H0 H1 ∧ th_RC G Γ H1) G) ([.ref a0] : List Value).toArray s 0 0 (fun q => G.1.2.2 ≤ q)) (F0 m 112 ls []) := by
            intro H112 locs ls hB hR hl
            have mm17 := (th_F_o hB.2.2 h0 ro_27 (j := 7) (by decide) (by decide)).trans mbn7
            have mm18 := (th_F_o hB.2.2 h0 ro_27 (j := 8) (by decide) (by decide)).trans mbn8
            have mm19 := (th_F_o hB.2.2 h0 ro_27 (j := 0) (by decide) (by decide)).trans sb4
            refine tr_iinc (fun x20 => [(1, .int x20), (0, .ref a0)]) hx hb gX7_tallyFills_7.2.2.1 hl (k := 1) rfl (Eq.refl _) tk_m1 (by omega) (by omega) (by decide) (fun _ => rfl) (fun x20 ls ex20 hl => ?_)
            refine lv_goto (tgt := 57) hx hb gX7_tallyFills_7.2.2.2.1 (by decide) ?_
            exact ih57 H112 locs ls x20 hB hR (lv_sub hl [1, 0] rfl) (by omega) (by omega) (by omega)
          refine tr_if_le (tgt := 112) hx hb gX7_tallyFills_5.2.2.1 (by decide) (Eq.refl _) (fun c78 => ?_) (fun c78 => ?_)
          · exact jn112 H57 locs ls hB hR (lv_sub hl [1, 2] rfl)
          · refine lv_aload_n hx hb gX7_tallyFills_5.2.2.2.1 rfl (lv_at hl 1 rfl) ?_
            refine th_getK hC cf_X7 hB.1 h0 ro_27 rfl (j := 0) (by decide) mm14 kf_X7_12 gX7_tallyFills_5.2.2.2.2.1 ?_
            refine lv_iload_n hx hb gX7_tallyFills_5.2.2.2.2.2.1 rfl (lv_at hl 0 rfl) ?_
            refine th_call (th_runV (As := [.int x15]) (rest := []) hC mf_X3_valueIn km_X7_149 im_X3_valueIn se_X3_valueIn (c_X3_valueIn l G Γ H57 hB.1 hR b4 hb4 x15) rfl rfl ⟨Nat.le_of_ble_eq_true rfl, Nat.le_of_ble_eq_true rfl⟩ hB.1 hb4 ro_12 rfl rfl hl.1 rfl (Nat.le_of_ble_eq_true rfl) gX7_tallyFills_5.2.2.2.2.2.2.1 ⟨Nat.le_refl _, Nat.le_refl _⟩) hB.2.1 (fun v86 H86 locs hp hz hS => ?_)
            obtain ⟨x21, rfl, q86_0, rfl⟩ := hp
            have hB := th_B_s hB hS
            refine W.eq (g2 := F0 m 89 ls [.int x21]) rfl ?_
            refine tr_if_le (tgt := 112) hx hb gX7_tallyFills_5.2.2.2.2.2.2.2 (by decide) (Eq.refl _) (fun c89 => ?_) (fun c89 => ?_)
            · exact jn112 H57 locs ls hB hR (lv_sub hl [1, 2] rfl)
            · refine lv_aload_n hx hb gX7_tallyFills_6.1 rfl (lv_at hl 1 rfl) ?_
              refine lv_aload_n hx hb gX7_tallyFills_6.2.1 rfl (lv_at hl 1 rfl) ?_
              refine th_getK hC cf_X7 hB.1 h0 ro_27 rfl (j := 0) (by decide) mm14 kf_X7_12 gX7_tallyFills_6.2.2.1 ?_
              refine lv_iload_n hx hb gX7_tallyFills_6.2.2.2.1 rfl (lv_at hl 0 rfl) ?_
              refine th_call (th_runV (As := [.int x15]) (rest := [.ref a0]) hC mf_X3_keyIn km_X7_215 im_X3_keyIn se_X3_keyIn (c_X3_keyIn l G Γ H57 hB.1 hR b4 hb4 x15) rfl rfl ⟨Nat.le_of_ble_eq_true rfl, Nat.le_of_ble_eq_true rfl⟩ hB.1 hb4 ro_12 rfl rfl hl.1 rfl (Nat.le_of_ble_eq_true rfl) gX7_tallyFills_6.2.2.2.2.1 ⟨Nat.le_refl _, Nat.le_refl _⟩) hB.2.1 (fun v98 H98 locs hp hz hS => ?_)
              obtain ⟨y22, rfl, rfl⟩ := hp
              have hB := th_B_s hB hS
              refine W.eq (g2 := F0 m 101 ls [.long y22, .ref a0]) rfl ?_
              refine lv_aload_n hx hb gX7_tallyFills_6.2.2.2.2.2.1 rfl (lv_at hl 1 rfl) ?_
              refine th_getK hC cf_X7 hB.1 h0 ro_27 rfl (j := 0) (by decide) mm14 kf_X7_12 gX7_tallyFills_6.2.2.2.2.2.2.1 ?_
              refine lv_iload_n hx hb gX7_tallyFills_6.2.2.2.2.2.2.2 rfl (lv_at hl 0 rfl) ?_
              refine th_call (th_runV (As := [.int x15]) (rest := [.long y22, .ref a0]) hC mf_X3_flowIn km_X7_212 im_X3_flowIn se_X3_flowIn (c_X3_flowIn l G Γ H57 hB.1 hR b4 hb4 x15) rfl rfl ⟨Nat.le_of_ble_eq_true rfl, Nat.le_of_ble_eq_true rfl⟩ hB.1 hb4 ro_12 rfl rfl hl.1 rfl (Nat.le_of_ble_eq_true rfl) gX7_tallyFills_7.1 ⟨Nat.le_refl _, Nat.le_refl _⟩) hB.2.1 (fun v106 H106 locs hp hz hS => ?_)
              obtain ⟨x23, rfl, rfl⟩ := hp
              have hB := th_B_s hB hS
              refine W.eq (g2 := F0 m 109 ls [.int x23, .long y22, .ref a0]) rfl ?_
              refine th_call (th_runV (As := [.long y22, .int x23]) (rest := []) hC mf_X7_tallyKey km_X7_219 im_X7_tallyKey se_X7_tallyKey (c_X7_tallyKey l G Γ H57 hB.1 hR hU a0 h0 y22 x23 ⟨_, mm12, hbn7⟩ ⟨_, mm13, hbn8⟩) rfl rfl ⟨Nat.le_of_ble_eq_true rfl, Nat.le_of_ble_eq_true rfl⟩ hB.1 h0 ro_27 rfl rfl hl.1 rfl (Nat.le_of_ble_eq_true rfl) gX7_tallyFills_7.2.1 ⟨Nat.le_refl _, Nat.le_refl _⟩) hB.2.1 (fun v109 H109 locs hp hz hS => ?_)
              obtain ⟨rfl, hI1, hf, hR⟩ := hp
              have hB := th_B_c hB hI1 hS hf (by decide)
              have mm24 := (th_F_o hf h0 ro_27 (j := 7) (by decide) (by decide)).trans mm12
              have mm25 := (th_F_o hf h0 ro_27 (j := 8) (by decide) (by decide)).trans mm13
              have mm26 := (th_F_o hf h0 ro_27 (j := 0) (by decide) (by decide)).trans mm14
              refine W.eq (g2 := F0 m 112 ls []) rfl ?_
              exact jn112 H109 locs ls hB hR (lv_sub hl [1, 2] rfl)
    exact lp57 ((x11.toInt) + (2147483649 : Int)).toNat H44 locs ls x11 hB hR (lv_sub hl [1, 0] rfl) (by omega) (by omega) (by omega)
  · refine lv_aload_n hx hb gX7_tallyFills_1.1 rfl (lv_at hl 0 rfl) ?_
    refine lv_lconst (v := 0) hx hb gX7_tallyFills_1.2.1 rfl ?_
    refine lv_aload_n hx hb gX7_tallyFills_1.2.2.1 rfl (lv_at hl 0 rfl) ?_
    refine th_getI (j := 11) hC cf_X7 hB.1 h0 ro_27 rfl rfl kf_X7_63 gX7_tallyFills_1.2.2.2.1 (fun x27 mx27 lx27 ux27 => ?_)
    refine lv_iconst (v := 0) hx hb gX7_tallyFills_1.2.2.2.2.1 (by decide) ?_
    refine lv_iconst (v := 0) hx hb gX7_tallyFills_1.2.2.2.2.2.1 (by decide) ?_
    refine th_call (th_runV (As := [.long 0, .int x27, .int 0, .int 0]) (rest := []) hC mf_X7_tallyRow km_X7_199 im_X7_tallyRow se_X7_tallyRow (c_X7_tallyRow l G Γ H5 hB.1 hR hU a0 h0 0 x27 0 (by decide) (by decide) 0 (by decide) (by decide) ⟨_, mm2, hbn7⟩ ⟨_, mm3, hbn8⟩) rfl rfl ⟨Nat.le_of_ble_eq_true rfl, Nat.le_of_ble_eq_true rfl⟩ hB.1 h0 ro_27 rfl rfl hl.1 rfl (Nat.le_of_ble_eq_true rfl) gX7_tallyFills_1.2.2.2.2.2.2.1 ⟨Nat.le_refl _, Nat.le_refl _⟩) hB.2.1 (fun v26 H26 locs hp hz hS => ?_)
    obtain ⟨x28, rfl, hI1, hf, hR⟩ := hp
    have hB := th_B_c hB hI1 hS hf (by decide)
    have mm29 := (th_F_o hf h0 ro_27 (j := 7) (by decide) (by decide)).trans mm2
    have mm30 := (th_F_o hf h0 ro_27 (j := 8) (by decide) (by decide)).trans mm3
    have mm31 := (th_F_o hf h0 ro_27 (j := 0) (by decide) (by decide)).trans mb4
    refine W.eq (g2 := F0 m 29 ls [.int x28]) rfl ?_
    refine lv_pop hx hb gX7_tallyFills_1.2.2.2.2.2.2.2 rfl ?_
    exact th_vret hC hH hr hlocks hB.2.1 ⟨rfl, hB.1, hB.2.2, hR⟩ gX7_tallyFills_2.1
end
section
theorem c_X3_keep (l : Launch) (G : th_G) (Γ : th_Ga) (H0 : Heap) (hI : th_I G Γ H0) (hR : th_RC G Γ H0) (a0 : Nat) (h0 : Γ a0 = (12, 0)) (p1 : Int64) (p2 : Int32) (hP9 : p1 ≠ -1 → th_pm G p1.toInt p2.toInt) (u0 : Nat) (hu0 : th_bits G Γ H0 u0) : Met l yX3_keep (.code yX3_keep cX3_keep 4 (none) :: th_tb) ({ frames := 3, cells := th_pc u0, slots := th_pq u0, locals := 73 } : Room) (th_P [.ref a0, .long p1, .int p2] G H0) (th_Q (fun (v : Option Value) (H1 : Heap) => v = none ∧ th_I G Γ H1 ∧ th_F G Γ [(12, 0), (12, 1), (12, 2), (12, 3), (12, 4), (12, 5), (12, 6)] H0 H1 ∧ th_RC G Γ H1 ∧ th_bp G Γ H0 H1 u0) G) (th_pc u0) (th_pq u0) (fun q => G.1.2.2 ≤ q) := by
  obtain ⟨b1, b2, b3, b4, hme⟩ := th_bits_RC hR hu0 h0
  rcases hme.1.1 with rfl | rfl | rfl
  · exact c_X3_keep_10 l G Γ H0 hI hR a0 h0 p1 p2 hP9 b1 b2 b3 b4 hme
  · exact c_X3_keep_12 l G Γ H0 hI hR a0 h0 p1 p2 hP9 b1 b2 b3 b4 hme
  · exact c_X3_keep_14 l G Γ H0 hI hR a0 h0 p1 p2 hP9 b1 b2 b3 b4 hme
end
section
def s_X7_solve (d : Nat) : Prop := ∀ (l : Launch) (G : th_G) (Γ : th_Ga) (H0 : Heap) (hI : th_I G Γ H0) (hR : th_RC G Γ H0) (hU : dv_U Γ) (a0 : Nat) (h0 : Γ a0 = (27, 0)) (p1 : Int64) (p2 : Int32) (p3 : Int32) (f3 : 0 ≤ p3.toInt) (g3 : p3.toInt ≤ 144) (p4 : Int32) (f4 : 0 ≤ p4.toInt) (g4 : p4.toInt ≤ 9) (nn7 : ∃ b : Nat, th_sl H0 a0 (G.1.1.2 7 7) = .ref b ∧ Γ b = (11, 0)) (nn8 : ∃ b : Nat, th_sl H0 a0 (G.1.1.2 7 8) = .ref b ∧ Γ b = (3, 0)) (hP8 : ∀ x y : Int, th_pm G x y) (u0 : Nat) (hu0 : th_bits G Γ H0 u0) (hdm : 9 ≤ p4.toInt + (d : Int)), Met l yX7_solve (.code yX7_solve cX7_solve 11 (some FieldType.int) :: th_tb) ({ frames := 5 + d, cells := (th_pc u0), slots := (th_pq u0), locals := 130 + d * 30 } : Room) (th_P [.ref a0, .long p1, .int p2, .int p3, .int p4] G H0) (th_Q (fun (v : Option Value) (H1 : Heap) => ∃ r : Int32, v = some (.int r) ∧ th_I G Γ H1 ∧ th_F G Γ [(24, 0), (23, 3), (26, 0), (25, 0), (28, 0), (29, 0), (12, 0), (12, 1), (12, 2), (12, 3), (12, 4), (12, 5), (12, 6), (31, 0), (27, 5)] H0 H1 ∧ th_RC G Γ H1 ∧ th_bp G Γ H0 H1 u0) G) (th_pc u0) (th_pq u0) (fun q => G.1.2.2 ≤ q)
set_option maxHeartbeats 4000000 in
set_option maxRecDepth 100000 in
theorem c_X7_solve_s (d : Nat) (ihd : ∀ d', d = d' + 1 → s_X7_solve d') : s_X7_solve d := by
  intro l G Γ H0 hI hR hU a0 h0 p1 p2 p3 f3 g3 p4 f4 g4 nn7 nn8 hP8 u0 hu0 hdm
  refine th_met RX7 (by decide) rfl (Nat.le_of_ble_eq_true rfl) ?_
  intro p e s m below meth c hC hH hr hlocks hnm ls hl
  have hx := hC.1
  have hb := hC.2.1
  have hB : th_B G Γ Γ [(24, 0), (23, 3), (26, 0), (25, 0), (28, 0), (29, 0), (12, 0), (12, 1), (12, 2), (12, 3), (12, 4), (12, 5), (12, 6), (31, 0), (27, 5)] H0 H0 [] := ⟨hI, va_S.rf, th_F_rf⟩
  have hl : lv_has ls 11 [(0, .ref a0), (1, .long p1), (3, .int p2), (4, .int p3), (5, .int p4)] := hl
  have lp2 := ti_lo p2; have up2 := ti_hi p2
  have lp3 := ti_lo p3; have up3 := ti_hi p3
  have lp4 := ti_lo p4; have up4 := ti_hi p4
  obtain ⟨bn7, mbn7, hbn7⟩ := nn7
  obtain ⟨bn8, mbn8, hbn8⟩ := nn8
  have ku0 : th_pc u0 ≤ th_pc u0 ∧ th_pq u0 ≤ th_pq u0 := ⟨Nat.le_refl _, Nat.le_refl _⟩
  refine W.widen (k := th_pc u0 - th_pc u0) (n := th_pq u0 - th_pq u0) (Nat.zero_le _) (Nat.zero_le _) ?_
  refine lv_iload_n hx hb gX7_solve_0.1 rfl (lv_at hl 2 rfl) ?_
  refine tr_if_ne (tgt := 23) hx hb gX7_solve_0.2.1 (by decide) (Eq.refl _) (fun c1 => ?_) (fun c1 => ?_)
  · refine lv_aload_n hx hb gX7_solve_1.2.2.2.2.1 rfl (lv_at hl 0 rfl) ?_
    refine th_getR (j := 0) (r2 := 12) hC cf_X7 hB.1 h0 ro_27 rfl rfl kf_X7_12 gX7_solve_1.2.2.2.2.2.1 (fun b1 mb1 hb1 => ?_)
    refine lv_lload_n hx hb gX7_solve_1.2.2.2.2.2.2.1 rfl (lv_at hl 1 rfl) ?_
    refine th_call (th_runV (As := [.long p1]) (rest := []) hC mf_X3_find km_X7_145 im_X3_find se_X3_find (c_X3_find l G Γ H0 hB.1 hR b1 hb1 p1) rfl rfl ⟨by dsimp only; omega, by dsimp only; omega⟩ hB.1 hb1 ro_12 rfl rfl hl.1 rfl (Nat.le_of_ble_eq_true rfl) gX7_solve_1.2.2.2.2.2.2.2 ⟨by dsimp only; omega, by dsimp only; omega⟩) hB.2.1 (fun v28 H28 locs hp hz hS => ?_)
    obtain ⟨x2, rfl, lx2, ux2, q28_0, rfl⟩ := hp
    have hB := th_B_s hB hS
    refine W.eq (g2 := F0 m 31 ls [.int x2]) rfl ?_
    refine lv_istore (lv' := [(6, .int x2), (0, .ref a0), (1, .long p1), (3, .int p2), (4, .int p3), (5, .int p4)]) hx hb gX7_solve_2.1 hl (by decide) rfl (fun ls hl => ?_)
    refine lv_iload hx hb gX7_solve_2.2.1 (lv_at hl 0 rfl) ?_
    refine lv_iconst (v := (-1)) hx hb gX7_solve_2.2.2.1 (by decide) ?_
    refine tr_icmp_eq (tgt := 49) hx hb gX7_solve_2.2.2.2.1 (by decide) (Eq.refl _) tk_m1 (fun c36 => ?_) (fun c36 => ?_)
    · refine lv_aload_n hx hb gX7_solve_3.2.1 rfl (lv_at hl 1 rfl) ?_
      refine lv_lload_n hx hb gX7_solve_3.2.2.1 rfl (lv_at hl 2 rfl) ?_
      refine lv_iload hx hb gX7_solve_3.2.2.2.1 (lv_at hl 4 rfl) ?_
      refine th_call (th_runV (As := [.long p1, .int p3]) (rest := []) hC mf_X7_firstBare km_X7_104 im_X7_firstBare se_X7_firstBare (c_X7_firstBare l G Γ H0 hB.1 hU a0 h0 p1 p3 (by omega) (by omega) ⟨_, mbn8, hbn8⟩) rfl rfl ⟨by dsimp only; omega, by dsimp only; omega⟩ hB.1 h0 ro_27 rfl rfl hl.1 rfl (Nat.le_of_ble_eq_true rfl) gX7_solve_3.2.2.2.2.1 ⟨by dsimp only; omega, by dsimp only; omega⟩) hB.2.1 (fun v53 H53 locs hp hz hS => ?_)
      obtain ⟨x3, rfl, lx3, ux3, q53_0, rfl⟩ := hp
      have hB := th_B_s hB hS
      refine W.eq (g2 := F0 m 56 ls [.int x3]) rfl ?_
      refine lv_istore (lv' := [(7, .int x3), (6, .int x2), (0, .ref a0), (1, .long p1), (3, .int p2), (4, .int p3), (5, .int p4)]) hx hb gX7_solve_3.2.2.2.2.2.1 hl (by decide) rfl (fun ls hl => ?_)
      refine lv_aload_n hx hb gX7_solve_3.2.2.2.2.2.2.1 rfl (lv_at hl 2 rfl) ?_
      refine th_getI (j := 12) hC cf_X7 hB.1 h0 ro_27 rfl rfl kf_X7_131 gX7_solve_3.2.2.2.2.2.2.2 (fun x4 mx4 lx4 ux4 => ?_)
      have jn70 : ∀ (locs : List Loc) (ls : Array Slot) (s70_0 : Int32), th_B G Γ Γ [(24, 0), (23, 3), (26, 0), (25, 0), (28, 0), (29, 0), (12, 0), (12, 1), (12, 2), (12, 3), (12, 4), (12, 5), (12, 6), (31, 0), (27, 5)] H0 H0 locs → lv_has ls 11 [(7, .int x3), (0, .ref a0), (1, .long p1), (3, .int p2), (5, .int p4)] → (-1) ≤ s70_0.toInt → s70_0.toInt ≤ 0 → W p l e ({ frames := 5 + d, cells := (th_pc u0), slots := (th_pq u0), locals := 130 + d * 30 } : Room) s m ([.ref a0, .long p1, .int p2, .int p3, .int p4] : List Value).toArray below meth c H0 locs (th_pc u0 - th_pc u0) (th_pq u0 - th_pq u0) (MQ below (th_Q (fun (v : Option Value) (H1 : Heap) => ∃ r : Int32, v = some (.int r) ∧ th_I G Γ H1 ∧ th_F G Γ [(24, 0), (23, 3), (26, 0), (25, 0), (28, 0), (29, 0), (12, 0), (12, 1), (12, 2), (12, 3), (12, 4), (12, 5), (12, 6), (31, 0), (27, 5)] H0 H1 ∧ th_RC G Γ H1 ∧ th_bp G Γ H0 H1 u0) G) ([.ref a0, .long p1, .int p2, .int p3, .int p4] : List Value).toArray s (th_pc u0) (th_pq u0) (fun q => G.1.2.2 ≤ q)) (F0 m 70 ls [.int s70_0]) := by
        intro locs ls s70_0 hB hl g70_0 g70_1
        have ls70_0 := ti_lo s70_0; have us70_0 := ti_hi s70_0
        refine lv_istore (lv' := [(8, .int s70_0), (7, .int x3), (0, .ref a0), (1, .long p1), (3, .int p2), (5, .int p4)]) hx hb gX7_solve_4.2.2.2.2.1 hl (by decide) rfl (fun ls hl => ?_)
        refine lv_iconst (v := 0) hx hb gX7_solve_4.2.2.2.2.2.1 (by decide) ?_
        refine lv_istore (lv' := [(9, .int 0), (8, .int s70_0), (7, .int x3), (0, .ref a0), (1, .long p1), (3, .int p2), (5, .int p4)]) hx hb gX7_solve_4.2.2.2.2.2.2.1 hl (by decide) rfl (fun ls hl => ?_)
        have lp75 : ∀ (n75 : Nat) (H75 : Heap) (u75 : Nat) (locs : List Loc) (ls : Array Slot) (j75_8 : Int32) (j75_9 : Int32), th_B G Γ Γ [(24, 0), (23, 3), (26, 0), (25, 0), (28, 0), (29, 0), (12, 0), (12, 1), (12, 2), (12, 3), (12, 4), (12, 5), (12, 6), (31, 0), (27, 5)] H0 H75 locs → th_RC G Γ H75 → lv_has ls 11 [(7, .int x3), (0, .ref a0), (1, .long p1), (3, .int p2), (5, .int p4), (8, .int j75_8), (9, .int j75_9)] → 0 ≤ j75_9.toInt → j75_9.toInt ≤ 9 → th_bits G Γ H75 u75 → (th_pc u75 ≤ th_pc u0 ∧ th_pq u75 ≤ th_pq u0) → (2147483648 : Int) - j75_9.toInt ≤ (n75 : Int) → W p l e ({ frames := 5 + d, cells := (th_pc u0), slots := (th_pq u0), locals := 130 + d * 30 } : Room) s m ([.ref a0, .long p1, .int p2, .int p3, .int p4] : List Value).toArray below meth c H75 locs (th_pc u0 - th_pc u75) (th_pq u0 - th_pq u75) (MQ below (th_Q (fun (v : Option Value) (H1 : Heap) => ∃ r : Int32, v = some (.int r) ∧ th_I G Γ H1 ∧ th_F G Γ [(24, 0), (23, 3), (26, 0), (25, 0), (28, 0), (29, 0), (12, 0), (12, 1), (12, 2), (12, 3), (12, 4), (12, 5), (12, 6), (31, 0), (27, 5)] H0 H1 ∧ th_RC G Γ H1 ∧ th_bp G Γ H0 H1 u0) G) ([.ref a0, .long p1, .int p2, .int p3, .int p4] : List Value).toArray s (th_pc u0) (th_pq u0) (fun q => G.1.2.2 ≤ q)) (F0 m 75 ls []) := by
          intro n75
          induction n75 with
          | zero => intro H75 u75 locs ls j75_8 j75_9 hB hR hl g75_0 g75_1 g75_2 g75_3 hm75; exact absurd hm75 (by have := ti_hi j75_9; omega)
          | succ n75 ih75 =>
            intro H75 u75 locs ls j75_8 j75_9 hB hR hl g75_0 g75_1 g75_2 g75_3 hm75
            have lj75_8 := ti_lo j75_8; have uj75_8 := ti_hi j75_8
            have lj75_9 := ti_lo j75_9; have uj75_9 := ti_hi j75_9
            have mm5 := (th_F_o hB.2.2 h0 ro_27 (j := 7) (by decide) (by decide)).trans mbn7
            have mm6 := (th_F_o hB.2.2 h0 ro_27 (j := 8) (by decide) (by decide)).trans mbn8
            have mm7 := (th_F_o hB.2.2 h0 ro_27 (j := 0) (by decide) (by decide)).trans mb1
            have mm8 := (th_F_o hB.2.2 h0 ro_27 (j := 12) (by decide) (by decide)).trans mx4
            have hm75 : (2147483648 : Int) - j75_9.toInt ≤ (n75 : Int) + 1 := by omega
            refine lv_iload hx hb gX7_solve_4.2.2.2.2.2.2.2 (lv_at hl 6 rfl) ?_
            refine lv_aload_n hx hb gX7_solve_5.1 rfl (lv_at hl 1 rfl) ?_
            refine th_getK hC cf_X7 hB.1 h0 ro_27 rfl (j := 8) (by decide) mm6 kf_X7_38 gX7_solve_5.2.1 ?_
            refine th_getI (j := 7) hC cf_X1 hB.1 hbn8 ro_3 rfl rfl kf_X7_123 gX7_solve_5.2.2.1 (fun x9 mx9 lx9 ux9 => ?_)
            have sx9 := (th_F_o hB.2.2 hbn8 ro_3 (j := 7) (by decide) (by decide)).symm.trans mx9
            have jn228 : ∀ (locs : List Loc) (ls : Array Slot) , th_B G Γ Γ [(24, 0), (23, 3), (26, 0), (25, 0), (28, 0), (29, 0), (12, 0), (12, 1), (12, 2), (12, 3), (12, 4), (12, 5), (12, 6), (31, 0), (27, 5)] H0 H75 locs → lv_has ls 11 [(0, .ref a0), (1, .long p1), (8, .int j75_8)] → W p l e ({ frames := 5 + d, cells := (th_pc u0), slots := (th_pq u0), locals := 130 + d * 30 } : Room) s m ([.ref a0, .long p1, .int p2, .int p3, .int p4] : List Value).toArray below meth c H75 locs (th_pc u0 - th_pc u75) (th_pq u0 - th_pq u75) (MQ below (th_Q (fun (v : Option Value) (H1 : Heap) => ∃ r : Int32, v = some (.int r) ∧ th_I G Γ H1 ∧ th_F G Γ [(24, 0), (23, 3), (26, 0), (25, 0), (28, 0), (29, 0), (12, 0), (12, 1), (12, 2), (12, 3), (12, 4), (12, 5), (12, 6), (31, 0), (27, 5)] H0 H1 ∧ th_RC G Γ H1 ∧ th_bp G Γ H0 H1 u0) G) ([.ref a0, .long p1, .int p2, .int p3, .int p4] : List Value).toArray s (th_pc u0) (th_pq u0) (fun q => G.1.2.2 ≤ q)) (F0 m 228 ls []) := by
              intro locs ls hB hl
              refine lv_aload_n hx hb gX7_solve_14.2.2.1 rfl (lv_at hl 0 rfl) ?_
              refine th_getK hC cf_X7 hB.1 h0 ro_27 rfl (j := 0) (by decide) mm7 kf_X7_12 gX7_solve_14.2.2.2.1 ?_
              refine lv_lload_n hx hb gX7_solve_14.2.2.2.2.1 rfl (lv_at hl 1 rfl) ?_
              refine lv_iload hx hb gX7_solve_14.2.2.2.2.2.1 (lv_at hl 2 rfl) ?_
              refine W.count (fun hc1 hc2 => ?_)
              refine th_call (th_runV (As := [.long p1, .int j75_8]) (rest := []) hC mf_X3_keep km_X7_160 im_X3_keep se_X3_keep (c_X3_keep l G Γ H75 hB.1 hR b1 hb1 p1 j75_8 (fun _ => hP8 _ _) u75 g75_2) rfl rfl ⟨by dsimp only; omega, by dsimp only; omega⟩ hB.1 hb1 ro_12 rfl rfl hl.1 rfl (Nat.le_of_ble_eq_true rfl) gX7_solve_14.2.2.2.2.2.2.1 ⟨by dsimp only; omega, by dsimp only; omega⟩) hB.2.1 (fun v235 H235 locs hp hz hS => ?_)
              obtain ⟨rfl, hI1, hf, hR, ⟨u235, hu235, ka235, kb235, kc235, kd235⟩⟩ := hp
              have hB := th_B_c hB hI1 hS hf (by decide)
              have mm10 := (th_F_o hf h0 ro_27 (j := 7) (by decide) (by decide)).trans mm5
              have mm11 := (th_F_o hf h0 ro_27 (j := 8) (by decide) (by decide)).trans mm6
              have mm12 := (th_F_o hf h0 ro_27 (j := 0) (by decide) (by decide)).trans mm7
              have mm13 := (th_F_o hf h0 ro_27 (j := 12) (by decide) (by decide)).trans mm8
              have mm14 := (th_F_o hf hbn8 ro_3 (j := 7) (by decide) (by decide)).trans mx9
              have ku235 : th_pc u235 ≤ th_pc u0 ∧ th_pq u235 ≤ th_pq u0 := by omega
              refine W.tight (k := th_pc u0 - th_pc u235) (n := th_pq u0 - th_pq u235) (by omega) (by omega) ?_
              refine W.eq (g2 := F0 m 238 ls []) rfl ?_
              refine lv_iload hx hb gX7_solve_14.2.2.2.2.2.2.2 (lv_at hl 2 rfl) ?_
              refine W.count (fun hc1 hc2 => ?_)
              rw [hH] at hc1 hc2
              refine W.widen (k := th_pc u0) (n := th_pq u0) (Nat.sub_le _ _) (Nat.sub_le _ _) ?_
              exact th_iret hC hH hr hlocks rfl hB.2.1 ⟨_, rfl, hB.1, hB.2.2, hR, ⟨u235, hu235, ku235.1, ku235.2, by omega, by omega⟩⟩ gX7_solve_15
            refine tr_icmp_ge (tgt := 228) hx hb gX7_solve_5.2.2.2.1 (by decide) (Eq.refl _) (Eq.refl _) (fun c84 => ?_) (fun c84 => ?_)
            · exact jn228 locs ls hB (lv_sub hl [1, 2, 5] rfl)
            · refine lv_iload hx hb gX7_solve_5.2.2.2.2.1 (lv_at hl 4 rfl) ?_
              refine lv_bipush (v := 9) hx hb gX7_solve_5.2.2.2.2.2.1 (by decide) ?_
              refine tr_icmp_ge (tgt := 228) hx hb gX7_solve_5.2.2.2.2.2.2.1 (by decide) (Eq.refl _) tk_9 (fun c91 => ?_) (fun c91 => ?_)
              · exact jn228 locs ls hB (lv_sub hl [1, 2, 5] rfl)
              · refine lv_aload_n hx hb gX7_solve_5.2.2.2.2.2.2.2 rfl (lv_at hl 1 rfl) ?_
                refine th_getK hC cf_X7 hB.1 h0 ro_27 rfl (j := 12) (by decide) mm8 kf_X7_131 gX7_solve_6.1 ?_
                have jn110 : ∀ (locs : List Loc) (ls : Array Slot) , th_B G Γ Γ [(24, 0), (23, 3), (26, 0), (25, 0), (28, 0), (29, 0), (12, 0), (12, 1), (12, 2), (12, 3), (12, 4), (12, 5), (12, 6), (31, 0), (27, 5)] H0 H75 locs → lv_has ls 11 [(7, .int x3), (0, .ref a0), (1, .long p1), (3, .int p2), (5, .int p4), (8, .int j75_8), (9, .int j75_9)] → W p l e ({ frames := 5 + d, cells := (th_pc u0), slots := (th_pq u0), locals := 130 + d * 30 } : Room) s m ([.ref a0, .long p1, .int p2, .int p3, .int p4] : List Value).toArray below meth c H75 locs (th_pc u0 - th_pc u75) (th_pq u0 - th_pq u75) (MQ below (th_Q (fun (v : Option Value) (H1 : Heap) => ∃ r : Int32, v = some (.int r) ∧ th_I G Γ H1 ∧ th_F G Γ [(24, 0), (23, 3), (26, 0), (25, 0), (28, 0), (29, 0), (12, 0), (12, 1), (12, 2), (12, 3), (12, 4), (12, 5), (12, 6), (31, 0), (27, 5)] H0 H1 ∧ th_RC G Γ H1 ∧ th_bp G Γ H0 H1 u0) G) ([.ref a0, .long p1, .int p2, .int p3, .int p4] : List Value).toArray s (th_pc u0) (th_pq u0) (fun q => G.1.2.2 ≤ q)) (F0 m 110 ls []) := by
                  intro locs ls hB hl
                  refine lv_aload_n hx hb gX7_solve_6.2.2.2.2.2.2.1 rfl (lv_at hl 1 rfl) ?_
                  refine lv_lload_n hx hb gX7_solve_6.2.2.2.2.2.2.2 rfl (lv_at hl 2 rfl) ?_
                  refine lv_iload hx hb gX7_solve_7.1 (lv_at hl 6 rfl) ?_
                  refine lv_iload hx hb gX7_solve_7.2.1 (lv_at hl 0 rfl) ?_
                  refine th_call (th_runV (As := [.long p1, .int j75_9, .int x3]) (rest := []) hC mf_X7_fits km_X7_108 im_X7_fits se_X7_fits (c_X7_fits l G Γ H75 hB.1 hU a0 h0 p1 j75_9 x3 (by omega) (by omega) ⟨_, mm6, hbn8⟩) rfl rfl ⟨by dsimp only; omega, by dsimp only; omega⟩ hB.1 h0 ro_27 rfl rfl hl.1 rfl (Nat.le_of_ble_eq_true rfl) gX7_solve_7.2.2.1 ⟨by dsimp only; omega, by dsimp only; omega⟩) hB.2.1 (fun v116 H116 locs hp hz hS => ?_)
                  obtain ⟨x15, rfl, lx15, ux15, q116_0, q116_1, q116_2, q116_3, rfl⟩ := hp
                  have hB := th_B_s hB hS
                  refine W.eq (g2 := F0 m 119 ls [.int x15]) rfl ?_
                  have jn222 : ∀ (H222 : Heap) (u222 : Nat) (locs : List Loc) (ls : Array Slot) (j222_8 : Int32), th_B G Γ Γ [(24, 0), (23, 3), (26, 0), (25, 0), (28, 0), (29, 0), (12, 0), (12, 1), (12, 2), (12, 3), (12, 4), (12, 5), (12, 6), (31, 0), (27, 5)] H0 H222 locs → th_RC G Γ H222 → lv_has ls 11 [(7, .int x3), (0, .ref a0), (1, .long p1), (3, .int p2), (5, .int p4), (9, .int j75_9), (8, .int j222_8)] → th_bits G Γ H222 u222 → (th_pc u222 ≤ th_pc u0 ∧ th_pq u222 ≤ th_pq u0) → W p l e ({ frames := 5 + d, cells := (th_pc u0), slots := (th_pq u0), locals := 130 + d * 30 } : Room) s m ([.ref a0, .long p1, .int p2, .int p3, .int p4] : List Value).toArray below meth c H222 locs (th_pc u0 - th_pc u222) (th_pq u0 - th_pq u222) (MQ below (th_Q (fun (v : Option Value) (H1 : Heap) => ∃ r : Int32, v = some (.int r) ∧ th_I G Γ H1 ∧ th_F G Γ [(24, 0), (23, 3), (26, 0), (25, 0), (28, 0), (29, 0), (12, 0), (12, 1), (12, 2), (12, 3), (12, 4), (12, 5), (12, 6), (31, 0), (27, 5)] H0 H1 ∧ th_RC G Γ H1 ∧ th_bp G Γ H0 H1 u0) G) ([.ref a0, .long p1, .int p2, .int p3, .int p4] : List Value).toArray s (th_pc u0) (th_pq u0) (fun q => G.1.2.2 ≤ q)) (F0 m 222 ls []) := by
                    intro H222 u222 locs ls j222_8 hB hR hl g222_0 g222_1
                    have lj222_8 := ti_lo j222_8; have uj222_8 := ti_hi j222_8
                    have mm16 := (th_F_o hB.2.2 h0 ro_27 (j := 7) (by decide) (by decide)).trans mbn7
                    have mm17 := (th_F_o hB.2.2 h0 ro_27 (j := 8) (by decide) (by decide)).trans mbn8
                    have mm18 := (th_F_o hB.2.2 h0 ro_27 (j := 0) (by decide) (by decide)).trans mb1
                    have mm19 := (th_F_o hB.2.2 h0 ro_27 (j := 12) (by decide) (by decide)).trans mx4
                    have mm20 := (th_F_o hB.2.2 hbn8 ro_3 (j := 7) (by decide) (by decide)).trans sx9
                    refine tr_iinc (fun x21 => [(9, .int x21), (7, .int x3), (0, .ref a0), (1, .long p1), (3, .int p2), (5, .int p4), (8, .int j222_8)]) hx hb gX7_solve_14.1 hl (k := 5) rfl (Eq.refl _) tk_1 (by omega) (by omega) (by decide) (fun _ => rfl) (fun x21 ls ex21 hl => ?_)
                    refine lv_goto (tgt := 75) hx hb gX7_solve_14.2.1 (by decide) ?_
                    exact ih75 H222 u222 locs ls j222_8 x21 hB hR (lv_sub hl [1, 2, 3, 4, 5, 6, 0] rfl) (by omega) (by omega) g222_0 g222_1 (by omega)
                  refine tr_if_eq (tgt := 222) hx hb gX7_solve_7.2.2.2.1 (by decide) (Eq.refl _) (fun c119 => ?_) (fun c119 => ?_)
                  · exact jn222 H75 u75 locs ls j75_8 hB hR (lv_sub hl [0, 1, 2, 3, 4, 6, 5] rfl) g75_2 g75_3
                  · refine lv_aload_n hx hb gX7_solve_7.2.2.2.2.1 rfl (lv_at hl 1 rfl) ?_
                    refine lv_iload hx hb gX7_solve_7.2.2.2.2.2.1 (lv_at hl 6 rfl) ?_
                    refine lv_iload hx hb gX7_solve_7.2.2.2.2.2.2.1 (lv_at hl 0 rfl) ?_
                    refine th_call (th_runV (As := [.int j75_9, .int x3]) (rest := []) hC mf_X7_priceAt km_X7_112 im_X7_priceAt se_X7_priceAt (c_X7_priceAt l G Γ H75 hB.1 hR hU a0 h0 j75_9 (by omega) (by omega) x3 (by omega) (by omega) ⟨_, mm5, hbn7⟩ ⟨_, mm6, hbn8⟩) rfl rfl ⟨by dsimp only; omega, by dsimp only; omega⟩ hB.1 h0 ro_27 rfl rfl hl.1 rfl (Nat.le_of_ble_eq_true rfl) gX7_solve_7.2.2.2.2.2.2.2 ⟨by dsimp only; omega, by dsimp only; omega⟩) hB.2.1 (fun v127 H127 locs hp hz hS => ?_)
                    obtain ⟨x22, rfl, hI1, hf, hR, z127_0⟩ := hp
                    have hB := th_B_c hB hI1 hS hf (by decide)
                    have mm23 := (th_F_o hf h0 ro_27 (j := 7) (by decide) (by decide)).trans mm5
                    have mm24 := (th_F_o hf h0 ro_27 (j := 8) (by decide) (by decide)).trans mm6
                    have mm25 := (th_F_o hf h0 ro_27 (j := 0) (by decide) (by decide)).trans mm7
                    have mm26 := (th_F_o hf h0 ro_27 (j := 12) (by decide) (by decide)).trans mm8
                    have mm27 := (th_F_o hf hbn8 ro_3 (j := 7) (by decide) (by decide)).trans mx9
                    have mu28 := th_bits_F hf g75_2 (by decide)
                    refine W.eq (g2 := F0 m 130 ls [.int x22]) rfl ?_
                    refine lv_iconst (v := (-1)) hx hb gX7_solve_8.1 (by decide) ?_
                    refine tr_icmp_ne (tgt := 137) hx hb gX7_solve_8.2.1 (by decide) (Eq.refl _) tk_m1 (fun c131 => ?_) (fun c131 => ?_)
                    · refine lv_aload_n hx hb gX7_solve_8.2.2.2.1 rfl (lv_at hl 1 rfl) ?_
                      refine th_getO (j := 4) (r2 := 31) hC cf_X7 hB.1 h0 ro_27 rfl rfl kf_X7_28 gX7_solve_8.2.2.2.2.1 (fun b29 mb29 hb29 => ?_)
                      have sb29 := (th_F_o hB.2.2 h0 ro_27 (j := 4) (by decide) (by decide)).symm.trans mb29
                      refine lv_iload hx hb gX7_solve_8.2.2.2.2.2.1 (lv_at hl 4 rfl) ?_
                      refine lv_iload hx hb gX7_solve_8.2.2.2.2.2.2.1 (lv_at hl 6 rfl) ?_
                      refine th_iastF hC hB hb29 (Or.inl hb29) ro_31 rfl (by decide) (Eq.refl _) (by omega) (by omega) th_sIa gX7_solve_8.2.2.2.2.2.2.2 (fun H145 locs hB hf145 hst145 => ?_)
                      have hf := hf145
                      have mm30 := (th_F_o hf h0 ro_27 (j := 7) (by decide) (by decide)).trans mm23
                      have mm31 := (th_F_o hf h0 ro_27 (j := 8) (by decide) (by decide)).trans mm24
                      have mm32 := (th_F_o hf h0 ro_27 (j := 0) (by decide) (by decide)).trans mm25
                      have mm33 := (th_F_o hf h0 ro_27 (j := 12) (by decide) (by decide)).trans mm26
                      have mm34 := (th_F_o hf hbn8 ro_3 (j := 7) (by decide) (by decide)).trans mm27
                      have mm35 := (th_F_o hf h0 ro_27 (j := 4) (by decide) (by decide)).trans mb29
                      have mu36 := th_bits_F hf mu28 (by decide)
                      have hR := th_RC_F hB.1 hR hf (th_T_s hb29 ro_31 hst145) (by decide)
                      refine lv_aload_n hx hb gX7_solve_9.1 rfl (lv_at hl 1 rfl) ?_
                      refine lv_aload_n hx hb gX7_solve_9.2.1 rfl (lv_at hl 1 rfl) ?_
                      refine lv_lload_n hx hb gX7_solve_9.2.2.1 rfl (lv_at hl 2 rfl) ?_
                      refine lv_iload hx hb gX7_solve_9.2.2.2.1 (lv_at hl 6 rfl) ?_
                      refine lv_iload hx hb gX7_solve_9.2.2.2.2.1 (lv_at hl 0 rfl) ?_
                      refine th_call (th_runV (As := [.long p1, .int j75_9, .int x3]) (rest := [.ref a0]) hC mf_X7_keyWith km_X7_152 im_X7_keyWith se_X7_keyWith (c_X7_keyWith l G Γ H145 hB.1 hU a0 h0 p1 j75_9 (by omega) (by omega) x3 (by omega) (by omega) ⟨_, mm31, hbn8⟩) rfl rfl ⟨by dsimp only; omega, by dsimp only; omega⟩ hB.1 h0 ro_27 rfl rfl hl.1 rfl (Nat.le_of_ble_eq_true rfl) gX7_solve_9.2.2.2.2.2.1 ⟨by dsimp only; omega, by dsimp only; omega⟩) hB.2.1 (fun v153 H153 locs hp hz hS => ?_)
                      obtain ⟨y37, rfl, q153_0, rfl⟩ := hp
                      have hB := th_B_s hB hS
                      refine W.eq (g2 := F0 m 156 ls [.long y37, .ref a0]) rfl ?_
                      refine lv_iload_n hx hb gX7_solve_9.2.2.2.2.2.2.1 rfl (lv_at hl 3 rfl) ?_
                      refine lv_aload_n hx hb gX7_solve_9.2.2.2.2.2.2.2 rfl (lv_at hl 1 rfl) ?_
                      refine th_getK hC cf_X7 hB.1 h0 ro_27 rfl (j := 8) (by decide) mm31 kf_X7_38 gX7_solve_10.1 ?_
                      refine th_getO (j := 0) (r2 := 4) hC cf_X1 hB.1 hbn8 ro_3 rfl rfl kf_X7_87 gX7_solve_10.2.1 (fun b38 mb38 hb38 => ?_)
                      have sb38 := (th_F_o hB.2.2 hbn8 ro_3 (j := 0) (by decide) (by decide)).symm.trans mb38
                      refine lv_iload hx hb gX7_solve_10.2.2.1 (lv_at hl 6 rfl) ?_
                      refine th_ialdF hC hB.1 hb38 ro_4 rfl (Eq.refl _) (by omega) (by omega) rfl gX7_solve_10.2.2.2.1 (fun x39 mx39 lx39 ux39 => ?_)
                      refine lv_aload_n hx hb gX7_solve_10.2.2.2.2.1 rfl (lv_at hl 1 rfl) ?_
                      refine th_getK hC cf_X7 hB.1 h0 ro_27 rfl (j := 8) (by decide) mm31 kf_X7_38 gX7_solve_10.2.2.2.2.2.1 ?_
                      refine th_getK hC cf_X1 hB.1 hbn8 ro_3 rfl (j := 0) (by decide) mb38 kf_X7_87 gX7_solve_10.2.2.2.2.2.2.1 ?_
                      refine lv_iload hx hb gX7_solve_10.2.2.2.2.2.2.2 (lv_at hl 6 rfl) ?_
                      refine th_ialdF hC hB.1 hb38 ro_4 rfl (Eq.refl _) (by omega) (by omega) rfl gX7_solve_11.1 (fun x40 mx40 lx40 ux40 => ?_)
                      have qx40 : x40.toInt = x39.toInt := by rw [show x40 = x39 from Value.int.inj (mx40.symm.trans mx39)]
                      have q42 := ti_mulr (a := x39.toInt) (b := x40.toInt) (A := 12) (B := 12) (by omega) (by omega) (by omega) (by omega)
                      generalize hex41 : x39.toInt * x40.toInt = wx41 at q42
                      refine tr_imul hx hb gX7_solve_11.2.1 (Eq.refl _) (Eq.refl _) (by rw [hex41]; omega) (by rw [hex41]; omega) (fun x41 ex41 => ?_)
                      rw [hex41] at ex41
                      refine lv_isub hx hb gX7_solve_11.2.2.1 ?_
                      refine lv_topi (fun x43 ex43 => ?_)
                      have lx43 := ti_lo x43; have ux43 := ti_hi x43
                      refine lv_iload hx hb gX7_solve_11.2.2.2.1 (lv_at hl 0 rfl) ?_
                      refine lv_iload hx hb gX7_solve_11.2.2.2.2.1 (lv_at hl 4 rfl) ?_
                      refine lv_iconst (v := 1) hx hb gX7_solve_11.2.2.2.2.2.1 (by decide) ?_
                      refine tr_iadd hx hb gX7_solve_11.2.2.2.2.2.2.1 (Eq.refl _) tk_1 (by omega) (by omega) (fun x44 ex44 => ?_)
                      refine W.count (fun hc1 hc2 => ?_)
                      obtain ⟨d', hd'⟩ : ∃ d', d = d' + 1 := ⟨d - 1, by omega⟩
                      refine th_call (th_runV (As := [.long y37, .int x43, .int x3, .int x44]) (rest := []) hC mf_X7_solve km_X7_100 im_X7_solve se_X7_solve (ihd d' hd' l G Γ H145 hB.1 hR hU a0 h0 y37 x43 x3 (by omega) (by omega) x44 (by omega) (by omega) ⟨_, mm30, hbn7⟩ ⟨_, mm31, hbn8⟩ hP8 u75 mu36 (by omega)) rfl rfl ⟨by dsimp only; omega, by dsimp only; omega⟩ hB.1 h0 ro_27 rfl rfl hl.1 rfl (Nat.le_of_ble_eq_true rfl) gX7_solve_11.2.2.2.2.2.2.2 ⟨by dsimp only; omega, by dsimp only; omega⟩) hB.2.1 (fun v185 H185 locs hp hz hS => ?_)
                      obtain ⟨x45, rfl, hI1, hf, hR, ⟨u185, hu185, ka185, kb185, kc185, kd185⟩⟩ := hp
                      have hB := th_B_c hB hI1 hS hf (by decide)
                      have mm46 := (th_F_o hf h0 ro_27 (j := 7) (by decide) (by decide)).trans mm30
                      have mm47 := (th_F_o hf h0 ro_27 (j := 8) (by decide) (by decide)).trans mm31
                      have mm48 := (th_F_o hf h0 ro_27 (j := 0) (by decide) (by decide)).trans mm32
                      have mm49 := (th_F_o hf h0 ro_27 (j := 12) (by decide) (by decide)).trans mm33
                      have mm50 := (th_F_o hf hbn8 ro_3 (j := 7) (by decide) (by decide)).trans mm34
                      have mm51 := (th_F_o hf h0 ro_27 (j := 4) (by decide) (by decide)).trans mm35
                      have mm52 := (th_F_o hf hbn8 ro_3 (j := 0) (by decide) (by decide)).trans mb38
                      have ku185 : th_pc u185 ≤ th_pc u0 ∧ th_pq u185 ≤ th_pq u0 := by omega
                      refine W.tight (k := th_pc u0 - th_pc u185) (n := th_pq u0 - th_pq u185) (by omega) (by omega) ?_
                      refine W.eq (g2 := F0 m 188 ls [.int x45]) rfl ?_
                      refine lv_istore (lv' := [(10, .int x45), (7, .int x3), (0, .ref a0), (1, .long p1), (3, .int p2), (5, .int p4), (8, .int j75_8), (9, .int j75_9)]) hx hb gX7_solve_12.1 hl (by decide) rfl (fun ls hl => ?_)
                      refine lv_aload_n hx hb gX7_solve_12.2.1 rfl (lv_at hl 2 rfl) ?_
                      refine th_getK hC cf_X7 hB.1 h0 ro_27 rfl (j := 12) (by decide) mm49 kf_X7_131 gX7_solve_12.2.2.1 ?_
                      have jn220 : ∀ (H220 : Heap) (u220 : Nat) (locs : List Loc) (ls : Array Slot) (s220_0 : Int32), th_B G Γ Γ [(24, 0), (23, 3), (26, 0), (25, 0), (28, 0), (29, 0), (12, 0), (12, 1), (12, 2), (12, 3), (12, 4), (12, 5), (12, 6), (31, 0), (27, 5)] H0 H220 locs → th_RC G Γ H220 → lv_has ls 11 [(7, .int x3), (0, .ref a0), (1, .long p1), (3, .int p2), (5, .int p4), (9, .int j75_9)] → th_bits G Γ H220 u220 → (th_pc u220 ≤ th_pc u0 ∧ th_pq u220 ≤ th_pq u0) → W p l e ({ frames := 5 + d, cells := (th_pc u0), slots := (th_pq u0), locals := 130 + d * 30 } : Room) s m ([.ref a0, .long p1, .int p2, .int p3, .int p4] : List Value).toArray below meth c H220 locs (th_pc u0 - th_pc u220) (th_pq u0 - th_pq u220) (MQ below (th_Q (fun (v : Option Value) (H1 : Heap) => ∃ r : Int32, v = some (.int r) ∧ th_I G Γ H1 ∧ th_F G Γ [(24, 0), (23, 3), (26, 0), (25, 0), (28, 0), (29, 0), (12, 0), (12, 1), (12, 2), (12, 3), (12, 4), (12, 5), (12, 6), (31, 0), (27, 5)] H0 H1 ∧ th_RC G Γ H1 ∧ th_bp G Γ H0 H1 u0) G) ([.ref a0, .long p1, .int p2, .int p3, .int p4] : List Value).toArray s (th_pc u0) (th_pq u0) (fun q => G.1.2.2 ≤ q)) (F0 m 220 ls [.int s220_0]) := by
                        intro H220 u220 locs ls s220_0 hB hR hl g220_0 g220_1
                        have ls220_0 := ti_lo s220_0; have us220_0 := ti_hi s220_0
                        have mm53 := (th_F_o hB.2.2 h0 ro_27 (j := 7) (by decide) (by decide)).trans mbn7
                        have mm54 := (th_F_o hB.2.2 h0 ro_27 (j := 8) (by decide) (by decide)).trans mbn8
                        have mm55 := (th_F_o hB.2.2 h0 ro_27 (j := 0) (by decide) (by decide)).trans mb1
                        have mm56 := (th_F_o hB.2.2 h0 ro_27 (j := 12) (by decide) (by decide)).trans mx4
                        have mm57 := (th_F_o hB.2.2 hbn8 ro_3 (j := 7) (by decide) (by decide)).trans sx9
                        have mm58 := (th_F_o hB.2.2 h0 ro_27 (j := 4) (by decide) (by decide)).trans sb29
                        have mm59 := (th_F_o hB.2.2 hbn8 ro_3 (j := 0) (by decide) (by decide)).trans sb38
                        refine lv_istore (lv' := [(8, .int s220_0), (7, .int x3), (0, .ref a0), (1, .long p1), (3, .int p2), (5, .int p4), (9, .int j75_9)]) hx hb gX7_solve_13.2.2.2.2.2.2.2 hl (by decide) rfl (fun ls hl => ?_)
                        exact jn222 H220 u220 locs ls s220_0 hB hR (lv_sub hl [1, 2, 3, 4, 5, 6, 0] rfl) g220_0 g220_1
                      refine tr_if_eq (tgt := 215) hx hb gX7_solve_12.2.2.2.1 (by decide) (Eq.refl _) (fun c194 => ?_) (fun c194 => ?_)
                      · refine lv_iload hx hb gX7_solve_13.2.2.2.2.1 (lv_at hl 6 rfl) ?_
                        refine lv_iload hx hb gX7_solve_13.2.2.2.2.2.1 (lv_at hl 0 rfl) ?_
                        refine lv_iadd hx hb gX7_solve_13.2.2.2.2.2.2.1 ?_
                        refine lv_topi (fun x60 ex60 => ?_)
                        have lx60 := ti_lo x60; have ux60 := ti_hi x60
                        exact jn220 H185 u185 locs ls x60 hB hR (lv_sub hl [1, 2, 3, 4, 5, 7] rfl) hu185 ku185
                      · refine lv_iload hx hb gX7_solve_12.2.2.2.2.1 (lv_at hl 6 rfl) ?_
                        refine lv_iload hx hb gX7_solve_12.2.2.2.2.2.1 (lv_at hl 0 rfl) ?_
                        refine lv_aload_n hx hb gX7_solve_12.2.2.2.2.2.2.1 rfl (lv_at hl 2 rfl) ?_
                        refine lv_iload hx hb gX7_solve_12.2.2.2.2.2.2.2 (lv_at hl 7 rfl) ?_
                        refine lv_iload hx hb gX7_solve_13.1 (lv_at hl 1 rfl) ?_
                        refine th_call (th_runV (As := [.int j75_9, .int x3]) (rest := [.int x45, .int j75_8]) hC mf_X7_priceAt km_X7_112 im_X7_priceAt se_X7_priceAt (c_X7_priceAt l G Γ H185 hB.1 hR hU a0 h0 j75_9 (by omega) (by omega) x3 (by omega) (by omega) ⟨_, mm46, hbn7⟩ ⟨_, mm47, hbn8⟩) rfl rfl ⟨by dsimp only; omega, by dsimp only; omega⟩ hB.1 h0 ro_27 rfl rfl hl.1 rfl (Nat.le_of_ble_eq_true rfl) gX7_solve_13.2.1 ⟨by dsimp only; omega, by dsimp only; omega⟩) hB.2.1 (fun v206 H206 locs hp hz hS => ?_)
                        obtain ⟨x61, rfl, hI1, hf, hR, z206_0⟩ := hp
                        have hB := th_B_c hB hI1 hS hf (by decide)
                        have mm62 := (th_F_o hf h0 ro_27 (j := 7) (by decide) (by decide)).trans mm46
                        have mm63 := (th_F_o hf h0 ro_27 (j := 8) (by decide) (by decide)).trans mm47
                        have mm64 := (th_F_o hf h0 ro_27 (j := 0) (by decide) (by decide)).trans mm48
                        have mm65 := (th_F_o hf h0 ro_27 (j := 12) (by decide) (by decide)).trans mm49
                        have mm66 := (th_F_o hf hbn8 ro_3 (j := 7) (by decide) (by decide)).trans mm50
                        have mm67 := (th_F_o hf h0 ro_27 (j := 4) (by decide) (by decide)).trans mm51
                        have mm68 := (th_F_o hf hbn8 ro_3 (j := 0) (by decide) (by decide)).trans mm52
                        have mu69 := th_bits_F hf hu185 (by decide)
                        refine W.eq (g2 := F0 m 209 ls [.int x61, .int x45, .int j75_8]) rfl ?_
                        refine th_call (th_runS (As := [.int j75_8, .int x45, .int x61]) (rest := []) hC mf_X7_cheaper km_X7_156 st_X7_cheaper (c_X7_cheaper l G Γ H206 hB.1 hU j75_8 x45 x61) rfl rfl ⟨by dsimp only; omega, by dsimp only; omega⟩ rfl hl.1 rfl (Nat.le_of_ble_eq_true rfl) gX7_solve_13.2.2.1 ⟨by dsimp only; omega, by dsimp only; omega⟩) hB.2.1 (fun v209 H209 locs hp hz hS => ?_)
                        obtain ⟨x70, rfl, q209_0, rfl⟩ := hp
                        have hB := th_B_s hB hS
                        refine W.eq (g2 := F0 m 212 ls [.int x70]) rfl ?_
                        refine lv_goto (tgt := 220) hx hb gX7_solve_13.2.2.2.1 (by decide) ?_
                        exact jn220 H206 u185 locs ls x70 hB hR (lv_sub hl [1, 2, 3, 4, 5, 7] rfl) mu69 ku185
                    · refine lv_goto (tgt := 222) hx hb gX7_solve_8.2.2.1 (by decide) ?_
                      exact jn222 H127 u75 locs ls j75_8 hB hR (lv_sub hl [0, 1, 2, 3, 4, 6, 5] rfl) mu28 g75_3
                refine tr_if_ne (tgt := 110) hx hb gX7_solve_6.2.1 (by decide) (Eq.refl _) (fun c98 => ?_) (fun c98 => ?_)
                · exact jn110 locs ls hB (lv_sub hl [0, 1, 2, 3, 4, 5, 6] rfl)
                · refine lv_iload hx hb gX7_solve_6.2.2.1 (lv_at hl 5 rfl) ?_
                  refine lv_aload_n hx hb gX7_solve_6.2.2.2.1 rfl (lv_at hl 1 rfl) ?_
                  refine th_getI (j := 13) hC cf_X7 hB.1 h0 ro_27 rfl rfl kf_X7_135 gX7_solve_6.2.2.2.2.1 (fun x71 mx71 lx71 ux71 => ?_)
                  have sx71 := (th_F_o hB.2.2 h0 ro_27 (j := 13) (by decide) (by decide)).symm.trans mx71
                  refine tr_icmp_ge (tgt := 228) hx hb gX7_solve_6.2.2.2.2.2.1 (by decide) (Eq.refl _) (Eq.refl _) (fun c107 => ?_) (fun c107 => ?_)
                  · exact jn228 locs ls hB (lv_sub hl [1, 2, 5] rfl)
                  · exact jn110 locs ls hB (lv_sub hl [0, 1, 2, 3, 4, 5, 6] rfl)
        exact lp75 ((2147483648 : Int) - (0)).toNat H0 u0 locs ls s70_0 0 hB hR (lv_sub hl [2, 3, 4, 5, 6, 1, 0] rfl) (by decide) (by decide) hu0 ku0 (by have w0 := tk_0; omega)
      refine tr_if_eq (tgt := 69) hx hb gX7_solve_4.1 (by decide) (Eq.refl _) (fun c62 => ?_) (fun c62 => ?_)
      · refine lv_iconst (v := 0) hx hb gX7_solve_4.2.2.2.1 (by decide) ?_
        exact jn70 locs ls 0 hB (lv_sub hl [0, 2, 3, 4, 6] rfl) (by decide) (by decide)
      · refine lv_iconst (v := (-1)) hx hb gX7_solve_4.2.1 (by decide) ?_
        refine lv_goto (tgt := 70) hx hb gX7_solve_4.2.2.1 (by decide) ?_
        exact jn70 locs ls (-1) hB (lv_sub hl [0, 2, 3, 4, 6] rfl) (by decide) (by decide)
    · refine lv_aload_n hx hb gX7_solve_2.2.2.2.2.1 rfl (lv_at hl 1 rfl) ?_
      refine th_getK hC cf_X7 hB.1 h0 ro_27 rfl (j := 0) (by decide) mb1 kf_X7_12 gX7_solve_2.2.2.2.2.2.1 ?_
      refine lv_iload hx hb gX7_solve_2.2.2.2.2.2.2.1 (lv_at hl 0 rfl) ?_
      refine th_call (th_runV (As := [.int x2]) (rest := []) hC mf_X3_valueIn km_X7_149 im_X3_valueIn se_X3_valueIn (c_X3_valueIn l G Γ H0 hB.1 hR b1 hb1 x2) rfl rfl ⟨by dsimp only; omega, by dsimp only; omega⟩ hB.1 hb1 ro_12 rfl rfl hl.1 rfl (Nat.le_of_ble_eq_true rfl) gX7_solve_2.2.2.2.2.2.2.2 ⟨by dsimp only; omega, by dsimp only; omega⟩) hB.2.1 (fun v45 H45 locs hp hz hS => ?_)
      obtain ⟨x72, rfl, q45_0, rfl⟩ := hp
      have hB := th_B_s hB hS
      refine W.eq (g2 := F0 m 48 ls [.int x72]) rfl ?_
      refine W.count (fun hc1 hc2 => ?_)
      rw [hH] at hc1 hc2
      refine W.widen (k := th_pc u0) (n := th_pq u0) (Nat.sub_le _ _) (Nat.sub_le _ _) ?_
      exact th_iret hC hH hr hlocks rfl hB.2.1 ⟨_, rfl, hB.1, hB.2.2, hR, ⟨u0, hu0, ku0.1, ku0.2, by omega, by omega⟩⟩ gX7_solve_3.1
  · refine lv_aload_n hx hb gX7_solve_0.2.2.1 rfl (lv_at hl 0 rfl) ?_
    refine lv_iload hx hb gX7_solve_0.2.2.2.1 (lv_at hl 4 rfl) ?_
    refine th_put hC cf_X7 hB h0 (Or.inl h0) ro_27 rfl (j := 5) rfl th_sIa (by decide) rfl rfl rfl kf_X7_31 gX7_solve_0.2.2.2.2.1 (fun H7 locs hB hf hst7 => ?_)
    have mm73 := (th_F_o hf h0 ro_27 (j := 7) (by decide) (by decide)).trans mbn7
    have mm74 := (th_F_o hf h0 ro_27 (j := 8) (by decide) (by decide)).trans mbn8
    have mu75 := th_bits_F hf hu0 (by decide)
    have hR := th_RC_F hB.1 hR hf (th_T_s h0 ro_27 hst7) (by decide)
    refine lv_aload_n hx hb gX7_solve_0.2.2.2.2.2.1 rfl (lv_at hl 0 rfl) ?_
    refine th_getI (j := 12) hC cf_X7 hB.1 h0 ro_27 rfl rfl kf_X7_131 gX7_solve_0.2.2.2.2.2.2.1 (fun x76 mx76 lx76 ux76 => ?_)
    refine tr_if_eq (tgt := 21) hx hb gX7_solve_0.2.2.2.2.2.2.2 (by decide) (Eq.refl _) (fun c14 => ?_) (fun c14 => ?_)
    · refine lv_iconst (v := 1) hx hb gX7_solve_1.2.2.1 (by decide) ?_
      refine W.count (fun hc1 hc2 => ?_)
      rw [hH] at hc1 hc2
      refine W.widen (k := th_pc u0) (n := th_pq u0) (Nat.sub_le _ _) (Nat.sub_le _ _) ?_
      exact th_iret hC hH hr hlocks rfl hB.2.1 ⟨_, rfl, hB.1, hB.2.2, hR, ⟨u0, mu75, ku0.1, ku0.2, by omega, by omega⟩⟩ gX7_solve_1.2.2.2.1
    · refine lv_iconst (v := 0) hx hb gX7_solve_1.1 (by decide) ?_
      refine lv_goto (tgt := 22) hx hb gX7_solve_1.2.1 (by decide) ?_
      refine W.count (fun hc1 hc2 => ?_)
      rw [hH] at hc1 hc2
      refine W.widen (k := th_pc u0) (n := th_pq u0) (Nat.sub_le _ _) (Nat.sub_le _ _) ?_
      exact th_iret hC hH hr hlocks rfl hB.2.1 ⟨_, rfl, hB.1, hB.2.2, hR, ⟨u0, mu75, ku0.1, ku0.2, by omega, by omega⟩⟩ gX7_solve_1.2.2.2.1
theorem c_X7_solve_d (d : Nat) : s_X7_solve d := by
  induction d with
  | zero => exact c_X7_solve_s 0 (fun d' h => absurd h (by omega))
  | succ d ih => exact c_X7_solve_s (d + 1) (fun d' h => by cases h; exact ih)
theorem c_X7_solve (l : Launch) (G : th_G) (Γ : th_Ga) (H0 : Heap) (hI : th_I G Γ H0) (hR : th_RC G Γ H0) (hU : dv_U Γ) (a0 : Nat) (h0 : Γ a0 = (27, 0)) (p1 : Int64) (p2 : Int32) (p3 : Int32) (f3 : 0 ≤ p3.toInt) (g3 : p3.toInt ≤ 144) (p4 : Int32) (f4 : 0 ≤ p4.toInt) (g4 : p4.toInt ≤ 9) (nn7 : ∃ b : Nat, th_sl H0 a0 (G.1.1.2 7 7) = .ref b ∧ Γ b = (11, 0)) (nn8 : ∃ b : Nat, th_sl H0 a0 (G.1.1.2 7 8) = .ref b ∧ Γ b = (3, 0)) (hP8 : ∀ x y : Int, th_pm G x y) (u0 : Nat) (hu0 : th_bits G Γ H0 u0) : Met l yX7_solve (.code yX7_solve cX7_solve 11 (some FieldType.int) :: th_tb) ({ frames := 14, cells := (th_pc u0), slots := (th_pq u0), locals := 400 } : Room) (th_P [.ref a0, .long p1, .int p2, .int p3, .int p4] G H0) (th_Q (fun (v : Option Value) (H1 : Heap) => ∃ r : Int32, v = some (.int r) ∧ th_I G Γ H1 ∧ th_F G Γ [(24, 0), (23, 3), (26, 0), (25, 0), (28, 0), (29, 0), (12, 0), (12, 1), (12, 2), (12, 3), (12, 4), (12, 5), (12, 6), (31, 0), (27, 5)] H0 H1 ∧ th_RC G Γ H1 ∧ th_bp G Γ H0 H1 u0) G) (th_pc u0) (th_pq u0) (fun q => G.1.2.2 ≤ q) := c_X7_solve_d 9 l G Γ H0 hI hR hU a0 h0 p1 p2 p3 f3 g3 p4 f4 g4 nn7 nn8 hP8 u0 hu0 (by omega)

set_option maxHeartbeats 4000000 in
set_option maxRecDepth 100000 in
theorem c_X7_number (l : Launch) (G : th_G) (Γ : th_Ga) (H0 : Heap) (hI : th_I G Γ H0) (hR : th_RC G Γ H0) (hU : dv_U Γ) (a0 : Nat) (h0 : Γ a0 = (27, 0)) (p1 : Int32) (nn7 : ∃ b : Nat, th_sl H0 a0 (G.1.1.2 7 7) = .ref b ∧ Γ b = (11, 0)) (nn8 : ∃ b : Nat, th_sl H0 a0 (G.1.1.2 7 8) = .ref b ∧ Γ b = (3, 0)) (hP8 : ∀ x y : Int, th_pm G x y) (u0 : Nat) (hu0 : th_bits G Γ H0 u0) : Met l yX7_number (.code yX7_number cX7_number 2 (some FieldType.int) :: th_tb) ({ frames := 15, cells := (th_pc u0), slots := (th_pq u0), locals := 430 } : Room) (th_P [.ref a0, .int p1] G H0) (th_Q (fun (v : Option Value) (H1 : Heap) => ∃ r : Int32, v = some (.int r) ∧ th_I G Γ H1 ∧ th_F G Γ [(24, 0), (23, 3), (26, 0), (25, 0), (28, 0), (29, 0), (12, 0), (12, 1), (12, 2), (12, 3), (12, 4), (12, 5), (12, 6), (31, 0), (27, 12), (27, 13), (27, 6), (27, 5)] H0 H1 ∧ th_RC G Γ H1 ∧ th_bp G Γ H0 H1 u0) G) (th_pc u0) (th_pq u0) (fun q => G.1.2.2 ≤ q) := by
  refine th_met RX7 (by decide) rfl (Nat.le_of_ble_eq_true rfl) ?_
  intro p e s m below meth c hC hH hr hlocks hnm ls hl
  have hx := hC.1
  have hb := hC.2.1
  have hB : th_B G Γ Γ [(24, 0), (23, 3), (26, 0), (25, 0), (28, 0), (29, 0), (12, 0), (12, 1), (12, 2), (12, 3), (12, 4), (12, 5), (12, 6), (31, 0), (27, 12), (27, 13), (27, 6), (27, 5)] H0 H0 [] := ⟨hI, va_S.rf, th_F_rf⟩
  have hl : lv_has ls 2 [(0, .ref a0), (1, .int p1)] := hl
  have lp1 := ti_lo p1; have up1 := ti_hi p1
  obtain ⟨bn7, mbn7, hbn7⟩ := nn7
  obtain ⟨bn8, mbn8, hbn8⟩ := nn8
  have ku0 : th_pc u0 ≤ th_pc u0 ∧ th_pq u0 ≤ th_pq u0 := ⟨Nat.le_refl _, Nat.le_refl _⟩
  refine W.widen (k := th_pc u0 - th_pc u0) (n := th_pq u0 - th_pq u0) (Nat.zero_le _) (Nat.zero_le _) ?_
  refine lv_aload_n hx hb gX7_number_0.1 rfl (lv_at hl 0 rfl) ?_
  refine lv_iconst (v := 0) hx hb gX7_number_0.2.1 (by decide) ?_
  refine lv_iload_n hx hb gX7_number_0.2.2.1 rfl (lv_at hl 1 rfl) ?_
  refine th_call (th_runV (As := [.int 0, .int p1]) (rest := []) hC mf_X7_begin km_X7_93 im_X7_begin se_X7_begin (c_X7_begin l G Γ H0 hB.1 hR hU a0 h0 0 (by decide) (by decide) p1) rfl rfl ⟨Nat.le_of_ble_eq_true rfl, Nat.le_of_ble_eq_true rfl⟩ hB.1 h0 ro_27 rfl rfl hl.1 rfl (Nat.le_of_ble_eq_true rfl) gX7_number_0.2.2.2.1 ⟨by dsimp only; omega, by dsimp only; omega⟩) hB.2.1 (fun v3 H3 locs hp hz hS => ?_)
  obtain ⟨rfl, hI1, hf, hR⟩ := hp
  have hB := th_B_c hB hI1 hS hf (by decide)
  have mm1 := (th_F_o hf h0 ro_27 (j := 7) (by decide) (by decide)).trans mbn7
  have mm2 := (th_F_o hf h0 ro_27 (j := 8) (by decide) (by decide)).trans mbn8
  have mu3 := th_bits_F hf hu0 (by decide)
  refine W.eq (g2 := F0 m 6 ls []) rfl ?_
  refine lv_aload_n hx hb gX7_number_0.2.2.2.2.1 rfl (lv_at hl 0 rfl) ?_
  refine th_call (th_runV (As := []) (rest := []) hC mf_X7_areaReady km_X7_97 im_X7_areaReady se_X7_areaReady (c_X7_areaReady l G Γ H3 hB.1 hU a0 h0 ⟨_, mm2, hbn8⟩) rfl rfl ⟨Nat.le_of_ble_eq_true rfl, Nat.le_of_ble_eq_true rfl⟩ hB.1 h0 ro_27 rfl rfl hl.1 rfl (Nat.le_of_ble_eq_true rfl) gX7_number_0.2.2.2.2.2.1 ⟨by dsimp only; omega, by dsimp only; omega⟩) hB.2.1 (fun v7 H7 locs hp hz hS => ?_)
  obtain ⟨x4, rfl, q7_0, rfl⟩ := hp
  have hB := th_B_s hB hS
  refine W.eq (g2 := F0 m 10 ls [.int x4]) rfl ?_
  refine lv_aload_n hx hb gX7_number_0.2.2.2.2.2.2.1 rfl (lv_at hl 0 rfl) ?_
  refine th_getI (j := 11) hC cf_X7 hB.1 h0 ro_27 rfl rfl kf_X7_63 gX7_number_0.2.2.2.2.2.2.2 (fun x5 mx5 lx5 ux5 => ?_)
  have sx5 := (th_F_o hB.2.2 h0 ro_27 (j := 11) (by decide) (by decide)).symm.trans mx5
  refine tr_icmp_ge (tgt := 21) hx hb gX7_number_1.1 (by decide) (Eq.refl _) (Eq.refl _) (fun c14 => ?_) (fun c14 => ?_)
  · refine lv_aload_n hx hb gX7_number_1.2.2.2.1 rfl (lv_at hl 0 rfl) ?_
    refine lv_lconst (v := 0) hx hb gX7_number_1.2.2.2.2.1 rfl ?_
    refine lv_aload_n hx hb gX7_number_1.2.2.2.2.2.1 rfl (lv_at hl 0 rfl) ?_
    refine th_getK hC cf_X7 hB.1 h0 ro_27 rfl (j := 11) (by decide) mx5 kf_X7_63 gX7_number_1.2.2.2.2.2.2.1 ?_
    refine lv_iconst (v := 0) hx hb gX7_number_1.2.2.2.2.2.2.2 (by decide) ?_
    refine lv_iconst (v := 0) hx hb gX7_number_2.1 (by decide) ?_
    refine W.count (fun hc1 hc2 => ?_)
    refine th_call (th_runV (As := [.long 0, .int x5, .int 0, .int 0]) (rest := []) hC mf_X7_solve km_X7_100 im_X7_solve se_X7_solve (c_X7_solve l G Γ H3 hB.1 hR hU a0 h0 0 x5 0 (by decide) (by decide) 0 (by decide) (by decide) ⟨_, mm1, hbn7⟩ ⟨_, mm2, hbn8⟩ hP8 u0 mu3) rfl rfl ⟨Nat.le_of_ble_eq_true rfl, Nat.le_of_ble_eq_true rfl⟩ hB.1 h0 ro_27 rfl rfl hl.1 rfl (Nat.le_of_ble_eq_true rfl) gX7_number_2.2.1 ⟨by dsimp only; omega, by dsimp only; omega⟩) hB.2.1 (fun v29 H29 locs hp hz hS => ?_)
    obtain ⟨x6, rfl, hI1, hf, hR, ⟨u29, hu29, ka29, kb29, kc29, kd29⟩⟩ := hp
    have hB := th_B_c hB hI1 hS hf (by decide)
    have mm7 := (th_F_o hf h0 ro_27 (j := 7) (by decide) (by decide)).trans mm1
    have mm8 := (th_F_o hf h0 ro_27 (j := 8) (by decide) (by decide)).trans mm2
    have mm9 := (th_F_o hf h0 ro_27 (j := 11) (by decide) (by decide)).trans mx5
    have ku29 : th_pc u29 ≤ th_pc u0 ∧ th_pq u29 ≤ th_pq u0 := by omega
    refine W.tight (k := th_pc u0 - th_pc u29) (n := th_pq u0 - th_pq u29) (by omega) (by omega) ?_
    refine W.eq (g2 := F0 m 32 ls [.int x6]) rfl ?_
    refine W.count (fun hc1 hc2 => ?_)
    rw [hH] at hc1 hc2
    refine W.widen (k := th_pc u0) (n := th_pq u0) (Nat.sub_le _ _) (Nat.sub_le _ _) ?_
    exact th_iret hC hH hr hlocks rfl hB.2.1 ⟨_, rfl, hB.1, hB.2.2, hR, ⟨u29, hu29, ku29.1, ku29.2, by omega, by omega⟩⟩ gX7_number_2.2.2
  · refine lv_iconst (v := 0) hx hb gX7_number_1.2.1 (by decide) ?_
    refine lv_goto (tgt := 32) hx hb gX7_number_1.2.2.1 (by decide) ?_
    refine W.count (fun hc1 hc2 => ?_)
    rw [hH] at hc1 hc2
    refine W.widen (k := th_pc u0) (n := th_pq u0) (Nat.sub_le _ _) (Nat.sub_le _ _) ?_
    exact th_iret hC hH hr hlocks rfl hB.2.1 ⟨_, rfl, hB.1, hB.2.2, hR, ⟨u0, mu3, ku0.1, ku0.2, by omega, by omega⟩⟩ gX7_number_2.2.2

set_option maxHeartbeats 4000000 in
set_option maxRecDepth 100000 in
theorem c_X7_leastCost (l : Launch) (G : th_G) (Γ : th_Ga) (H0 : Heap) (hI : th_I G Γ H0) (hR : th_RC G Γ H0) (hU : dv_U Γ) (a0 : Nat) (h0 : Γ a0 = (27, 0)) (nn7 : ∃ b : Nat, th_sl H0 a0 (G.1.1.2 7 7) = .ref b ∧ Γ b = (11, 0)) (nn8 : ∃ b : Nat, th_sl H0 a0 (G.1.1.2 7 8) = .ref b ∧ Γ b = (3, 0)) (hP8 : ∀ x y : Int, th_pm G x y) (u0 : Nat) (hu0 : th_bits G Γ H0 u0) : Met l yX7_leastCost (.code yX7_leastCost cX7_leastCost 1 (some FieldType.int) :: th_tb) ({ frames := 15, cells := (th_pc u0), slots := (th_pq u0), locals := 430 } : Room) (th_P [.ref a0] G H0) (th_Q (fun (v : Option Value) (H1 : Heap) => ∃ r : Int32, v = some (.int r) ∧ th_I G Γ H1 ∧ th_F G Γ [(24, 0), (23, 3), (26, 0), (25, 0), (28, 0), (29, 0), (12, 0), (12, 1), (12, 2), (12, 3), (12, 4), (12, 5), (12, 6), (31, 0), (27, 12), (27, 13), (27, 6), (27, 5)] H0 H1 ∧ th_RC G Γ H1 ∧ th_bp G Γ H0 H1 u0) G) (th_pc u0) (th_pq u0) (fun q => G.1.2.2 ≤ q) := by
  refine th_met RX7 (by decide) rfl (Nat.le_of_ble_eq_true rfl) ?_
  intro p e s m below meth c hC hH hr hlocks hnm ls hl
  have hx := hC.1
  have hb := hC.2.1
  have hB : th_B G Γ Γ [(24, 0), (23, 3), (26, 0), (25, 0), (28, 0), (29, 0), (12, 0), (12, 1), (12, 2), (12, 3), (12, 4), (12, 5), (12, 6), (31, 0), (27, 12), (27, 13), (27, 6), (27, 5)] H0 H0 [] := ⟨hI, va_S.rf, th_F_rf⟩
  have hl : lv_has ls 1 [(0, .ref a0)] := hl
  obtain ⟨bn7, mbn7, hbn7⟩ := nn7
  obtain ⟨bn8, mbn8, hbn8⟩ := nn8
  have ku0 : th_pc u0 ≤ th_pc u0 ∧ th_pq u0 ≤ th_pq u0 := ⟨Nat.le_refl _, Nat.le_refl _⟩
  refine W.widen (k := th_pc u0 - th_pc u0) (n := th_pq u0 - th_pq u0) (Nat.zero_le _) (Nat.zero_le _) ?_
  refine lv_aload_n hx hb gX7_leastCost_0.1 rfl (lv_at hl 0 rfl) ?_
  refine lv_iconst (v := 1) hx hb gX7_leastCost_0.2.1 (by decide) ?_
  refine lv_iconst (v := 1) hx hb gX7_leastCost_0.2.2.1 (by decide) ?_
  refine th_call (th_runV (As := [.int 1, .int 1]) (rest := []) hC mf_X7_begin km_X7_93 im_X7_begin se_X7_begin (c_X7_begin l G Γ H0 hB.1 hR hU a0 h0 1 (by decide) (by decide) 1) rfl rfl ⟨Nat.le_of_ble_eq_true rfl, Nat.le_of_ble_eq_true rfl⟩ hB.1 h0 ro_27 rfl rfl hl.1 rfl (Nat.le_of_ble_eq_true rfl) gX7_leastCost_0.2.2.2.1 ⟨by dsimp only; omega, by dsimp only; omega⟩) hB.2.1 (fun v3 H3 locs hp hz hS => ?_)
  obtain ⟨rfl, hI1, hf, hR⟩ := hp
  have hB := th_B_c hB hI1 hS hf (by decide)
  have mm1 := (th_F_o hf h0 ro_27 (j := 7) (by decide) (by decide)).trans mbn7
  have mm2 := (th_F_o hf h0 ro_27 (j := 8) (by decide) (by decide)).trans mbn8
  have mu3 := th_bits_F hf hu0 (by decide)
  refine W.eq (g2 := F0 m 6 ls []) rfl ?_
  refine lv_aload_n hx hb gX7_leastCost_0.2.2.2.2.1 rfl (lv_at hl 0 rfl) ?_
  refine th_call (th_runV (As := []) (rest := []) hC mf_X7_areaReady km_X7_97 im_X7_areaReady se_X7_areaReady (c_X7_areaReady l G Γ H3 hB.1 hU a0 h0 ⟨_, mm2, hbn8⟩) rfl rfl ⟨Nat.le_of_ble_eq_true rfl, Nat.le_of_ble_eq_true rfl⟩ hB.1 h0 ro_27 rfl rfl hl.1 rfl (Nat.le_of_ble_eq_true rfl) gX7_leastCost_0.2.2.2.2.2.1 ⟨by dsimp only; omega, by dsimp only; omega⟩) hB.2.1 (fun v7 H7 locs hp hz hS => ?_)
  obtain ⟨x4, rfl, q7_0, rfl⟩ := hp
  have hB := th_B_s hB hS
  refine W.eq (g2 := F0 m 10 ls [.int x4]) rfl ?_
  refine lv_aload_n hx hb gX7_leastCost_0.2.2.2.2.2.2.1 rfl (lv_at hl 0 rfl) ?_
  refine th_getI (j := 11) hC cf_X7 hB.1 h0 ro_27 rfl rfl kf_X7_63 gX7_leastCost_0.2.2.2.2.2.2.2 (fun x5 mx5 lx5 ux5 => ?_)
  have sx5 := (th_F_o hB.2.2 h0 ro_27 (j := 11) (by decide) (by decide)).symm.trans mx5
  refine tr_icmp_ge (tgt := 21) hx hb gX7_leastCost_1.1 (by decide) (Eq.refl _) (Eq.refl _) (fun c14 => ?_) (fun c14 => ?_)
  · refine lv_aload_n hx hb gX7_leastCost_1.2.2.2.1 rfl (lv_at hl 0 rfl) ?_
    refine lv_lconst (v := 0) hx hb gX7_leastCost_1.2.2.2.2.1 rfl ?_
    refine lv_aload_n hx hb gX7_leastCost_1.2.2.2.2.2.1 rfl (lv_at hl 0 rfl) ?_
    refine th_getK hC cf_X7 hB.1 h0 ro_27 rfl (j := 11) (by decide) mx5 kf_X7_63 gX7_leastCost_1.2.2.2.2.2.2.1 ?_
    refine lv_iconst (v := 0) hx hb gX7_leastCost_1.2.2.2.2.2.2.2 (by decide) ?_
    refine lv_iconst (v := 0) hx hb gX7_leastCost_2.1 (by decide) ?_
    refine W.count (fun hc1 hc2 => ?_)
    refine th_call (th_runV (As := [.long 0, .int x5, .int 0, .int 0]) (rest := []) hC mf_X7_solve km_X7_100 im_X7_solve se_X7_solve (c_X7_solve l G Γ H3 hB.1 hR hU a0 h0 0 x5 0 (by decide) (by decide) 0 (by decide) (by decide) ⟨_, mm1, hbn7⟩ ⟨_, mm2, hbn8⟩ hP8 u0 mu3) rfl rfl ⟨Nat.le_of_ble_eq_true rfl, Nat.le_of_ble_eq_true rfl⟩ hB.1 h0 ro_27 rfl rfl hl.1 rfl (Nat.le_of_ble_eq_true rfl) gX7_leastCost_2.2.1 ⟨by dsimp only; omega, by dsimp only; omega⟩) hB.2.1 (fun v29 H29 locs hp hz hS => ?_)
    obtain ⟨x6, rfl, hI1, hf, hR, ⟨u29, hu29, ka29, kb29, kc29, kd29⟩⟩ := hp
    have hB := th_B_c hB hI1 hS hf (by decide)
    have mm7 := (th_F_o hf h0 ro_27 (j := 7) (by decide) (by decide)).trans mm1
    have mm8 := (th_F_o hf h0 ro_27 (j := 8) (by decide) (by decide)).trans mm2
    have mm9 := (th_F_o hf h0 ro_27 (j := 11) (by decide) (by decide)).trans mx5
    have ku29 : th_pc u29 ≤ th_pc u0 ∧ th_pq u29 ≤ th_pq u0 := by omega
    refine W.tight (k := th_pc u0 - th_pc u29) (n := th_pq u0 - th_pq u29) (by omega) (by omega) ?_
    refine W.eq (g2 := F0 m 32 ls [.int x6]) rfl ?_
    refine W.count (fun hc1 hc2 => ?_)
    rw [hH] at hc1 hc2
    refine W.widen (k := th_pc u0) (n := th_pq u0) (Nat.sub_le _ _) (Nat.sub_le _ _) ?_
    exact th_iret hC hH hr hlocks rfl hB.2.1 ⟨_, rfl, hB.1, hB.2.2, hR, ⟨u29, hu29, ku29.1, ku29.2, by omega, by omega⟩⟩ gX7_leastCost_2.2.2
  · refine lv_iconst (v := (-1)) hx hb gX7_leastCost_1.2.1 (by decide) ?_
    refine lv_goto (tgt := 32) hx hb gX7_leastCost_1.2.2.1 (by decide) ?_
    refine W.count (fun hc1 hc2 => ?_)
    rw [hH] at hc1 hc2
    refine W.widen (k := th_pc u0) (n := th_pq u0) (Nat.sub_le _ _) (Nat.sub_le _ _) ?_
    exact th_iret hC hH hr hlocks rfl hB.2.1 ⟨_, rfl, hB.1, hB.2.2, hR, ⟨u0, mu3, ku0.1, ku0.2, by omega, by omega⟩⟩ gX7_leastCost_2.2.2
end
section
set_option maxHeartbeats 4000000 in
set_option maxRecDepth 100000 in
theorem c_X11_fill (l : Launch) (G : th_G) (Γ : th_Ga) (H0 : Heap) (hI : th_I G Γ H0) (hR : th_RC G Γ H0) (hU : dv_U Γ) (a0 : Nat) (h0 : Γ a0 = (42, 0)) (p1 : Int32) (hP8 : ∀ x y : Int, th_pm G x y) (u0 : Nat) (hu0 : th_bits G Γ H0 u0) : Met l yX11_fill (.code yX11_fill cX11_fill 2 (some FieldType.int) :: th_tb) ({ frames := 16, cells := (th_pc u0), slots := (th_pq u0), locals := 451 } : Room) (th_P [.ref a0, .int p1] G H0) (th_Q (fun (v : Option Value) (H1 : Heap) => ∃ r : Int32, v = some (.int r) ∧ th_I G Γ H1 ∧ th_F G Γ [(24, 0), (23, 3), (26, 0), (25, 0), (28, 0), (29, 0), (12, 0), (12, 1), (12, 2), (12, 3), (12, 4), (12, 5), (12, 6), (31, 0), (27, 5), (27, 6), (27, 7), (27, 8), (27, 9), (27, 10), (27, 11), (27, 12), (27, 13), (10, 0)] H0 H1 ∧ th_RC G Γ H1 ∧ th_bp G Γ H0 H1 u0) G) (th_pc u0) (th_pq u0) (fun q => G.1.2.2 ≤ q) := by
  refine th_met RX11 (by decide) rfl (Nat.le_of_ble_eq_true rfl) ?_
  intro p e s m below meth c hC hH hr hlocks hnm ls hl
  have hx := hC.1
  have hb := hC.2.1
  have hB : th_B G Γ Γ [(24, 0), (23, 3), (26, 0), (25, 0), (28, 0), (29, 0), (12, 0), (12, 1), (12, 2), (12, 3), (12, 4), (12, 5), (12, 6), (31, 0), (27, 5), (27, 6), (27, 7), (27, 8), (27, 9), (27, 10), (27, 11), (27, 12), (27, 13), (10, 0)] H0 H0 [] := ⟨hI, va_S.rf, th_F_rf⟩
  have hl : lv_has ls 2 [(0, .ref a0), (1, .int p1)] := hl
  have lp1 := ti_lo p1; have up1 := ti_hi p1
  have ku0 : th_pc u0 ≤ th_pc u0 ∧ th_pq u0 ≤ th_pq u0 := ⟨Nat.le_refl _, Nat.le_refl _⟩
  refine W.widen (k := th_pc u0 - th_pc u0) (n := th_pq u0 - th_pq u0) (Nat.zero_le _) (Nat.zero_le _) ?_
  refine lv_aload_n hx hb gX11_fill_0.1 rfl (lv_at hl 0 rfl) ?_
  refine th_getR (j := 11) (r2 := 27) hC cf_X11 hB.1 h0 ro_42 rfl rfl kf_X11_79 gX11_fill_0.2.1 (fun b1 mb1 hb1 => ?_)
  refine lv_aload_n hx hb gX11_fill_0.2.2.1 rfl (lv_at hl 0 rfl) ?_
  refine th_getR (j := 0) (r2 := 32) hC cf_X11 hB.1 h0 ro_42 rfl rfl kf_X11_12 gX11_fill_0.2.2.2.1 (fun b2 mb2 hb2 => ?_)
  refine th_getR (j := 0) (r2 := 3) hC cf_X8 hB.1 hb2 ro_32 rfl rfl kf_X11_107 gX11_fill_0.2.2.2.2.1 (fun b3 mb3 hb3 => ?_)
  refine lv_aload_n hx hb gX11_fill_0.2.2.2.2.2.1 rfl (lv_at hl 0 rfl) ?_
  refine th_getK hC cf_X11 hB.1 h0 ro_42 rfl (j := 0) (by decide) mb2 kf_X11_12 gX11_fill_0.2.2.2.2.2.2.1 ?_
  refine th_call (th_runV (As := []) (rest := [.ref b3, .ref b1]) hC mf_X8_forcedLaw km_X11_143 im_X8_forcedLaw se_X8_forcedLaw (c_X8_forcedLaw l G Γ H0 hB.1 hU b2 hb2) rfl rfl ⟨Nat.le_of_ble_eq_true rfl, Nat.le_of_ble_eq_true rfl⟩ hB.1 hb2 ro_32 rfl rfl hl.1 rfl (Nat.le_of_ble_eq_true rfl) gX11_fill_0.2.2.2.2.2.2.2 ⟨by dsimp only; omega, by dsimp only; omega⟩) hB.2.1 (fun v15 H15 locs hp hz hS => ?_)
  obtain ⟨v4, rfl, hv4, q15_0, rfl⟩ := hp
  have hB := th_B_s hB hS
  refine W.eq (g2 := F0 m 18 ls [v4, .ref b3, .ref b1]) rfl ?_
  refine lv_aload_n hx hb gX11_fill_1.1 rfl (lv_at hl 0 rfl) ?_
  refine th_getR (j := 9) (r2 := 11) hC cf_X11 hB.1 h0 ro_42 rfl rfl kf_X11_65 gX11_fill_1.2.1 (fun b5 mb5 hb5 => ?_)
  refine th_call (th_runV (As := [.ref b3, v4, .ref b5]) (rest := []) hC mf_X7_prepare km_X11_255 im_X7_prepare se_X7_prepare (c_X7_prepare l G Γ H0 hB.1 hR hU b1 hb1 b3 hb3 v4 hv4 b5 hb5) rfl rfl ⟨Nat.le_of_ble_eq_true rfl, Nat.le_of_ble_eq_true rfl⟩ hB.1 hb1 ro_27 rfl rfl hl.1 rfl (Nat.le_of_ble_eq_true rfl) gX11_fill_1.2.2.1 ⟨by dsimp only; omega, by dsimp only; omega⟩) hB.2.1 (fun v22 H22 locs hp hz hS => ?_)
  obtain ⟨rfl, hI1, hf, hR, z22_0, z22_1, z22_2⟩ := hp
  have hB := th_B_c hB hI1 hS hf (by decide)
  have mm6 := (th_F_o hf h0 ro_42 (j := 11) (by decide) (by decide)).trans mb1
  have mm7 := (th_F_o hf h0 ro_42 (j := 0) (by decide) (by decide)).trans mb2
  have mu8 := th_bits_F hf hu0 (by decide)
  refine W.eq (g2 := F0 m 25 ls []) rfl ?_
  refine lv_aload_n hx hb gX11_fill_1.2.2.2.1 rfl (lv_at hl 0 rfl) ?_
  refine th_getK hC cf_X11 hB.1 h0 ro_42 rfl (j := 11) (by decide) mm6 kf_X11_79 gX11_fill_1.2.2.2.2.1 ?_
  refine lv_iconst (v := 1) hx hb gX11_fill_1.2.2.2.2.2.1 (by decide) ?_
  refine W.count (fun hc1 hc2 => ?_)
  refine th_call (th_runV (As := [.int 1]) (rest := []) hC mf_X7_number km_X11_259 im_X7_number se_X7_number (c_X7_number l G Γ H22 hB.1 hR hU b1 hb1 1 ⟨_, z22_0, hb5⟩ ⟨_, z22_1, hb3⟩ hP8 u0 mu8) rfl rfl ⟨Nat.le_of_ble_eq_true rfl, Nat.le_of_ble_eq_true rfl⟩ hB.1 hb1 ro_27 rfl rfl hl.1 rfl (Nat.le_of_ble_eq_true rfl) gX11_fill_1.2.2.2.2.2.2.1 ⟨by dsimp only; omega, by dsimp only; omega⟩) hB.2.1 (fun v30 H30 locs hp hz hS => ?_)
  obtain ⟨x9, rfl, hI1, hf, hR, ⟨u30, hu30, ka30, kb30, kc30, kd30⟩⟩ := hp
  have hB := th_B_c hB hI1 hS hf (by decide)
  have mm10 := (th_F_o hf h0 ro_42 (j := 11) (by decide) (by decide)).trans mm6
  have mm11 := (th_F_o hf h0 ro_42 (j := 0) (by decide) (by decide)).trans mm7
  have mm12 := (th_F_o hf hb1 ro_27 (j := 7) (by decide) (by decide)).trans z22_0
  have mm13 := (th_F_o hf hb1 ro_27 (j := 8) (by decide) (by decide)).trans z22_1
  have ku30 : th_pc u30 ≤ th_pc u0 ∧ th_pq u30 ≤ th_pq u0 := by omega
  refine W.tight (k := th_pc u0 - th_pc u30) (n := th_pq u0 - th_pq u30) (by omega) (by omega) ?_
  refine W.eq (g2 := F0 m 33 ls [.int x9]) rfl ?_
  refine tr_if_ne (tgt := 38) hx hb gX11_fill_1.2.2.2.2.2.2.2 (by decide) (Eq.refl _) (fun c33 => ?_) (fun c33 => ?_)
  · refine lv_iload_n hx hb gX11_fill_2.2.2.1 rfl (lv_at hl 1 rfl) ?_
    refine lv_iconst (v := (-1)) hx hb gX11_fill_2.2.2.2.1 (by decide) ?_
    refine tr_icmp_ne (tgt := 53) hx hb gX11_fill_2.2.2.2.2.1 (by decide) (Eq.refl _) tk_m1 (fun c40 => ?_) (fun c40 => ?_)
    · refine lv_aload_n hx hb gX11_fill_3.2.1 rfl (lv_at hl 0 rfl) ?_
      refine th_getK hC cf_X11 hB.1 h0 ro_42 rfl (j := 11) (by decide) mm10 kf_X11_79 gX11_fill_3.2.2.1 ?_
      refine lv_iload_n hx hb gX11_fill_3.2.2.2.1 rfl (lv_at hl 1 rfl) ?_
      refine th_call (th_runV (As := [.int p1]) (rest := []) hC mf_X7_rowCarpet km_X11_265 im_X7_rowCarpet se_X7_rowCarpet (c_X7_rowCarpet l G Γ H30 hB.1 hU b1 hb1 p1) rfl rfl ⟨Nat.le_of_ble_eq_true rfl, Nat.le_of_ble_eq_true rfl⟩ hB.1 hb1 ro_27 rfl rfl hl.1 rfl (Nat.le_of_ble_eq_true rfl) gX11_fill_3.2.2.2.2.1 ⟨by dsimp only; omega, by dsimp only; omega⟩) hB.2.1 (fun v58 H58 locs hp hz hS => ?_)
      obtain ⟨x14, rfl, q58_0, rfl⟩ := hp
      have hB := th_B_s hB hS
      refine W.eq (g2 := F0 m 61 ls [.int x14]) rfl ?_
      refine W.count (fun hc1 hc2 => ?_)
      rw [hH] at hc1 hc2
      refine W.widen (k := th_pc u0) (n := th_pq u0) (Nat.sub_le _ _) (Nat.sub_le _ _) ?_
      exact th_iret hC hH hr hlocks rfl hB.2.1 ⟨_, rfl, hB.1, hB.2.2, hR, ⟨u30, hu30, ku30.1, ku30.2, by omega, by omega⟩⟩ gX11_fill_3.2.2.2.2.2
    · refine lv_aload_n hx hb gX11_fill_2.2.2.2.2.2.1 rfl (lv_at hl 0 rfl) ?_
      refine th_getK hC cf_X11 hB.1 h0 ro_42 rfl (j := 11) (by decide) mm10 kf_X11_79 gX11_fill_2.2.2.2.2.2.2.1 ?_
      refine th_call (th_runV (As := []) (rest := []) hC mf_X7_rowLength km_X11_262 im_X7_rowLength se_X7_rowLength (c_X7_rowLength l G Γ H30 hB.1 hU b1 hb1) rfl rfl ⟨Nat.le_of_ble_eq_true rfl, Nat.le_of_ble_eq_true rfl⟩ hB.1 hb1 ro_27 rfl rfl hl.1 rfl (Nat.le_of_ble_eq_true rfl) gX11_fill_2.2.2.2.2.2.2.2 ⟨by dsimp only; omega, by dsimp only; omega⟩) hB.2.1 (fun v47 H47 locs hp hz hS => ?_)
      obtain ⟨x15, rfl, q47_0, rfl⟩ := hp
      have hB := th_B_s hB hS
      refine W.eq (g2 := F0 m 50 ls [.int x15]) rfl ?_
      refine lv_goto (tgt := 61) hx hb gX11_fill_3.1 (by decide) ?_
      refine W.count (fun hc1 hc2 => ?_)
      rw [hH] at hc1 hc2
      refine W.widen (k := th_pc u0) (n := th_pq u0) (Nat.sub_le _ _) (Nat.sub_le _ _) ?_
      exact th_iret hC hH hr hlocks rfl hB.2.1 ⟨_, rfl, hB.1, hB.2.2, hR, ⟨u30, hu30, ku30.1, ku30.2, by omega, by omega⟩⟩ gX11_fill_3.2.2.2.2.2
  · refine lv_iconst (v := (-1)) hx hb gX11_fill_2.1 (by decide) ?_
    refine W.count (fun hc1 hc2 => ?_)
    rw [hH] at hc1 hc2
    refine W.widen (k := th_pc u0) (n := th_pq u0) (Nat.sub_le _ _) (Nat.sub_le _ _) ?_
    exact th_iret hC hH hr hlocks rfl hB.2.1 ⟨_, rfl, hB.1, hB.2.2, hR, ⟨u30, hu30, ku30.1, ku30.2, by omega, by omega⟩⟩ gX11_fill_2.2.1

set_option maxHeartbeats 4000000 in
set_option maxRecDepth 100000 in
theorem c_X11_ways (l : Launch) (G : th_G) (Γ : th_Ga) (H0 : Heap) (hI : th_I G Γ H0) (hR : th_RC G Γ H0) (hU : dv_U Γ) (a0 : Nat) (h0 : Γ a0 = (42, 0)) (hP8 : ∀ x y : Int, th_pm G x y) (u0 : Nat) (hu0 : th_bits G Γ H0 u0) : Met l yX11_ways (.code yX11_ways cX11_ways 1 (some FieldType.int) :: th_tb) ({ frames := 16, cells := (th_pc u0), slots := (th_pq u0), locals := 451 } : Room) (th_P [.ref a0] G H0) (th_Q (fun (v : Option Value) (H1 : Heap) => ∃ r : Int32, v = some (.int r) ∧ th_I G Γ H1 ∧ th_F G Γ [(24, 0), (23, 3), (26, 0), (25, 0), (28, 0), (29, 0), (12, 0), (12, 1), (12, 2), (12, 3), (12, 4), (12, 5), (12, 6), (31, 0), (27, 5), (27, 6), (27, 7), (27, 8), (27, 9), (27, 10), (27, 11), (27, 12), (27, 13), (10, 0)] H0 H1 ∧ th_RC G Γ H1 ∧ th_bp G Γ H0 H1 u0) G) (th_pc u0) (th_pq u0) (fun q => G.1.2.2 ≤ q) := by
  refine th_met RX11 (by decide) rfl (Nat.le_of_ble_eq_true rfl) ?_
  intro p e s m below meth c hC hH hr hlocks hnm ls hl
  have hx := hC.1
  have hb := hC.2.1
  have hB : th_B G Γ Γ [(24, 0), (23, 3), (26, 0), (25, 0), (28, 0), (29, 0), (12, 0), (12, 1), (12, 2), (12, 3), (12, 4), (12, 5), (12, 6), (31, 0), (27, 5), (27, 6), (27, 7), (27, 8), (27, 9), (27, 10), (27, 11), (27, 12), (27, 13), (10, 0)] H0 H0 [] := ⟨hI, va_S.rf, th_F_rf⟩
  have hl : lv_has ls 1 [(0, .ref a0)] := hl
  have ku0 : th_pc u0 ≤ th_pc u0 ∧ th_pq u0 ≤ th_pq u0 := ⟨Nat.le_refl _, Nat.le_refl _⟩
  refine W.widen (k := th_pc u0 - th_pc u0) (n := th_pq u0 - th_pq u0) (Nat.zero_le _) (Nat.zero_le _) ?_
  refine lv_aload_n hx hb gX11_ways_0.1 rfl (lv_at hl 0 rfl) ?_
  refine th_getR (j := 11) (r2 := 27) hC cf_X11 hB.1 h0 ro_42 rfl rfl kf_X11_79 gX11_ways_0.2.1 (fun b1 mb1 hb1 => ?_)
  refine lv_aload_n hx hb gX11_ways_0.2.2.1 rfl (lv_at hl 0 rfl) ?_
  refine th_getR (j := 0) (r2 := 32) hC cf_X11 hB.1 h0 ro_42 rfl rfl kf_X11_12 gX11_ways_0.2.2.2.1 (fun b2 mb2 hb2 => ?_)
  refine th_getR (j := 0) (r2 := 3) hC cf_X8 hB.1 hb2 ro_32 rfl rfl kf_X11_107 gX11_ways_0.2.2.2.2.1 (fun b3 mb3 hb3 => ?_)
  refine lv_aload_n hx hb gX11_ways_0.2.2.2.2.2.1 rfl (lv_at hl 0 rfl) ?_
  refine th_getK hC cf_X11 hB.1 h0 ro_42 rfl (j := 0) (by decide) mb2 kf_X11_12 gX11_ways_0.2.2.2.2.2.2.1 ?_
  refine th_call (th_runV (As := []) (rest := [.ref b3, .ref b1]) hC mf_X8_forcedLaw km_X11_143 im_X8_forcedLaw se_X8_forcedLaw (c_X8_forcedLaw l G Γ H0 hB.1 hU b2 hb2) rfl rfl ⟨Nat.le_of_ble_eq_true rfl, Nat.le_of_ble_eq_true rfl⟩ hB.1 hb2 ro_32 rfl rfl hl.1 rfl (Nat.le_of_ble_eq_true rfl) gX11_ways_0.2.2.2.2.2.2.2 ⟨by dsimp only; omega, by dsimp only; omega⟩) hB.2.1 (fun v15 H15 locs hp hz hS => ?_)
  obtain ⟨v4, rfl, hv4, q15_0, rfl⟩ := hp
  have hB := th_B_s hB hS
  refine W.eq (g2 := F0 m 18 ls [v4, .ref b3, .ref b1]) rfl ?_
  refine lv_aload_n hx hb gX11_ways_1.1 rfl (lv_at hl 0 rfl) ?_
  refine th_getR (j := 9) (r2 := 11) hC cf_X11 hB.1 h0 ro_42 rfl rfl kf_X11_65 gX11_ways_1.2.1 (fun b5 mb5 hb5 => ?_)
  refine th_call (th_runV (As := [.ref b3, v4, .ref b5]) (rest := []) hC mf_X7_prepare km_X11_255 im_X7_prepare se_X7_prepare (c_X7_prepare l G Γ H0 hB.1 hR hU b1 hb1 b3 hb3 v4 hv4 b5 hb5) rfl rfl ⟨Nat.le_of_ble_eq_true rfl, Nat.le_of_ble_eq_true rfl⟩ hB.1 hb1 ro_27 rfl rfl hl.1 rfl (Nat.le_of_ble_eq_true rfl) gX11_ways_1.2.2.1 ⟨by dsimp only; omega, by dsimp only; omega⟩) hB.2.1 (fun v22 H22 locs hp hz hS => ?_)
  obtain ⟨rfl, hI1, hf, hR, z22_0, z22_1, z22_2⟩ := hp
  have hB := th_B_c hB hI1 hS hf (by decide)
  have mm6 := (th_F_o hf h0 ro_42 (j := 11) (by decide) (by decide)).trans mb1
  have mm7 := (th_F_o hf h0 ro_42 (j := 0) (by decide) (by decide)).trans mb2
  have mu8 := th_bits_F hf hu0 (by decide)
  refine W.eq (g2 := F0 m 25 ls []) rfl ?_
  refine lv_aload_n hx hb gX11_ways_1.2.2.2.1 rfl (lv_at hl 0 rfl) ?_
  refine th_getK hC cf_X11 hB.1 h0 ro_42 rfl (j := 11) (by decide) mm6 kf_X11_79 gX11_ways_1.2.2.2.2.1 ?_
  refine lv_ldcw (v := 1000000000) hx hb hC.2.2.2.1 (hC.2.2.2.2.1 _ kw_999) gX11_ways_1.2.2.2.2.2.1 ?_
  refine W.count (fun hc1 hc2 => ?_)
  refine th_call (th_runV (As := [.int 1000000000]) (rest := []) hC mf_X7_number km_X11_259 im_X7_number se_X7_number (c_X7_number l G Γ H22 hB.1 hR hU b1 hb1 1000000000 ⟨_, z22_0, hb5⟩ ⟨_, z22_1, hb3⟩ hP8 u0 mu8) rfl rfl ⟨Nat.le_of_ble_eq_true rfl, Nat.le_of_ble_eq_true rfl⟩ hB.1 hb1 ro_27 rfl rfl hl.1 rfl (Nat.le_of_ble_eq_true rfl) gX11_ways_1.2.2.2.2.2.2.1 ⟨by dsimp only; omega, by dsimp only; omega⟩) hB.2.1 (fun v32 H32 locs hp hz hS => ?_)
  obtain ⟨x9, rfl, hI1, hf, hR, ⟨u32, hu32, ka32, kb32, kc32, kd32⟩⟩ := hp
  have hB := th_B_c hB hI1 hS hf (by decide)
  have mm10 := (th_F_o hf h0 ro_42 (j := 11) (by decide) (by decide)).trans mm6
  have mm11 := (th_F_o hf h0 ro_42 (j := 0) (by decide) (by decide)).trans mm7
  have mm12 := (th_F_o hf hb1 ro_27 (j := 7) (by decide) (by decide)).trans z22_0
  have mm13 := (th_F_o hf hb1 ro_27 (j := 8) (by decide) (by decide)).trans z22_1
  have ku32 : th_pc u32 ≤ th_pc u0 ∧ th_pq u32 ≤ th_pq u0 := by omega
  refine W.tight (k := th_pc u0 - th_pc u32) (n := th_pq u0 - th_pq u32) (by omega) (by omega) ?_
  refine W.eq (g2 := F0 m 35 ls [.int x9]) rfl ?_
  refine W.count (fun hc1 hc2 => ?_)
  rw [hH] at hc1 hc2
  refine W.widen (k := th_pc u0) (n := th_pq u0) (Nat.sub_le _ _) (Nat.sub_le _ _) ?_
  exact th_iret hC hH hr hlocks rfl hB.2.1 ⟨_, rfl, hB.1, hB.2.2, hR, ⟨u32, hu32, ku32.1, ku32.2, by omega, by omega⟩⟩ gX11_ways_1.2.2.2.2.2.2.2

set_option maxHeartbeats 4000000 in
set_option maxRecDepth 100000 in
theorem c_X11_cheapest (l : Launch) (G : th_G) (Γ : th_Ga) (H0 : Heap) (hI : th_I G Γ H0) (hR : th_RC G Γ H0) (hU : dv_U Γ) (a0 : Nat) (h0 : Γ a0 = (42, 0)) (hP8 : ∀ x y : Int, th_pm G x y) (u0 : Nat) (hu0 : th_bits G Γ H0 u0) : Met l yX11_cheapest (.code yX11_cheapest cX11_cheapest 1 (some FieldType.int) :: th_tb) ({ frames := 16, cells := (th_pc u0), slots := (th_pq u0), locals := 450 } : Room) (th_P [.ref a0] G H0) (th_Q (fun (v : Option Value) (H1 : Heap) => ∃ r : Int32, v = some (.int r) ∧ th_I G Γ H1 ∧ th_F G Γ [(24, 0), (23, 3), (26, 0), (25, 0), (28, 0), (29, 0), (12, 0), (12, 1), (12, 2), (12, 3), (12, 4), (12, 5), (12, 6), (31, 0), (27, 5), (27, 6), (27, 7), (27, 8), (27, 9), (27, 10), (27, 11), (27, 12), (27, 13), (10, 0)] H0 H1 ∧ th_RC G Γ H1 ∧ th_bp G Γ H0 H1 u0) G) (th_pc u0) (th_pq u0) (fun q => G.1.2.2 ≤ q) := by
  refine th_met RX11 (by decide) rfl (Nat.le_of_ble_eq_true rfl) ?_
  intro p e s m below meth c hC hH hr hlocks hnm ls hl
  have hx := hC.1
  have hb := hC.2.1
  have hB : th_B G Γ Γ [(24, 0), (23, 3), (26, 0), (25, 0), (28, 0), (29, 0), (12, 0), (12, 1), (12, 2), (12, 3), (12, 4), (12, 5), (12, 6), (31, 0), (27, 5), (27, 6), (27, 7), (27, 8), (27, 9), (27, 10), (27, 11), (27, 12), (27, 13), (10, 0)] H0 H0 [] := ⟨hI, va_S.rf, th_F_rf⟩
  have hl : lv_has ls 1 [(0, .ref a0)] := hl
  have ku0 : th_pc u0 ≤ th_pc u0 ∧ th_pq u0 ≤ th_pq u0 := ⟨Nat.le_refl _, Nat.le_refl _⟩
  refine W.widen (k := th_pc u0 - th_pc u0) (n := th_pq u0 - th_pq u0) (Nat.zero_le _) (Nat.zero_le _) ?_
  refine lv_aload_n hx hb gX11_cheapest_0.1 rfl (lv_at hl 0 rfl) ?_
  refine th_getR (j := 11) (r2 := 27) hC cf_X11 hB.1 h0 ro_42 rfl rfl kf_X11_79 gX11_cheapest_0.2.1 (fun b1 mb1 hb1 => ?_)
  refine lv_aload_n hx hb gX11_cheapest_0.2.2.1 rfl (lv_at hl 0 rfl) ?_
  refine th_getR (j := 0) (r2 := 32) hC cf_X11 hB.1 h0 ro_42 rfl rfl kf_X11_12 gX11_cheapest_0.2.2.2.1 (fun b2 mb2 hb2 => ?_)
  refine th_getR (j := 0) (r2 := 3) hC cf_X8 hB.1 hb2 ro_32 rfl rfl kf_X11_107 gX11_cheapest_0.2.2.2.2.1 (fun b3 mb3 hb3 => ?_)
  refine lv_aload_n hx hb gX11_cheapest_0.2.2.2.2.2.1 rfl (lv_at hl 0 rfl) ?_
  refine th_getK hC cf_X11 hB.1 h0 ro_42 rfl (j := 0) (by decide) mb2 kf_X11_12 gX11_cheapest_0.2.2.2.2.2.2.1 ?_
  refine th_call (th_runV (As := []) (rest := [.ref b3, .ref b1]) hC mf_X8_forcedLaw km_X11_143 im_X8_forcedLaw se_X8_forcedLaw (c_X8_forcedLaw l G Γ H0 hB.1 hU b2 hb2) rfl rfl ⟨Nat.le_of_ble_eq_true rfl, Nat.le_of_ble_eq_true rfl⟩ hB.1 hb2 ro_32 rfl rfl hl.1 rfl (Nat.le_of_ble_eq_true rfl) gX11_cheapest_0.2.2.2.2.2.2.2 ⟨by dsimp only; omega, by dsimp only; omega⟩) hB.2.1 (fun v15 H15 locs hp hz hS => ?_)
  obtain ⟨v4, rfl, hv4, q15_0, rfl⟩ := hp
  have hB := th_B_s hB hS
  refine W.eq (g2 := F0 m 18 ls [v4, .ref b3, .ref b1]) rfl ?_
  refine lv_aload_n hx hb gX11_cheapest_1.1 rfl (lv_at hl 0 rfl) ?_
  refine th_getR (j := 9) (r2 := 11) hC cf_X11 hB.1 h0 ro_42 rfl rfl kf_X11_65 gX11_cheapest_1.2.1 (fun b5 mb5 hb5 => ?_)
  refine th_call (th_runV (As := [.ref b3, v4, .ref b5]) (rest := []) hC mf_X7_prepare km_X11_255 im_X7_prepare se_X7_prepare (c_X7_prepare l G Γ H0 hB.1 hR hU b1 hb1 b3 hb3 v4 hv4 b5 hb5) rfl rfl ⟨Nat.le_of_ble_eq_true rfl, Nat.le_of_ble_eq_true rfl⟩ hB.1 hb1 ro_27 rfl rfl hl.1 rfl (Nat.le_of_ble_eq_true rfl) gX11_cheapest_1.2.2.1 ⟨by dsimp only; omega, by dsimp only; omega⟩) hB.2.1 (fun v22 H22 locs hp hz hS => ?_)
  obtain ⟨rfl, hI1, hf, hR, z22_0, z22_1, z22_2⟩ := hp
  have hB := th_B_c hB hI1 hS hf (by decide)
  have mm6 := (th_F_o hf h0 ro_42 (j := 11) (by decide) (by decide)).trans mb1
  have mm7 := (th_F_o hf h0 ro_42 (j := 0) (by decide) (by decide)).trans mb2
  have mu8 := th_bits_F hf hu0 (by decide)
  refine W.eq (g2 := F0 m 25 ls []) rfl ?_
  refine lv_aload_n hx hb gX11_cheapest_1.2.2.2.1 rfl (lv_at hl 0 rfl) ?_
  refine th_getK hC cf_X11 hB.1 h0 ro_42 rfl (j := 11) (by decide) mm6 kf_X11_79 gX11_cheapest_1.2.2.2.2.1 ?_
  refine W.count (fun hc1 hc2 => ?_)
  refine th_call (th_runV (As := []) (rest := []) hC mf_X7_leastCost km_X11_269 im_X7_leastCost se_X7_leastCost (c_X7_leastCost l G Γ H22 hB.1 hR hU b1 hb1 ⟨_, z22_0, hb5⟩ ⟨_, z22_1, hb3⟩ hP8 u0 mu8) rfl rfl ⟨Nat.le_of_ble_eq_true rfl, Nat.le_of_ble_eq_true rfl⟩ hB.1 hb1 ro_27 rfl rfl hl.1 rfl (Nat.le_of_ble_eq_true rfl) gX11_cheapest_1.2.2.2.2.2.1 ⟨by dsimp only; omega, by dsimp only; omega⟩) hB.2.1 (fun v29 H29 locs hp hz hS => ?_)
  obtain ⟨x9, rfl, hI1, hf, hR, ⟨u29, hu29, ka29, kb29, kc29, kd29⟩⟩ := hp
  have hB := th_B_c hB hI1 hS hf (by decide)
  have mm10 := (th_F_o hf h0 ro_42 (j := 11) (by decide) (by decide)).trans mm6
  have mm11 := (th_F_o hf h0 ro_42 (j := 0) (by decide) (by decide)).trans mm7
  have mm12 := (th_F_o hf hb1 ro_27 (j := 7) (by decide) (by decide)).trans z22_0
  have mm13 := (th_F_o hf hb1 ro_27 (j := 8) (by decide) (by decide)).trans z22_1
  have ku29 : th_pc u29 ≤ th_pc u0 ∧ th_pq u29 ≤ th_pq u0 := by omega
  refine W.tight (k := th_pc u0 - th_pc u29) (n := th_pq u0 - th_pq u29) (by omega) (by omega) ?_
  refine W.eq (g2 := F0 m 32 ls [.int x9]) rfl ?_
  refine W.count (fun hc1 hc2 => ?_)
  rw [hH] at hc1 hc2
  refine W.widen (k := th_pc u0) (n := th_pq u0) (Nat.sub_le _ _) (Nat.sub_le _ _) ?_
  exact th_iret hC hH hr hlocks rfl hB.2.1 ⟨_, rfl, hB.1, hB.2.2, hR, ⟨u29, hu29, ku29.1, ku29.2, by omega, by omega⟩⟩ gX11_cheapest_1.2.2.2.2.2.2

set_option maxHeartbeats 4000000 in
set_option maxRecDepth 100000 in
theorem c_X11_halls (l : Launch) (G : th_G) (Γ : th_Ga) (H0 : Heap) (hI : th_I G Γ H0) (hR : th_RC G Γ H0) (hU : dv_U Γ) (a0 : Nat) (h0 : Γ a0 = (42, 0)) (p1 : Int32) (hP8 : ∀ x y : Int, th_pm G x y) (u0 : Nat) (hu0 : th_bits G Γ H0 u0) : Met l yX11_halls (.code yX11_halls cX11_halls 6 (some FieldType.int) :: th_tb) ({ frames := 16, cells := (th_pc u0), slots := (th_pq u0), locals := 451 } : Room) (th_P [.ref a0, .int p1] G H0) (th_Q (fun (v : Option Value) (H1 : Heap) => ∃ r : Int32, v = some (.int r) ∧ th_I G Γ H1 ∧ th_F G Γ [(24, 0), (23, 3), (26, 0), (25, 0), (28, 0), (29, 0), (12, 0), (12, 1), (12, 2), (12, 3), (12, 4), (12, 5), (12, 6), (31, 0), (27, 5), (27, 6), (27, 7), (27, 8), (27, 9), (27, 10), (27, 11), (27, 12), (27, 13), (10, 0), (4, 0), (5, 0), (6, 0), (9, 0), (3, 7), (3, 8), (3, 9), (3, 10), (7, 0), (8, 0)] H0 H1 ∧ th_RC G Γ H1 ∧ th_bp G Γ H0 H1 u0) G) (th_pc u0) (th_pq u0) (fun q => G.1.2.2 ≤ q) := by
  refine th_met RX11 (by decide) rfl (Nat.le_of_ble_eq_true rfl) ?_
  intro p e s m below meth c hC hH hr hlocks hnm ls hl
  have hx := hC.1
  have hb := hC.2.1
  have hB : th_B G Γ Γ [(24, 0), (23, 3), (26, 0), (25, 0), (28, 0), (29, 0), (12, 0), (12, 1), (12, 2), (12, 3), (12, 4), (12, 5), (12, 6), (31, 0), (27, 5), (27, 6), (27, 7), (27, 8), (27, 9), (27, 10), (27, 11), (27, 12), (27, 13), (10, 0), (4, 0), (5, 0), (6, 0), (9, 0), (3, 7), (3, 8), (3, 9), (3, 10), (7, 0), (8, 0)] H0 H0 [] := ⟨hI, va_S.rf, th_F_rf⟩
  have hl : lv_has ls 6 [(0, .ref a0), (1, .int p1)] := hl
  have lp1 := ti_lo p1; have up1 := ti_hi p1
  have ku0 : th_pc u0 ≤ th_pc u0 ∧ th_pq u0 ≤ th_pq u0 := ⟨Nat.le_refl _, Nat.le_refl _⟩
  refine W.widen (k := th_pc u0 - th_pc u0) (n := th_pq u0 - th_pq u0) (Nat.zero_le _) (Nat.zero_le _) ?_
  refine lv_iload_n hx hb gX11_halls_0.1 rfl (lv_at hl 1 rfl) ?_
  refine lv_iconst (v := (-1)) hx hb gX11_halls_0.2.1 (by decide) ?_
  refine tr_icmp_ge (tgt := 7) hx hb gX11_halls_0.2.2.1 (by decide) (Eq.refl _) tk_m1 (fun c2 => ?_) (fun c2 => ?_)
  · refine lv_aload_n hx hb gX11_halls_0.2.2.2.2.2.1 rfl (lv_at hl 0 rfl) ?_
    refine th_getR (j := 0) (r2 := 32) hC cf_X11 hB.1 h0 ro_42 rfl rfl kf_X11_12 gX11_halls_0.2.2.2.2.2.2.1 (fun b1 mb1 hb1 => ?_)
    refine th_getR (j := 0) (r2 := 3) hC cf_X8 hB.1 hb1 ro_32 rfl rfl kf_X11_107 gX11_halls_0.2.2.2.2.2.2.2 (fun b2 mb2 hb2 => ?_)
    refine th_call (th_runV (As := []) (rest := []) hC mf_X1_areaWithoutRags km_X11_272 im_X1_areaWithoutRags se_X1_areaWithoutRags (c_X1_areaWithoutRags l G Γ H0 hB.1 hU b2 hb2) rfl rfl ⟨Nat.le_of_ble_eq_true rfl, Nat.le_of_ble_eq_true rfl⟩ hB.1 hb2 ro_3 rfl rfl hl.1 rfl (Nat.le_of_ble_eq_true rfl) gX11_halls_1.1 ⟨by dsimp only; omega, by dsimp only; omega⟩) hB.2.1 (fun v14 H14 locs hp hz hS => ?_)
    obtain ⟨x3, rfl, q14_0, rfl⟩ := hp
    have hB := th_B_s hB hS
    refine W.eq (g2 := F0 m 17 ls [.int x3]) rfl ?_
    refine lv_istore_n (lv' := [(2, .int x3), (0, .ref a0), (1, .int p1)]) hx hb gX11_halls_1.2.1 rfl hl (by decide) rfl (fun ls hl => ?_)
    refine lv_iconst (v := 0) hx hb gX11_halls_1.2.2.1 (by decide) ?_
    refine lv_istore_n (lv' := [(3, .int 0), (2, .int x3), (0, .ref a0), (1, .int p1)]) hx hb gX11_halls_1.2.2.2.1 rfl hl (by decide) rfl (fun ls hl => ?_)
    refine lv_iconst (v := 1) hx hb gX11_halls_1.2.2.2.2.1 (by decide) ?_
    refine lv_istore (lv' := [(4, .int 1), (3, .int 0), (2, .int x3), (0, .ref a0), (1, .int p1)]) hx hb gX11_halls_1.2.2.2.2.2.1 hl (by decide) rfl (fun ls hl => ?_)
    have lp23 : ∀ (n23 : Nat) (H23 : Heap) (u23 : Nat) (locs : List Loc) (ls : Array Slot) (j23_3 : Int32) (j23_4 : Int32), th_B G Γ Γ [(24, 0), (23, 3), (26, 0), (25, 0), (28, 0), (29, 0), (12, 0), (12, 1), (12, 2), (12, 3), (12, 4), (12, 5), (12, 6), (31, 0), (27, 5), (27, 6), (27, 7), (27, 8), (27, 9), (27, 10), (27, 11), (27, 12), (27, 13), (10, 0), (4, 0), (5, 0), (6, 0), (9, 0), (3, 7), (3, 8), (3, 9), (3, 10), (7, 0), (8, 0)] H0 H23 locs → th_RC G Γ H23 → lv_has ls 6 [(2, .int x3), (0, .ref a0), (1, .int p1), (3, .int j23_3), (4, .int j23_4)] → 1 ≤ j23_4.toInt → j23_4.toInt ≤ 15 → th_bits G Γ H23 u23 → (th_pc u23 ≤ th_pc u0 ∧ th_pq u23 ≤ th_pq u0) → (2147483648 : Int) - j23_4.toInt ≤ (n23 : Int) → W p l e ({ frames := 16, cells := (th_pc u0), slots := (th_pq u0), locals := 451 } : Room) s m ([.ref a0, .int p1] : List Value).toArray below meth c H23 locs (th_pc u0 - th_pc u23) (th_pq u0 - th_pq u23) (MQ below (th_Q (fun (v : Option Value) (H1 : Heap) => ∃ r : Int32, v = some (.int r) ∧ th_I G Γ H1 ∧ th_F G Γ [(24, 0), (23, 3), (26, 0), (25, 0), (28, 0), (29, 0), (12, 0), (12, 1), (12, 2), (12, 3), (12, 4), (12, 5), (12, 6), (31, 0), (27, 5), (27, 6), (27, 7), (27, 8), (27, 9), (27, 10), (27, 11), (27, 12), (27, 13), (10, 0), (4, 0), (5, 0), (6, 0), (9, 0), (3, 7), (3, 8), (3, 9), (3, 10), (7, 0), (8, 0)] H0 H1 ∧ th_RC G Γ H1 ∧ th_bp G Γ H0 H1 u0) G) ([.ref a0, .int p1] : List Value).toArray s (th_pc u0) (th_pq u0) (fun q => G.1.2.2 ≤ q)) (F0 m 23 ls []) := by
      intro n23
      induction n23 with
      | zero => intro H23 u23 locs ls j23_3 j23_4 hB hR hl g23_0 g23_1 g23_2 g23_3 hm23; exact absurd hm23 (by have := ti_hi j23_4; omega)
      | succ n23 ih23 =>
        intro H23 u23 locs ls j23_3 j23_4 hB hR hl g23_0 g23_1 g23_2 g23_3 hm23
        have lj23_3 := ti_lo j23_3; have uj23_3 := ti_hi j23_3
        have lj23_4 := ti_lo j23_4; have uj23_4 := ti_hi j23_4
        have mm4 := (th_F_o hB.2.2 h0 ro_42 (j := 0) (by decide) (by decide)).trans mb1
        have mm5 := (th_F_o hB.2.2 hb1 ro_32 (j := 0) (by decide) (by decide)).trans mb2
        have hm23 : (2147483648 : Int) - j23_4.toInt ≤ (n23 : Int) + 1 := by omega
        refine lv_iload hx hb gX11_halls_1.2.2.2.2.2.2.1 (lv_at hl 4 rfl) ?_
        refine lv_bipush (v := 12) hx hb gX11_halls_1.2.2.2.2.2.2.2 (by decide) ?_
        have jn143 : ∀ (locs : List Loc) (ls : Array Slot) , th_B G Γ Γ [(24, 0), (23, 3), (26, 0), (25, 0), (28, 0), (29, 0), (12, 0), (12, 1), (12, 2), (12, 3), (12, 4), (12, 5), (12, 6), (31, 0), (27, 5), (27, 6), (27, 7), (27, 8), (27, 9), (27, 10), (27, 11), (27, 12), (27, 13), (10, 0), (4, 0), (5, 0), (6, 0), (9, 0), (3, 7), (3, 8), (3, 9), (3, 10), (7, 0), (8, 0)] H0 H23 locs → lv_has ls 6 [(1, .int p1), (3, .int j23_3)] → W p l e ({ frames := 16, cells := (th_pc u0), slots := (th_pq u0), locals := 451 } : Room) s m ([.ref a0, .int p1] : List Value).toArray below meth c H23 locs (th_pc u0 - th_pc u23) (th_pq u0 - th_pq u23) (MQ below (th_Q (fun (v : Option Value) (H1 : Heap) => ∃ r : Int32, v = some (.int r) ∧ th_I G Γ H1 ∧ th_F G Γ [(24, 0), (23, 3), (26, 0), (25, 0), (28, 0), (29, 0), (12, 0), (12, 1), (12, 2), (12, 3), (12, 4), (12, 5), (12, 6), (31, 0), (27, 5), (27, 6), (27, 7), (27, 8), (27, 9), (27, 10), (27, 11), (27, 12), (27, 13), (10, 0), (4, 0), (5, 0), (6, 0), (9, 0), (3, 7), (3, 8), (3, 9), (3, 10), (7, 0), (8, 0)] H0 H1 ∧ th_RC G Γ H1 ∧ th_bp G Γ H0 H1 u0) G) ([.ref a0, .int p1] : List Value).toArray s (th_pc u0) (th_pq u0) (fun q => G.1.2.2 ≤ q)) (F0 m 143 ls []) := by
          intro locs ls hB hl
          refine lv_iload_n hx hb gX11_halls_8.2.2.2.2.2.2.2 rfl (lv_at hl 0 rfl) ?_
          refine lv_iconst (v := (-1)) hx hb gX11_halls_9.1 (by decide) ?_
          refine tr_icmp_ne (tgt := 152) hx hb gX11_halls_9.2.1 (by decide) (Eq.refl _) tk_m1 (fun c145 => ?_) (fun c145 => ?_)
          · refine lv_iconst (v := (-1)) hx hb gX11_halls_9.2.2.2.2.1 (by decide) ?_
            refine W.count (fun hc1 hc2 => ?_)
            rw [hH] at hc1 hc2
            refine W.widen (k := th_pc u0) (n := th_pq u0) (Nat.sub_le _ _) (Nat.sub_le _ _) ?_
            exact th_iret hC hH hr hlocks rfl hB.2.1 ⟨_, rfl, hB.1, hB.2.2, hR, ⟨u23, g23_2, g23_3.1, g23_3.2, by omega, by omega⟩⟩ gX11_halls_9.2.2.2.2.2
          · refine lv_iload_n hx hb gX11_halls_9.2.2.1 rfl (lv_at hl 1 rfl) ?_
            refine lv_goto (tgt := 153) hx hb gX11_halls_9.2.2.2.1 (by decide) ?_
            refine W.count (fun hc1 hc2 => ?_)
            rw [hH] at hc1 hc2
            refine W.widen (k := th_pc u0) (n := th_pq u0) (Nat.sub_le _ _) (Nat.sub_le _ _) ?_
            exact th_iret hC hH hr hlocks rfl hB.2.1 ⟨_, rfl, hB.1, hB.2.2, hR, ⟨u23, g23_2, g23_3.1, g23_3.2, by omega, by omega⟩⟩ gX11_halls_9.2.2.2.2.2
        refine tr_icmp_gt (tgt := 143) hx hb gX11_halls_2.1 (by decide) (Eq.refl _) tk_12 (fun c27 => ?_) (fun c27 => ?_)
        · exact jn143 locs ls hB (lv_sub hl [2, 3] rfl)
        · refine lv_iload_n hx hb gX11_halls_2.2.1 rfl (lv_at hl 0 rfl) ?_
          refine tr_if_le (tgt := 143) hx hb gX11_halls_2.2.2.1 (by decide) (Eq.refl _) (fun c31 => ?_) (fun c31 => ?_)
          · exact jn143 locs ls hB (lv_sub hl [2, 3] rfl)
          · refine lv_iload_n hx hb gX11_halls_2.2.2.2.1 rfl (lv_at hl 0 rfl) ?_
            refine lv_iload hx hb gX11_halls_2.2.2.2.2.1 (lv_at hl 4 rfl) ?_
            refine tr_idiv hx hb gX11_halls_2.2.2.2.2.2.1 (Eq.refl _) (Eq.refl _) (by omega) (by omega) (fun x6 ex6 => ?_)
            have fx6 := ti_divb (a := x3.toInt) (b := j23_4.toInt) (by omega) (by omega)
            rw [← ex6] at fx6
            refine lv_istore (lv' := [(5, .int x6), (2, .int x3), (0, .ref a0), (1, .int p1), (3, .int j23_3), (4, .int j23_4)]) hx hb gX11_halls_2.2.2.2.2.2.2.1 hl (by decide) rfl (fun ls hl => ?_)
            refine lv_iload hx hb gX11_halls_2.2.2.2.2.2.2.2 (lv_at hl 0 rfl) ?_
            refine lv_bipush (v := 12) hx hb gX11_halls_3.1 (by decide) ?_
            have jn137 : ∀ (H137 : Heap) (u137 : Nat) (locs : List Loc) (ls : Array Slot) (j137_3 : Int32), th_B G Γ Γ [(24, 0), (23, 3), (26, 0), (25, 0), (28, 0), (29, 0), (12, 0), (12, 1), (12, 2), (12, 3), (12, 4), (12, 5), (12, 6), (31, 0), (27, 5), (27, 6), (27, 7), (27, 8), (27, 9), (27, 10), (27, 11), (27, 12), (27, 13), (10, 0), (4, 0), (5, 0), (6, 0), (9, 0), (3, 7), (3, 8), (3, 9), (3, 10), (7, 0), (8, 0)] H0 H137 locs → th_RC G Γ H137 → lv_has ls 6 [(2, .int x3), (0, .ref a0), (1, .int p1), (4, .int j23_4), (3, .int j137_3)] → th_bits G Γ H137 u137 → (th_pc u137 ≤ th_pc u0 ∧ th_pq u137 ≤ th_pq u0) → W p l e ({ frames := 16, cells := (th_pc u0), slots := (th_pq u0), locals := 451 } : Room) s m ([.ref a0, .int p1] : List Value).toArray below meth c H137 locs (th_pc u0 - th_pc u137) (th_pq u0 - th_pq u137) (MQ below (th_Q (fun (v : Option Value) (H1 : Heap) => ∃ r : Int32, v = some (.int r) ∧ th_I G Γ H1 ∧ th_F G Γ [(24, 0), (23, 3), (26, 0), (25, 0), (28, 0), (29, 0), (12, 0), (12, 1), (12, 2), (12, 3), (12, 4), (12, 5), (12, 6), (31, 0), (27, 5), (27, 6), (27, 7), (27, 8), (27, 9), (27, 10), (27, 11), (27, 12), (27, 13), (10, 0), (4, 0), (5, 0), (6, 0), (9, 0), (3, 7), (3, 8), (3, 9), (3, 10), (7, 0), (8, 0)] H0 H1 ∧ th_RC G Γ H1 ∧ th_bp G Γ H0 H1 u0) G) ([.ref a0, .int p1] : List Value).toArray s (th_pc u0) (th_pq u0) (fun q => G.1.2.2 ≤ q)) (F0 m 137 ls []) := by
              intro H137 u137 locs ls j137_3 hB hR hl g137_0 g137_1
              have lj137_3 := ti_lo j137_3; have uj137_3 := ti_hi j137_3
              have mm7 := (th_F_o hB.2.2 h0 ro_42 (j := 0) (by decide) (by decide)).trans mb1
              have mm8 := (th_F_o hB.2.2 hb1 ro_32 (j := 0) (by decide) (by decide)).trans mb2
              refine tr_iinc (fun x9 => [(4, .int x9), (2, .int x3), (0, .ref a0), (1, .int p1), (3, .int j137_3)]) hx hb gX11_halls_8.2.2.2.2.2.1 hl (k := 3) rfl (Eq.refl _) tk_1 (by omega) (by omega) (by decide) (fun _ => rfl) (fun x9 ls ex9 hl => ?_)
              refine lv_goto (tgt := 23) hx hb gX11_halls_8.2.2.2.2.2.2.1 (by decide) ?_
              exact ih23 H137 u137 locs ls j137_3 x9 hB hR (lv_sub hl [1, 2, 3, 4, 0] rfl) (by omega) (by omega) g137_0 g137_1 (by omega)
            refine tr_icmp_gt (tgt := 137) hx hb gX11_halls_3.2.1 (by decide) (Eq.refl _) tk_12 (fun c44 => ?_) (fun c44 => ?_)
            · exact jn137 H23 u23 locs ls j23_3 hB hR (lv_sub hl [1, 2, 3, 5, 4] rfl) g23_2 g23_3
            · refine lv_iload hx hb gX11_halls_3.2.2.1 (lv_at hl 0 rfl) ?_
              refine lv_iload hx hb gX11_halls_3.2.2.2.1 (lv_at hl 5 rfl) ?_
              have q11 := ti_mulr (a := x6.toInt) (b := j23_4.toInt) (A := 12) (B := 12) (by omega) (by omega) (by omega) (by omega)
              generalize hex10 : x6.toInt * j23_4.toInt = wx10 at q11
              refine tr_imul hx hb gX11_halls_3.2.2.2.2.1 (Eq.refl _) (Eq.refl _) (by rw [hex10]; omega) (by rw [hex10]; omega) (fun x10 ex10 => ?_)
              rw [hex10] at ex10
              refine lv_iload_n hx hb gX11_halls_3.2.2.2.2.2.1 rfl (lv_at hl 1 rfl) ?_
              refine tr_icmp_eq (tgt := 59) hx hb gX11_halls_3.2.2.2.2.2.2.1 (by decide) (Eq.refl _) (Eq.refl _) (fun c53 => ?_) (fun c53 => ?_)
              · refine lv_aload_n hx hb gX11_halls_4.1 rfl (lv_at hl 2 rfl) ?_
                have f59 : 1 ≤ x6.toInt := by
                  rcases Int.lt_or_le 0 x6.toInt with h9 | h9
                  · omega
                  · have h8 : x6.toInt = 0 := by omega
                    rw [h8, Int.zero_mul] at hex10
                    omega
                refine th_getR (j := 4) (r2 := 3) hC cf_X11 hB.1 h0 ro_42 rfl rfl kf_X11_31 gX11_halls_4.2.1 (fun b12 mb12 hb12 => ?_)
                have sb12 := (th_F_o hB.2.2 h0 ro_42 (j := 4) (by decide) (by decide)).symm.trans mb12
                refine lv_aload_n hx hb gX11_halls_4.2.2.1 rfl (lv_at hl 2 rfl) ?_
                refine th_getK hC cf_X11 hB.1 h0 ro_42 rfl (j := 0) (by decide) mm4 kf_X11_12 gX11_halls_4.2.2.2.1 ?_
                refine th_getK hC cf_X8 hB.1 hb1 ro_32 rfl (j := 0) (by decide) mm5 kf_X11_107 gX11_halls_4.2.2.2.2.1 ?_
                refine th_call (th_runV (As := [.ref b2]) (rest := []) hC mf_X1_copyFrom km_X11_275 im_X1_copyFrom se_X1_copyFrom (c_X1_copyFrom l G Γ H23 hB.1 hR hU b12 hb12 b2 hb2) rfl rfl ⟨Nat.le_of_ble_eq_true rfl, Nat.le_of_ble_eq_true rfl⟩ hB.1 hb12 ro_3 rfl rfl hl.1 rfl (Nat.le_of_ble_eq_true rfl) gX11_halls_4.2.2.2.2.2.1 ⟨by dsimp only; omega, by dsimp only; omega⟩) hB.2.1 (fun v70 H70 locs hp hz hS => ?_)
                obtain ⟨rfl, hI1, hf, hR, z70_0⟩ := hp
                have hB := th_B_c hB hI1 hS hf (by decide)
                have mm13 := (th_F_o hf h0 ro_42 (j := 0) (by decide) (by decide)).trans mm4
                have mm14 := (th_F_o hf hb1 ro_32 (j := 0) (by decide) (by decide)).trans mm5
                have mm15 := (th_F_o hf h0 ro_42 (j := 4) (by decide) (by decide)).trans mb12
                have mu16 := th_bits_F hf g23_2 (by decide)
                refine W.eq (g2 := F0 m 73 ls []) rfl ?_
                refine lv_aload_n hx hb gX11_halls_4.2.2.2.2.2.2.1 rfl (lv_at hl 2 rfl) ?_
                refine th_getK hC cf_X11 hB.1 h0 ro_42 rfl (j := 4) (by decide) mm15 kf_X11_31 gX11_halls_4.2.2.2.2.2.2.2 ?_
                refine lv_iload hx hb gX11_halls_5.1 (lv_at hl 5 rfl) ?_
                refine lv_iload hx hb gX11_halls_5.2.1 (lv_at hl 0 rfl) ?_
                refine th_call (th_runV (As := [.int j23_4, .int x6]) (rest := []) hC mf_X1_emptyInto km_X11_278 im_X1_emptyInto se_X1_emptyInto (c_X1_emptyInto l G Γ H70 hB.1 hR hU b12 hb12 j23_4 (by omega) (by omega) x6 (by omega) (by omega)) rfl rfl ⟨Nat.le_of_ble_eq_true rfl, Nat.le_of_ble_eq_true rfl⟩ hB.1 hb12 ro_3 rfl rfl hl.1 rfl (Nat.le_of_ble_eq_true rfl) gX11_halls_5.2.2.1 ⟨by dsimp only; omega, by dsimp only; omega⟩) hB.2.1 (fun v81 H81 locs hp hz hS => ?_)
                obtain ⟨rfl, hI1, hf, hR, z81_0⟩ := hp
                have hB := th_B_c hB hI1 hS hf (by decide)
                have mm17 := (th_F_o hf h0 ro_42 (j := 0) (by decide) (by decide)).trans mm13
                have mm18 := (th_F_o hf hb1 ro_32 (j := 0) (by decide) (by decide)).trans mm14
                have mm19 := (th_F_o hf h0 ro_42 (j := 4) (by decide) (by decide)).trans mm15
                have mu20 := th_bits_F hf mu16 (by decide)
                refine W.eq (g2 := F0 m 84 ls []) rfl ?_
                refine lv_aload_n hx hb gX11_halls_5.2.2.2.1 rfl (lv_at hl 2 rfl) ?_
                refine th_getR (j := 11) (r2 := 27) hC cf_X11 hB.1 h0 ro_42 rfl rfl kf_X11_79 gX11_halls_5.2.2.2.2.1 (fun b21 mb21 hb21 => ?_)
                have sb21 := (th_F_o hB.2.2 h0 ro_42 (j := 11) (by decide) (by decide)).symm.trans mb21
                refine lv_aload_n hx hb gX11_halls_5.2.2.2.2.2.1 rfl (lv_at hl 2 rfl) ?_
                refine th_getK hC cf_X11 hB.1 h0 ro_42 rfl (j := 4) (by decide) mm19 kf_X11_31 gX11_halls_5.2.2.2.2.2.2.1 ?_
                refine lv_aload_n hx hb gX11_halls_5.2.2.2.2.2.2.2 rfl (lv_at hl 2 rfl) ?_
                refine th_getK hC cf_X11 hB.1 h0 ro_42 rfl (j := 0) (by decide) mm17 kf_X11_12 gX11_halls_6.1 ?_
                refine th_call (th_runV (As := []) (rest := [.ref b12, .ref b21]) hC mf_X8_forcedLaw km_X11_143 im_X8_forcedLaw se_X8_forcedLaw (c_X8_forcedLaw l G Γ H81 hB.1 hU b1 hb1) rfl rfl ⟨Nat.le_of_ble_eq_true rfl, Nat.le_of_ble_eq_true rfl⟩ hB.1 hb1 ro_32 rfl rfl hl.1 rfl (Nat.le_of_ble_eq_true rfl) gX11_halls_6.2.1 ⟨by dsimp only; omega, by dsimp only; omega⟩) hB.2.1 (fun v96 H96 locs hp hz hS => ?_)
                obtain ⟨v22, rfl, hv22, q96_0, rfl⟩ := hp
                have hB := th_B_s hB hS
                refine W.eq (g2 := F0 m 99 ls [v22, .ref b12, .ref b21]) rfl ?_
                refine lv_aload_n hx hb gX11_halls_6.2.2.1 rfl (lv_at hl 2 rfl) ?_
                refine th_getR (j := 9) (r2 := 11) hC cf_X11 hB.1 h0 ro_42 rfl rfl kf_X11_65 gX11_halls_6.2.2.2.1 (fun b23 mb23 hb23 => ?_)
                have sb23 := (th_F_o hB.2.2 h0 ro_42 (j := 9) (by decide) (by decide)).symm.trans mb23
                refine th_call (th_runV (As := [.ref b12, v22, .ref b23]) (rest := []) hC mf_X7_prepare km_X11_255 im_X7_prepare se_X7_prepare (c_X7_prepare l G Γ H81 hB.1 hR hU b21 hb21 b12 hb12 v22 hv22 b23 hb23) rfl rfl ⟨Nat.le_of_ble_eq_true rfl, Nat.le_of_ble_eq_true rfl⟩ hB.1 hb21 ro_27 rfl rfl hl.1 rfl (Nat.le_of_ble_eq_true rfl) gX11_halls_6.2.2.2.2.1 ⟨by dsimp only; omega, by dsimp only; omega⟩) hB.2.1 (fun v103 H103 locs hp hz hS => ?_)
                obtain ⟨rfl, hI1, hf, hR, z103_0, z103_1, z103_2⟩ := hp
                have hB := th_B_c hB hI1 hS hf (by decide)
                have mm24 := (th_F_o hf h0 ro_42 (j := 0) (by decide) (by decide)).trans mm17
                have mm25 := (th_F_o hf hb1 ro_32 (j := 0) (by decide) (by decide)).trans mm18
                have mm26 := (th_F_o hf h0 ro_42 (j := 4) (by decide) (by decide)).trans mm19
                have mm27 := (th_F_o hf h0 ro_42 (j := 11) (by decide) (by decide)).trans mb21
                have mm28 := (th_F_o hf h0 ro_42 (j := 9) (by decide) (by decide)).trans mb23
                have mu29 := th_bits_F hf mu20 (by decide)
                refine W.eq (g2 := F0 m 106 ls []) rfl ?_
                refine lv_aload_n hx hb gX11_halls_6.2.2.2.2.2.1 rfl (lv_at hl 2 rfl) ?_
                refine th_getK hC cf_X11 hB.1 h0 ro_42 rfl (j := 11) (by decide) mm27 kf_X11_79 gX11_halls_6.2.2.2.2.2.2.1 ?_
                refine lv_iconst (v := 1) hx hb gX11_halls_6.2.2.2.2.2.2.2 (by decide) ?_
                refine W.count (fun hc1 hc2 => ?_)
                refine th_call (th_runV (As := [.int 1]) (rest := []) hC mf_X7_number km_X11_259 im_X7_number se_X7_number (c_X7_number l G Γ H103 hB.1 hR hU b21 hb21 1 ⟨_, z103_0, hb23⟩ ⟨_, z103_1, hb12⟩ hP8 u23 mu29) rfl rfl ⟨Nat.le_of_ble_eq_true rfl, Nat.le_of_ble_eq_true rfl⟩ hB.1 hb21 ro_27 rfl rfl hl.1 rfl (Nat.le_of_ble_eq_true rfl) gX11_halls_7.1 ⟨by dsimp only; omega, by dsimp only; omega⟩) hB.2.1 (fun v111 H111 locs hp hz hS => ?_)
                obtain ⟨x30, rfl, hI1, hf, hR, ⟨u111, hu111, ka111, kb111, kc111, kd111⟩⟩ := hp
                have hB := th_B_c hB hI1 hS hf (by decide)
                have mm31 := (th_F_o hf h0 ro_42 (j := 0) (by decide) (by decide)).trans mm24
                have mm32 := (th_F_o hf hb1 ro_32 (j := 0) (by decide) (by decide)).trans mm25
                have mm33 := (th_F_o hf h0 ro_42 (j := 4) (by decide) (by decide)).trans mm26
                have mm34 := (th_F_o hf h0 ro_42 (j := 11) (by decide) (by decide)).trans mm27
                have mm35 := (th_F_o hf h0 ro_42 (j := 9) (by decide) (by decide)).trans mm28
                have mm36 := (th_F_o hf hb21 ro_27 (j := 7) (by decide) (by decide)).trans z103_0
                have mm37 := (th_F_o hf hb21 ro_27 (j := 8) (by decide) (by decide)).trans z103_1
                have ku111 : th_pc u111 ≤ th_pc u0 ∧ th_pq u111 ≤ th_pq u0 := by omega
                refine W.tight (k := th_pc u0 - th_pc u111) (n := th_pq u0 - th_pq u111) (by omega) (by omega) ?_
                refine W.eq (g2 := F0 m 114 ls [.int x30]) rfl ?_
                refine tr_if_ne (tgt := 120) hx hb gX11_halls_7.2.1 (by decide) (Eq.refl _) (fun c114 => ?_) (fun c114 => ?_)
                · refine lv_iload_n hx hb gX11_halls_7.2.2.2.1 rfl (lv_at hl 4 rfl) ?_
                  refine lv_iload_n hx hb gX11_halls_7.2.2.2.2.1 rfl (lv_at hl 3 rfl) ?_
                  refine tr_icmp_ne (tgt := 134) hx hb gX11_halls_7.2.2.2.2.2.1 (by decide) (Eq.refl _) (Eq.refl _) (fun c122 => ?_) (fun c122 => ?_)
                  · refine tr_iincA (fun x38 => [(3, .int x38), (5, .int x6), (2, .int x3), (0, .ref a0), (1, .int p1), (4, .int j23_4)]) hx hb gX11_halls_8.2.2.2.2.1 hl (k := 4) rfl (by decide) (fun _ => rfl) (fun x38 ls hl => ?_)
                    have lx38 := ti_lo x38; have ux38 := ti_hi x38
                    exact jn137 H111 u111 locs ls x38 hB hR (lv_sub hl [2, 3, 4, 5, 0] rfl) hu111 ku111
                  · refine lv_bipush (v := 100) hx hb gX11_halls_7.2.2.2.2.2.2.1 (by decide) ?_
                    refine lv_iload hx hb gX11_halls_7.2.2.2.2.2.2.2 (lv_at hl 5 rfl) ?_
                    refine tr_imul hx hb gX11_halls_8.1 tk_100 (Eq.refl _) (by omega) (by omega) (fun x39 ex39 => ?_)
                    refine lv_iload hx hb gX11_halls_8.2.1 (lv_at hl 0 rfl) ?_
                    refine tr_iadd hx hb gX11_halls_8.2.2.1 (Eq.refl _) (Eq.refl _) (by omega) (by omega) (fun x40 ex40 => ?_)
                    refine W.count (fun hc1 hc2 => ?_)
                    rw [hH] at hc1 hc2
                    refine W.widen (k := th_pc u0) (n := th_pq u0) (Nat.sub_le _ _) (Nat.sub_le _ _) ?_
                    exact th_iret hC hH hr hlocks rfl hB.2.1 ⟨_, rfl, hB.1, hB.2.2, hR, ⟨u111, hu111, ku111.1, ku111.2, by omega, by omega⟩⟩ gX11_halls_8.2.2.2.1
                · refine lv_goto (tgt := 137) hx hb gX11_halls_7.2.2.1 (by decide) ?_
                  exact jn137 H111 u111 locs ls j23_3 hB hR (lv_sub hl [1, 2, 3, 5, 4] rfl) hu111 ku111
              · refine lv_goto (tgt := 137) hx hb gX11_halls_3.2.2.2.2.2.2.2 (by decide) ?_
                exact jn137 H23 u23 locs ls j23_3 hB hR (lv_sub hl [1, 2, 3, 5, 4] rfl) g23_2 g23_3
    exact lp23 ((2147483648 : Int) - (1)).toNat H0 u0 locs ls 0 1 hB hR (lv_sub hl [2, 3, 4, 1, 0] rfl) (by decide) (by decide) hu0 ku0 (by have w0 := tk_0; have w1 := tk_1; omega)
  · refine lv_iconst (v := (-1)) hx hb gX11_halls_0.2.2.2.1 (by decide) ?_
    refine W.count (fun hc1 hc2 => ?_)
    rw [hH] at hc1 hc2
    refine W.widen (k := th_pc u0) (n := th_pq u0) (Nat.sub_le _ _) (Nat.sub_le _ _) ?_
    exact th_iret hC hH hr hlocks rfl hB.2.1 ⟨_, rfl, hB.1, hB.2.2, hR, ⟨u0, hu0, ku0.1, ku0.2, by omega, by omega⟩⟩ gX11_halls_0.2.2.2.2.1

set_option maxHeartbeats 4000000 in
set_option maxRecDepth 100000 in
theorem c_X11_free (l : Launch) (G : th_G) (Γ : th_Ga) (H0 : Heap) (hI : th_I G Γ H0) (hR : th_RC G Γ H0) (hU : dv_U Γ) (a0 : Nat) (h0 : Γ a0 = (42, 0)) (hP8 : ∀ x y : Int, th_pm G x y) (u0 : Nat) (hu0 : th_bits G Γ H0 u0) : Met l yX11_free (.code yX11_free cX11_free 3 (some FieldType.int) :: th_tb) ({ frames := 16, cells := (th_pc u0), slots := (th_pq u0), locals := 451 } : Room) (th_P [.ref a0] G H0) (th_Q (fun (v : Option Value) (H1 : Heap) => ∃ r : Int32, v = some (.int r) ∧ th_I G Γ H1 ∧ th_F G Γ [(24, 0), (23, 3), (26, 0), (25, 0), (28, 0), (29, 0), (12, 0), (12, 1), (12, 2), (12, 3), (12, 4), (12, 5), (12, 6), (31, 0), (27, 5), (27, 6), (27, 7), (27, 8), (27, 9), (27, 10), (27, 11), (27, 12), (27, 13), (10, 0), (4, 0), (5, 0), (6, 0), (9, 0), (3, 7), (3, 8), (3, 9), (3, 10), (7, 0), (8, 0)] H0 H1 ∧ th_RC G Γ H1 ∧ th_bp G Γ H0 H1 u0) G) (th_pc u0) (th_pq u0) (fun q => G.1.2.2 ≤ q) := by
  refine th_met RX11 (by decide) rfl (Nat.le_of_ble_eq_true rfl) ?_
  intro p e s m below meth c hC hH hr hlocks hnm ls hl
  have hx := hC.1
  have hb := hC.2.1
  have hB : th_B G Γ Γ [(24, 0), (23, 3), (26, 0), (25, 0), (28, 0), (29, 0), (12, 0), (12, 1), (12, 2), (12, 3), (12, 4), (12, 5), (12, 6), (31, 0), (27, 5), (27, 6), (27, 7), (27, 8), (27, 9), (27, 10), (27, 11), (27, 12), (27, 13), (10, 0), (4, 0), (5, 0), (6, 0), (9, 0), (3, 7), (3, 8), (3, 9), (3, 10), (7, 0), (8, 0)] H0 H0 [] := ⟨hI, va_S.rf, th_F_rf⟩
  have hl : lv_has ls 3 [(0, .ref a0)] := hl
  have ku0 : th_pc u0 ≤ th_pc u0 ∧ th_pq u0 ≤ th_pq u0 := ⟨Nat.le_refl _, Nat.le_refl _⟩
  refine W.widen (k := th_pc u0 - th_pc u0) (n := th_pq u0 - th_pq u0) (Nat.zero_le _) (Nat.zero_le _) ?_
  refine lv_iconst (v := 0) hx hb gX11_free_0.1 (by decide) ?_
  refine lv_istore_n (lv' := [(1, .int 0), (0, .ref a0)]) hx hb gX11_free_0.2.1 rfl hl (by decide) rfl (fun ls hl => ?_)
  refine lv_iconst (v := 0) hx hb gX11_free_0.2.2.1 (by decide) ?_
  refine lv_istore_n (lv' := [(2, .int 0), (1, .int 0), (0, .ref a0)]) hx hb gX11_free_0.2.2.2.1 rfl hl (by decide) rfl (fun ls hl => ?_)
  have lp4 : ∀ (n4 : Nat) (H4 : Heap) (u4 : Nat) (locs : List Loc) (ls : Array Slot) (j4_1 : Int32) (j4_2 : Int32), th_B G Γ Γ [(24, 0), (23, 3), (26, 0), (25, 0), (28, 0), (29, 0), (12, 0), (12, 1), (12, 2), (12, 3), (12, 4), (12, 5), (12, 6), (31, 0), (27, 5), (27, 6), (27, 7), (27, 8), (27, 9), (27, 10), (27, 11), (27, 12), (27, 13), (10, 0), (4, 0), (5, 0), (6, 0), (9, 0), (3, 7), (3, 8), (3, 9), (3, 10), (7, 0), (8, 0)] H0 H4 locs → th_RC G Γ H4 → lv_has ls 3 [(0, .ref a0), (1, .int j4_1), (2, .int j4_2)] → 0 ≤ j4_2.toInt → j4_2.toInt ≤ 9 → th_bits G Γ H4 u4 → (th_pc u4 ≤ th_pc u0 ∧ th_pq u4 ≤ th_pq u0) → (2147483648 : Int) - j4_2.toInt ≤ (n4 : Int) → W p l e ({ frames := 16, cells := (th_pc u0), slots := (th_pq u0), locals := 451 } : Room) s m ([.ref a0] : List Value).toArray below meth c H4 locs (th_pc u0 - th_pc u4) (th_pq u0 - th_pq u4) (MQ below (th_Q (fun (v : Option Value) (H1 : Heap) => ∃ r : Int32, v = some (.int r) ∧ th_I G Γ H1 ∧ th_F G Γ [(24, 0), (23, 3), (26, 0), (25, 0), (28, 0), (29, 0), (12, 0), (12, 1), (12, 2), (12, 3), (12, 4), (12, 5), (12, 6), (31, 0), (27, 5), (27, 6), (27, 7), (27, 8), (27, 9), (27, 10), (27, 11), (27, 12), (27, 13), (10, 0), (4, 0), (5, 0), (6, 0), (9, 0), (3, 7), (3, 8), (3, 9), (3, 10), (7, 0), (8, 0)] H0 H1 ∧ th_RC G Γ H1 ∧ th_bp G Γ H0 H1 u0) G) ([.ref a0] : List Value).toArray s (th_pc u0) (th_pq u0) (fun q => G.1.2.2 ≤ q)) (F0 m 4 ls []) := by
    intro n4
    induction n4 with
    | zero => intro H4 u4 locs ls j4_1 j4_2 hB hR hl g4_0 g4_1 g4_2 g4_3 hm4; exact absurd hm4 (by have := ti_hi j4_2; omega)
    | succ n4 ih4 =>
      intro H4 u4 locs ls j4_1 j4_2 hB hR hl g4_0 g4_1 g4_2 g4_3 hm4
      have lj4_1 := ti_lo j4_1; have uj4_1 := ti_hi j4_1
      have lj4_2 := ti_lo j4_2; have uj4_2 := ti_hi j4_2
      have hm4 : (2147483648 : Int) - j4_2.toInt ≤ (n4 : Int) + 1 := by omega
      refine lv_iload_n hx hb gX11_free_0.2.2.2.2.1 rfl (lv_at hl 2 rfl) ?_
      refine lv_aload_n hx hb gX11_free_0.2.2.2.2.2.1 rfl (lv_at hl 0 rfl) ?_
      refine th_getR (j := 0) (r2 := 32) hC cf_X11 hB.1 h0 ro_42 rfl rfl kf_X11_12 gX11_free_0.2.2.2.2.2.2.1 (fun b1 mb1 hb1 => ?_)
      have sb1 := (th_F_o hB.2.2 h0 ro_42 (j := 0) (by decide) (by decide)).symm.trans mb1
      refine th_getR (j := 0) (r2 := 3) hC cf_X8 hB.1 hb1 ro_32 rfl rfl kf_X11_107 gX11_free_0.2.2.2.2.2.2.2 (fun b2 mb2 hb2 => ?_)
      have sb2 := (th_F_o hB.2.2 hb1 ro_32 (j := 0) (by decide) (by decide)).symm.trans mb2
      refine th_getI (j := 7) hC cf_X1 hB.1 hb2 ro_3 rfl rfl kf_X11_298 gX11_free_1.1 (fun x3 mx3 lx3 ux3 => ?_)
      refine tr_icmp_ge (tgt := 114) hx hb gX11_free_1.2.1 (by decide) (Eq.refl _) (Eq.refl _) (fun c15 => ?_) (fun c15 => ?_)
      · refine lv_iload_n hx hb gX11_free_7.1 rfl (lv_at hl 1 rfl) ?_
        refine W.count (fun hc1 hc2 => ?_)
        rw [hH] at hc1 hc2
        refine W.widen (k := th_pc u0) (n := th_pq u0) (Nat.sub_le _ _) (Nat.sub_le _ _) ?_
        exact th_iret hC hH hr hlocks rfl hB.2.1 ⟨_, rfl, hB.1, hB.2.2, hR, ⟨u4, g4_2, g4_3.1, g4_3.2, by omega, by omega⟩⟩ gX11_free_7.2
      · refine lv_aload_n hx hb gX11_free_1.2.2.1 rfl (lv_at hl 0 rfl) ?_
        refine th_getK hC cf_X11 hB.1 h0 ro_42 rfl (j := 0) (by decide) mb1 kf_X11_12 gX11_free_1.2.2.2.1 ?_
        refine th_getK hC cf_X8 hB.1 hb1 ro_32 rfl (j := 0) (by decide) mb2 kf_X11_107 gX11_free_1.2.2.2.2.1 ?_
        refine lv_iload_n hx hb gX11_free_1.2.2.2.2.2.1 rfl (lv_at hl 2 rfl) ?_
        refine th_call (th_runV (As := [.int j4_2]) (rest := []) hC mf_X1_isLaid km_X11_140 im_X1_isLaid se_X1_isLaid (c_X1_isLaid l G Γ H4 hB.1 hU b2 hb2 j4_2) rfl rfl ⟨Nat.le_of_ble_eq_true rfl, Nat.le_of_ble_eq_true rfl⟩ hB.1 hb2 ro_3 rfl rfl hl.1 rfl (Nat.le_of_ble_eq_true rfl) gX11_free_1.2.2.2.2.2.2.1 ⟨by dsimp only; omega, by dsimp only; omega⟩) hB.2.1 (fun v26 H26 locs hp hz hS => ?_)
        obtain ⟨x4, rfl, lx4, ux4, q26_0, q26_1, q26_2, rfl⟩ := hp
        have hB := th_B_s hB hS
        refine W.eq (g2 := F0 m 29 ls [.int x4]) rfl ?_
        have jn108 : ∀ (H108 : Heap) (u108 : Nat) (locs : List Loc) (ls : Array Slot) (j108_1 : Int32), th_B G Γ Γ [(24, 0), (23, 3), (26, 0), (25, 0), (28, 0), (29, 0), (12, 0), (12, 1), (12, 2), (12, 3), (12, 4), (12, 5), (12, 6), (31, 0), (27, 5), (27, 6), (27, 7), (27, 8), (27, 9), (27, 10), (27, 11), (27, 12), (27, 13), (10, 0), (4, 0), (5, 0), (6, 0), (9, 0), (3, 7), (3, 8), (3, 9), (3, 10), (7, 0), (8, 0)] H0 H108 locs → th_RC G Γ H108 → lv_has ls 3 [(0, .ref a0), (2, .int j4_2), (1, .int j108_1)] → th_bits G Γ H108 u108 → (th_pc u108 ≤ th_pc u0 ∧ th_pq u108 ≤ th_pq u0) → W p l e ({ frames := 16, cells := (th_pc u0), slots := (th_pq u0), locals := 451 } : Room) s m ([.ref a0] : List Value).toArray below meth c H108 locs (th_pc u0 - th_pc u108) (th_pq u0 - th_pq u108) (MQ below (th_Q (fun (v : Option Value) (H1 : Heap) => ∃ r : Int32, v = some (.int r) ∧ th_I G Γ H1 ∧ th_F G Γ [(24, 0), (23, 3), (26, 0), (25, 0), (28, 0), (29, 0), (12, 0), (12, 1), (12, 2), (12, 3), (12, 4), (12, 5), (12, 6), (31, 0), (27, 5), (27, 6), (27, 7), (27, 8), (27, 9), (27, 10), (27, 11), (27, 12), (27, 13), (10, 0), (4, 0), (5, 0), (6, 0), (9, 0), (3, 7), (3, 8), (3, 9), (3, 10), (7, 0), (8, 0)] H0 H1 ∧ th_RC G Γ H1 ∧ th_bp G Γ H0 H1 u0) G) ([.ref a0] : List Value).toArray s (th_pc u0) (th_pq u0) (fun q => G.1.2.2 ≤ q)) (F0 m 108 ls []) := by
          intro H108 u108 locs ls j108_1 hB hR hl g108_0 g108_1
          have lj108_1 := ti_lo j108_1; have uj108_1 := ti_hi j108_1
          have mm5 := (th_F_o hB.2.2 h0 ro_42 (j := 0) (by decide) (by decide)).trans sb1
          have mm6 := (th_F_o hB.2.2 hb1 ro_32 (j := 0) (by decide) (by decide)).trans sb2
          refine tr_iinc (fun x7 => [(2, .int x7), (0, .ref a0), (1, .int j108_1)]) hx hb gX11_free_6.2.2.2.2.2.2.1 hl (k := 1) rfl (Eq.refl _) tk_1 (by omega) (by omega) (by decide) (fun _ => rfl) (fun x7 ls ex7 hl => ?_)
          refine lv_goto (tgt := 4) hx hb gX11_free_6.2.2.2.2.2.2.2 (by decide) ?_
          exact ih4 H108 u108 locs ls j108_1 x7 hB hR (lv_sub hl [1, 2, 0] rfl) (by omega) (by omega) g108_0 g108_1 (by omega)
        refine tr_if_ne (tgt := 35) hx hb gX11_free_1.2.2.2.2.2.2.2 (by decide) (Eq.refl _) (fun c29 => ?_) (fun c29 => ?_)
        · refine lv_aload_n hx hb gX11_free_2.2.1 rfl (lv_at hl 0 rfl) ?_
          refine th_getR (j := 4) (r2 := 3) hC cf_X11 hB.1 h0 ro_42 rfl rfl kf_X11_31 gX11_free_2.2.2.1 (fun b8 mb8 hb8 => ?_)
          have sb8 := (th_F_o hB.2.2 h0 ro_42 (j := 4) (by decide) (by decide)).symm.trans mb8
          refine lv_aload_n hx hb gX11_free_2.2.2.2.1 rfl (lv_at hl 0 rfl) ?_
          refine th_getK hC cf_X11 hB.1 h0 ro_42 rfl (j := 0) (by decide) mb1 kf_X11_12 gX11_free_2.2.2.2.2.1 ?_
          refine th_getK hC cf_X8 hB.1 hb1 ro_32 rfl (j := 0) (by decide) mb2 kf_X11_107 gX11_free_2.2.2.2.2.2.1 ?_
          refine th_call (th_runV (As := [.ref b2]) (rest := []) hC mf_X1_copyFrom km_X11_275 im_X1_copyFrom se_X1_copyFrom (c_X1_copyFrom l G Γ H4 hB.1 hR hU b8 hb8 b2 hb2) rfl rfl ⟨Nat.le_of_ble_eq_true rfl, Nat.le_of_ble_eq_true rfl⟩ hB.1 hb8 ro_3 rfl rfl hl.1 rfl (Nat.le_of_ble_eq_true rfl) gX11_free_2.2.2.2.2.2.2.1 ⟨by dsimp only; omega, by dsimp only; omega⟩) hB.2.1 (fun v46 H46 locs hp hz hS => ?_)
          obtain ⟨rfl, hI1, hf, hR, z46_0⟩ := hp
          have hB := th_B_c hB hI1 hS hf (by decide)
          have mm9 := (th_F_o hf h0 ro_42 (j := 0) (by decide) (by decide)).trans mb1
          have mm10 := (th_F_o hf hb1 ro_32 (j := 0) (by decide) (by decide)).trans mb2
          have mm11 := (th_F_o hf h0 ro_42 (j := 4) (by decide) (by decide)).trans mb8
          have mu12 := th_bits_F hf g4_2 (by decide)
          refine W.eq (g2 := F0 m 49 ls []) rfl ?_
          refine lv_aload_n hx hb gX11_free_2.2.2.2.2.2.2.2 rfl (lv_at hl 0 rfl) ?_
          refine th_getK hC cf_X11 hB.1 h0 ro_42 rfl (j := 4) (by decide) mm11 kf_X11_31 gX11_free_3.1 ?_
          refine lv_iload_n hx hb gX11_free_3.2.1 rfl (lv_at hl 2 rfl) ?_
          refine th_call (th_runV (As := [.int j4_2]) (rest := []) hC mf_X1_rollUp km_X11_301 im_X1_rollUp se_X1_rollUp (c_X1_rollUp l G Γ H46 hB.1 hR hU b8 hb8 j4_2) rfl rfl ⟨Nat.le_of_ble_eq_true rfl, Nat.le_of_ble_eq_true rfl⟩ hB.1 hb8 ro_3 rfl rfl hl.1 rfl (Nat.le_of_ble_eq_true rfl) gX11_free_3.2.2.1 ⟨by dsimp only; omega, by dsimp only; omega⟩) hB.2.1 (fun v54 H54 locs hp hz hS => ?_)
          obtain ⟨rfl, hI1, hf, hR, z54_0⟩ := hp
          have hB := th_B_c hB hI1 hS hf (by decide)
          have mm13 := (th_F_o hf h0 ro_42 (j := 0) (by decide) (by decide)).trans mm9
          have mm14 := (th_F_o hf hb1 ro_32 (j := 0) (by decide) (by decide)).trans mm10
          have mm15 := (th_F_o hf h0 ro_42 (j := 4) (by decide) (by decide)).trans mm11
          have mu16 := th_bits_F hf mu12 (by decide)
          refine W.eq (g2 := F0 m 57 ls []) rfl ?_
          refine lv_aload_n hx hb gX11_free_3.2.2.2.1 rfl (lv_at hl 0 rfl) ?_
          refine th_getR (j := 11) (r2 := 27) hC cf_X11 hB.1 h0 ro_42 rfl rfl kf_X11_79 gX11_free_3.2.2.2.2.1 (fun b17 mb17 hb17 => ?_)
          have sb17 := (th_F_o hB.2.2 h0 ro_42 (j := 11) (by decide) (by decide)).symm.trans mb17
          refine lv_aload_n hx hb gX11_free_3.2.2.2.2.2.1 rfl (lv_at hl 0 rfl) ?_
          refine th_getK hC cf_X11 hB.1 h0 ro_42 rfl (j := 4) (by decide) mm15 kf_X11_31 gX11_free_3.2.2.2.2.2.2.1 ?_
          refine lv_aload_n hx hb gX11_free_3.2.2.2.2.2.2.2 rfl (lv_at hl 0 rfl) ?_
          refine th_getK hC cf_X11 hB.1 h0 ro_42 rfl (j := 0) (by decide) mm13 kf_X11_12 gX11_free_4.1 ?_
          refine th_call (th_runV (As := []) (rest := [.ref b8, .ref b17]) hC mf_X8_forcedLaw km_X11_143 im_X8_forcedLaw se_X8_forcedLaw (c_X8_forcedLaw l G Γ H54 hB.1 hU b1 hb1) rfl rfl ⟨Nat.le_of_ble_eq_true rfl, Nat.le_of_ble_eq_true rfl⟩ hB.1 hb1 ro_32 rfl rfl hl.1 rfl (Nat.le_of_ble_eq_true rfl) gX11_free_4.2.1 ⟨by dsimp only; omega, by dsimp only; omega⟩) hB.2.1 (fun v69 H69 locs hp hz hS => ?_)
          obtain ⟨v18, rfl, hv18, q69_0, rfl⟩ := hp
          have hB := th_B_s hB hS
          refine W.eq (g2 := F0 m 72 ls [v18, .ref b8, .ref b17]) rfl ?_
          refine lv_aload_n hx hb gX11_free_4.2.2.1 rfl (lv_at hl 0 rfl) ?_
          refine th_getR (j := 9) (r2 := 11) hC cf_X11 hB.1 h0 ro_42 rfl rfl kf_X11_65 gX11_free_4.2.2.2.1 (fun b19 mb19 hb19 => ?_)
          have sb19 := (th_F_o hB.2.2 h0 ro_42 (j := 9) (by decide) (by decide)).symm.trans mb19
          refine th_call (th_runV (As := [.ref b8, v18, .ref b19]) (rest := []) hC mf_X7_prepare km_X11_255 im_X7_prepare se_X7_prepare (c_X7_prepare l G Γ H54 hB.1 hR hU b17 hb17 b8 hb8 v18 hv18 b19 hb19) rfl rfl ⟨Nat.le_of_ble_eq_true rfl, Nat.le_of_ble_eq_true rfl⟩ hB.1 hb17 ro_27 rfl rfl hl.1 rfl (Nat.le_of_ble_eq_true rfl) gX11_free_4.2.2.2.2.1 ⟨by dsimp only; omega, by dsimp only; omega⟩) hB.2.1 (fun v76 H76 locs hp hz hS => ?_)
          obtain ⟨rfl, hI1, hf, hR, z76_0, z76_1, z76_2⟩ := hp
          have hB := th_B_c hB hI1 hS hf (by decide)
          have mm20 := (th_F_o hf h0 ro_42 (j := 0) (by decide) (by decide)).trans mm13
          have mm21 := (th_F_o hf hb1 ro_32 (j := 0) (by decide) (by decide)).trans mm14
          have mm22 := (th_F_o hf h0 ro_42 (j := 4) (by decide) (by decide)).trans mm15
          have mm23 := (th_F_o hf h0 ro_42 (j := 11) (by decide) (by decide)).trans mb17
          have mm24 := (th_F_o hf h0 ro_42 (j := 9) (by decide) (by decide)).trans mb19
          have mu25 := th_bits_F hf mu16 (by decide)
          refine W.eq (g2 := F0 m 79 ls []) rfl ?_
          refine lv_aload_n hx hb gX11_free_4.2.2.2.2.2.1 rfl (lv_at hl 0 rfl) ?_
          refine th_getK hC cf_X11 hB.1 h0 ro_42 rfl (j := 11) (by decide) mm23 kf_X11_79 gX11_free_4.2.2.2.2.2.2.1 ?_
          refine lv_iconst (v := 2) hx hb gX11_free_4.2.2.2.2.2.2.2 (by decide) ?_
          refine W.count (fun hc1 hc2 => ?_)
          refine th_call (th_runV (As := [.int 2]) (rest := []) hC mf_X7_number km_X11_259 im_X7_number se_X7_number (c_X7_number l G Γ H76 hB.1 hR hU b17 hb17 2 ⟨_, z76_0, hb19⟩ ⟨_, z76_1, hb8⟩ hP8 u4 mu25) rfl rfl ⟨Nat.le_of_ble_eq_true rfl, Nat.le_of_ble_eq_true rfl⟩ hB.1 hb17 ro_27 rfl rfl hl.1 rfl (Nat.le_of_ble_eq_true rfl) gX11_free_5.1 ⟨by dsimp only; omega, by dsimp only; omega⟩) hB.2.1 (fun v84 H84 locs hp hz hS => ?_)
          obtain ⟨x26, rfl, hI1, hf, hR, ⟨u84, hu84, ka84, kb84, kc84, kd84⟩⟩ := hp
          have hB := th_B_c hB hI1 hS hf (by decide)
          have mm27 := (th_F_o hf h0 ro_42 (j := 0) (by decide) (by decide)).trans mm20
          have mm28 := (th_F_o hf hb1 ro_32 (j := 0) (by decide) (by decide)).trans mm21
          have mm29 := (th_F_o hf h0 ro_42 (j := 4) (by decide) (by decide)).trans mm22
          have mm30 := (th_F_o hf h0 ro_42 (j := 11) (by decide) (by decide)).trans mm23
          have mm31 := (th_F_o hf h0 ro_42 (j := 9) (by decide) (by decide)).trans mm24
          have mm32 := (th_F_o hf hb17 ro_27 (j := 7) (by decide) (by decide)).trans z76_0
          have mm33 := (th_F_o hf hb17 ro_27 (j := 8) (by decide) (by decide)).trans z76_1
          have ku84 : th_pc u84 ≤ th_pc u0 ∧ th_pq u84 ≤ th_pq u0 := by omega
          refine W.tight (k := th_pc u0 - th_pc u84) (n := th_pq u0 - th_pq u84) (by omega) (by omega) ?_
          refine W.eq (g2 := F0 m 87 ls [.int x26]) rfl ?_
          refine lv_iconst (v := 1) hx hb gX11_free_5.2.1 (by decide) ?_
          refine tr_icmp_ne (tgt := 108) hx hb gX11_free_5.2.2.1 (by decide) (Eq.refl _) tk_1 (fun c88 => ?_) (fun c88 => ?_)
          · exact jn108 H84 u84 locs ls j4_1 hB hR (lv_sub hl [0, 2, 1] rfl) hu84 ku84
          · refine lv_aload_n hx hb gX11_free_5.2.2.2.1 rfl (lv_at hl 0 rfl) ?_
            refine th_getK hC cf_X11 hB.1 h0 ro_42 rfl (j := 11) (by decide) mm30 kf_X11_79 gX11_free_5.2.2.2.2.1 ?_
            refine lv_iload_n hx hb gX11_free_5.2.2.2.2.2.1 rfl (lv_at hl 2 rfl) ?_
            refine th_call (th_runV (As := [.int j4_2]) (rest := []) hC mf_X7_fillsAlone km_X11_304 im_X7_fillsAlone se_X7_fillsAlone (c_X7_fillsAlone l G Γ H84 hB.1 hR hU b17 hb17 j4_2 (by omega) (by omega) ⟨_, mm32, hb19⟩ ⟨_, mm33, hb8⟩) rfl rfl ⟨Nat.le_of_ble_eq_true rfl, Nat.le_of_ble_eq_true rfl⟩ hB.1 hb17 ro_27 rfl rfl hl.1 rfl (Nat.le_of_ble_eq_true rfl) gX11_free_5.2.2.2.2.2.2.1 ⟨by dsimp only; omega, by dsimp only; omega⟩) hB.2.1 (fun v96 H96 locs hp hz hS => ?_)
            obtain ⟨x34, rfl, lx34, ux34, hI1, hf, hR, z96_0⟩ := hp
            have hB := th_B_c hB hI1 hS hf (by decide)
            have mm35 := (th_F_o hf h0 ro_42 (j := 0) (by decide) (by decide)).trans mm27
            have mm36 := (th_F_o hf hb1 ro_32 (j := 0) (by decide) (by decide)).trans mm28
            have mm37 := (th_F_o hf h0 ro_42 (j := 4) (by decide) (by decide)).trans mm29
            have mm38 := (th_F_o hf h0 ro_42 (j := 11) (by decide) (by decide)).trans mm30
            have mm39 := (th_F_o hf h0 ro_42 (j := 9) (by decide) (by decide)).trans mm31
            have mm40 := (th_F_o hf hb17 ro_27 (j := 7) (by decide) (by decide)).trans mm32
            have mm41 := (th_F_o hf hb17 ro_27 (j := 8) (by decide) (by decide)).trans mm33
            have mu42 := th_bits_F hf hu84 (by decide)
            refine W.eq (g2 := F0 m 99 ls [.int x34]) rfl ?_
            refine tr_if_ne (tgt := 108) hx hb gX11_free_5.2.2.2.2.2.2.2 (by decide) (Eq.refl _) (fun c99 => ?_) (fun c99 => ?_)
            · exact jn108 H96 u84 locs ls j4_1 hB hR (lv_sub hl [0, 2, 1] rfl) mu42 ku84
            · refine lv_iload_n hx hb gX11_free_6.1 rfl (lv_at hl 1 rfl) ?_
              refine lv_iconst (v := 1) hx hb gX11_free_6.2.1 (by decide) ?_
              refine lv_iload_n hx hb gX11_free_6.2.2.1 rfl (lv_at hl 2 rfl) ?_
              refine lv_ishl hx hb gX11_free_6.2.2.2.1 ?_
              refine lv_topi (fun x43 ex43 => ?_)
              have lx43 := ti_lo x43; have ux43 := ti_hi x43
              refine lv_ior hx hb gX11_free_6.2.2.2.2.1 ?_
              refine lv_topi (fun x44 ex44 => ?_)
              have lx44 := ti_lo x44; have ux44 := ti_hi x44
              refine lv_istore_n (lv' := [(1, .int x44), (0, .ref a0), (2, .int j4_2)]) hx hb gX11_free_6.2.2.2.2.2.1 rfl hl (by decide) rfl (fun ls hl => ?_)
              exact jn108 H96 u84 locs ls x44 hB hR (lv_sub hl [1, 2, 0] rfl) mu42 ku84
        · refine lv_goto (tgt := 108) hx hb gX11_free_2.1 (by decide) ?_
          exact jn108 H4 u4 locs ls j4_1 hB hR (lv_sub hl [0, 2, 1] rfl) g4_2 g4_3
  exact lp4 ((2147483648 : Int) - (0)).toNat H0 u0 [] ls 0 0 hB hR (lv_sub hl [2, 1, 0] rfl) (by decide) (by decide) hu0 ku0 (by have w0 := tk_0; omega)

set_option maxHeartbeats 4000000 in
set_option maxRecDepth 100000 in
theorem c_X11_floors (l : Launch) (G : th_G) (Γ : th_Ga) (H0 : Heap) (hI : th_I G Γ H0) (hR : th_RC G Γ H0) (hU : dv_U Γ) (a0 : Nat) (h0 : Γ a0 = (42, 0)) (hP8 : ∀ x y : Int, th_pm G x y) (u0 : Nat) (hu0 : th_bits G Γ H0 u0) : Met l yX11_floors (.code yX11_floors cX11_floors 1 (some FieldType.int) :: th_tb) ({ frames := 16, cells := (th_pc u0), slots := (th_pq u0), locals := 451 } : Room) (th_P [.ref a0] G H0) (th_Q (fun (v : Option Value) (H1 : Heap) => ∃ r : Int32, v = some (.int r) ∧ th_I G Γ H1 ∧ th_F G Γ [(24, 0), (23, 3), (26, 0), (25, 0), (28, 0), (29, 0), (12, 0), (12, 1), (12, 2), (12, 3), (12, 4), (12, 5), (12, 6), (31, 0), (27, 5), (27, 6), (27, 7), (27, 8), (27, 9), (27, 10), (27, 11), (27, 12), (27, 13), (10, 0)] H0 H1 ∧ th_RC G Γ H1 ∧ th_bp G Γ H0 H1 u0) G) (th_pc u0) (th_pq u0) (fun q => G.1.2.2 ≤ q) := by
  refine th_met RX11 (by decide) rfl (Nat.le_of_ble_eq_true rfl) ?_
  intro p e s m below meth c hC hH hr hlocks hnm ls hl
  have hx := hC.1
  have hb := hC.2.1
  have hB : th_B G Γ Γ [(24, 0), (23, 3), (26, 0), (25, 0), (28, 0), (29, 0), (12, 0), (12, 1), (12, 2), (12, 3), (12, 4), (12, 5), (12, 6), (31, 0), (27, 5), (27, 6), (27, 7), (27, 8), (27, 9), (27, 10), (27, 11), (27, 12), (27, 13), (10, 0)] H0 H0 [] := ⟨hI, va_S.rf, th_F_rf⟩
  have hl : lv_has ls 1 [(0, .ref a0)] := hl
  have ku0 : th_pc u0 ≤ th_pc u0 ∧ th_pq u0 ≤ th_pq u0 := ⟨Nat.le_refl _, Nat.le_refl _⟩
  refine W.widen (k := th_pc u0 - th_pc u0) (n := th_pq u0 - th_pq u0) (Nat.zero_le _) (Nat.zero_le _) ?_
  refine lv_aload_n hx hb gX11_floors_0.1 rfl (lv_at hl 0 rfl) ?_
  refine th_getR (j := 11) (r2 := 27) hC cf_X11 hB.1 h0 ro_42 rfl rfl kf_X11_79 gX11_floors_0.2.1 (fun b1 mb1 hb1 => ?_)
  refine lv_aload_n hx hb gX11_floors_0.2.2.1 rfl (lv_at hl 0 rfl) ?_
  refine th_getR (j := 0) (r2 := 32) hC cf_X11 hB.1 h0 ro_42 rfl rfl kf_X11_12 gX11_floors_0.2.2.2.1 (fun b2 mb2 hb2 => ?_)
  refine th_getR (j := 0) (r2 := 3) hC cf_X8 hB.1 hb2 ro_32 rfl rfl kf_X11_107 gX11_floors_0.2.2.2.2.1 (fun b3 mb3 hb3 => ?_)
  refine lv_aload_n hx hb gX11_floors_0.2.2.2.2.2.1 rfl (lv_at hl 0 rfl) ?_
  refine th_getK hC cf_X11 hB.1 h0 ro_42 rfl (j := 0) (by decide) mb2 kf_X11_12 gX11_floors_0.2.2.2.2.2.2.1 ?_
  refine th_call (th_runV (As := []) (rest := [.ref b3, .ref b1]) hC mf_X8_forcedLaw km_X11_143 im_X8_forcedLaw se_X8_forcedLaw (c_X8_forcedLaw l G Γ H0 hB.1 hU b2 hb2) rfl rfl ⟨Nat.le_of_ble_eq_true rfl, Nat.le_of_ble_eq_true rfl⟩ hB.1 hb2 ro_32 rfl rfl hl.1 rfl (Nat.le_of_ble_eq_true rfl) gX11_floors_0.2.2.2.2.2.2.2 ⟨by dsimp only; omega, by dsimp only; omega⟩) hB.2.1 (fun v15 H15 locs hp hz hS => ?_)
  obtain ⟨v4, rfl, hv4, q15_0, rfl⟩ := hp
  have hB := th_B_s hB hS
  refine W.eq (g2 := F0 m 18 ls [v4, .ref b3, .ref b1]) rfl ?_
  refine lv_aload_n hx hb gX11_floors_1.1 rfl (lv_at hl 0 rfl) ?_
  refine th_getR (j := 9) (r2 := 11) hC cf_X11 hB.1 h0 ro_42 rfl rfl kf_X11_65 gX11_floors_1.2.1 (fun b5 mb5 hb5 => ?_)
  refine th_call (th_runV (As := [.ref b3, v4, .ref b5]) (rest := []) hC mf_X7_prepare km_X11_255 im_X7_prepare se_X7_prepare (c_X7_prepare l G Γ H0 hB.1 hR hU b1 hb1 b3 hb3 v4 hv4 b5 hb5) rfl rfl ⟨Nat.le_of_ble_eq_true rfl, Nat.le_of_ble_eq_true rfl⟩ hB.1 hb1 ro_27 rfl rfl hl.1 rfl (Nat.le_of_ble_eq_true rfl) gX11_floors_1.2.2.1 ⟨by dsimp only; omega, by dsimp only; omega⟩) hB.2.1 (fun v22 H22 locs hp hz hS => ?_)
  obtain ⟨rfl, hI1, hf, hR, z22_0, z22_1, z22_2⟩ := hp
  have hB := th_B_c hB hI1 hS hf (by decide)
  have mm6 := (th_F_o hf h0 ro_42 (j := 11) (by decide) (by decide)).trans mb1
  have mm7 := (th_F_o hf h0 ro_42 (j := 0) (by decide) (by decide)).trans mb2
  have mu8 := th_bits_F hf hu0 (by decide)
  refine W.eq (g2 := F0 m 25 ls []) rfl ?_
  refine lv_aload_n hx hb gX11_floors_1.2.2.2.1 rfl (lv_at hl 0 rfl) ?_
  refine th_getK hC cf_X11 hB.1 h0 ro_42 rfl (j := 11) (by decide) mm6 kf_X11_79 gX11_floors_1.2.2.2.2.1 ?_
  refine lv_aload_n hx hb gX11_floors_1.2.2.2.2.2.1 rfl (lv_at hl 0 rfl) ?_
  refine th_getK hC cf_X11 hB.1 h0 ro_42 rfl (j := 0) (by decide) mm7 kf_X11_12 gX11_floors_1.2.2.2.2.2.2.1 ?_
  refine th_call (th_runV (As := [.ref b2]) (rest := []) hC mf_X7_heed km_X11_319 im_X7_heed se_X7_heed (c_X7_heed l G Γ H22 hB.1 hR hU b1 hb1 b2 hb2 ⟨_, z22_1, hb3⟩) rfl rfl ⟨Nat.le_of_ble_eq_true rfl, Nat.le_of_ble_eq_true rfl⟩ hB.1 hb1 ro_27 rfl rfl hl.1 rfl (Nat.le_of_ble_eq_true rfl) gX11_floors_1.2.2.2.2.2.2.2 ⟨by dsimp only; omega, by dsimp only; omega⟩) hB.2.1 (fun v33 H33 locs hp hz hS => ?_)
  obtain ⟨x9, rfl, lx9, ux9, hI1, hf, hR, z33_0⟩ := hp
  have hB := th_B_c hB hI1 hS hf (by decide)
  have mm10 := (th_F_o hf h0 ro_42 (j := 11) (by decide) (by decide)).trans mm6
  have mm11 := (th_F_o hf h0 ro_42 (j := 0) (by decide) (by decide)).trans mm7
  have mm12 := (th_F_o hf hb1 ro_27 (j := 7) (by decide) (by decide)).trans z22_0
  have mm13 := (th_F_o hf hb1 ro_27 (j := 8) (by decide) (by decide)).trans z22_1
  have mu14 := th_bits_F hf mu8 (by decide)
  refine W.eq (g2 := F0 m 36 ls [.int x9]) rfl ?_
  refine tr_if_eq (tgt := 52) hx hb gX11_floors_2.1 (by decide) (Eq.refl _) (fun c36 => ?_) (fun c36 => ?_)
  · refine lv_iconst (v := 0) hx hb gX11_floors_2.2.2.2.2.2.2.1 (by decide) ?_
    refine W.count (fun hc1 hc2 => ?_)
    rw [hH] at hc1 hc2
    refine W.widen (k := th_pc u0) (n := th_pq u0) (Nat.sub_le _ _) (Nat.sub_le _ _) ?_
    exact th_iret hC hH hr hlocks rfl hB.2.1 ⟨_, rfl, hB.1, hB.2.2, hR, ⟨u0, mu14, ku0.1, ku0.2, by omega, by omega⟩⟩ gX11_floors_2.2.2.2.2.2.2.2
  · refine lv_aload_n hx hb gX11_floors_2.2.1 rfl (lv_at hl 0 rfl) ?_
    refine th_getK hC cf_X11 hB.1 h0 ro_42 rfl (j := 11) (by decide) mm10 kf_X11_79 gX11_floors_2.2.2.1 ?_
    refine lv_ldcw (v := 1000000000) hx hb hC.2.2.2.1 (hC.2.2.2.2.1 _ kw_999) gX11_floors_2.2.2.2.1 ?_
    refine W.count (fun hc1 hc2 => ?_)
    refine th_call (th_runV (As := [.int 1000000000]) (rest := []) hC mf_X7_number km_X11_259 im_X7_number se_X7_number (c_X7_number l G Γ H33 hB.1 hR hU b1 hb1 1000000000 ⟨_, mm12, hb5⟩ ⟨_, mm13, hb3⟩ hP8 u0 mu14) rfl rfl ⟨Nat.le_of_ble_eq_true rfl, Nat.le_of_ble_eq_true rfl⟩ hB.1 hb1 ro_27 rfl rfl hl.1 rfl (Nat.le_of_ble_eq_true rfl) gX11_floors_2.2.2.2.2.1 ⟨by dsimp only; omega, by dsimp only; omega⟩) hB.2.1 (fun v46 H46 locs hp hz hS => ?_)
    obtain ⟨x15, rfl, hI1, hf, hR, ⟨u46, hu46, ka46, kb46, kc46, kd46⟩⟩ := hp
    have hB := th_B_c hB hI1 hS hf (by decide)
    have mm16 := (th_F_o hf h0 ro_42 (j := 11) (by decide) (by decide)).trans mm10
    have mm17 := (th_F_o hf h0 ro_42 (j := 0) (by decide) (by decide)).trans mm11
    have mm18 := (th_F_o hf hb1 ro_27 (j := 7) (by decide) (by decide)).trans mm12
    have mm19 := (th_F_o hf hb1 ro_27 (j := 8) (by decide) (by decide)).trans mm13
    have ku46 : th_pc u46 ≤ th_pc u0 ∧ th_pq u46 ≤ th_pq u0 := by omega
    refine W.tight (k := th_pc u0 - th_pc u46) (n := th_pq u0 - th_pq u46) (by omega) (by omega) ?_
    refine W.eq (g2 := F0 m 49 ls [.int x15]) rfl ?_
    refine lv_goto (tgt := 53) hx hb gX11_floors_2.2.2.2.2.2.1 (by decide) ?_
    refine W.count (fun hc1 hc2 => ?_)
    rw [hH] at hc1 hc2
    refine W.widen (k := th_pc u0) (n := th_pq u0) (Nat.sub_le _ _) (Nat.sub_le _ _) ?_
    exact th_iret hC hH hr hlocks rfl hB.2.1 ⟨_, rfl, hB.1, hB.2.2, hR, ⟨u46, hu46, ku46.1, ku46.2, by omega, by omega⟩⟩ gX11_floors_2.2.2.2.2.2.2.2

set_option maxHeartbeats 4000000 in
set_option maxRecDepth 100000 in
theorem c_X11_look (l : Launch) (G : th_G) (Γ : th_Ga) (H0 : Heap) (hI : th_I G Γ H0) (hR : th_RC G Γ H0) (hU : dv_U Γ) (a0 : Nat) (h0 : Γ a0 = (42, 0)) (p1 : Int32) (hP8 : ∀ x y : Int, th_pm G x y) (u0 : Nat) (hu0 : th_bits G Γ H0 u0) : Met l yX11_look (.code yX11_look cX11_look 3 (some FieldType.int) :: th_tb) ({ frames := 16, cells := (th_pc u0), slots := (th_pq u0), locals := 451 } : Room) (th_P [.ref a0, .int p1] G H0) (th_Q (fun (v : Option Value) (H1 : Heap) => ∃ r : Int32, v = some (.int r) ∧ th_I G Γ H1 ∧ th_F G Γ [(24, 0), (23, 3), (26, 0), (25, 0), (28, 0), (29, 0), (12, 0), (12, 1), (12, 2), (12, 3), (12, 4), (12, 5), (12, 6), (31, 0), (27, 5), (27, 6), (27, 7), (27, 8), (27, 9), (27, 10), (27, 11), (27, 12), (27, 13), (10, 0), (30, 0)] H0 H1 ∧ th_RC G Γ H1 ∧ th_bp G Γ H0 H1 u0) G) (th_pc u0) (th_pq u0) (fun q => G.1.2.2 ≤ q) := by
  refine th_met RX11 (by decide) rfl (Nat.le_of_ble_eq_true rfl) ?_
  intro p e s m below meth c hC hH hr hlocks hnm ls hl
  have hx := hC.1
  have hb := hC.2.1
  have hB : th_B G Γ Γ [(24, 0), (23, 3), (26, 0), (25, 0), (28, 0), (29, 0), (12, 0), (12, 1), (12, 2), (12, 3), (12, 4), (12, 5), (12, 6), (31, 0), (27, 5), (27, 6), (27, 7), (27, 8), (27, 9), (27, 10), (27, 11), (27, 12), (27, 13), (10, 0), (30, 0)] H0 H0 [] := ⟨hI, va_S.rf, th_F_rf⟩
  have hl : lv_has ls 3 [(0, .ref a0), (1, .int p1)] := hl
  have lp1 := ti_lo p1; have up1 := ti_hi p1
  have ku0 : th_pc u0 ≤ th_pc u0 ∧ th_pq u0 ≤ th_pq u0 := ⟨Nat.le_refl _, Nat.le_refl _⟩
  refine W.widen (k := th_pc u0 - th_pc u0) (n := th_pq u0 - th_pq u0) (Nat.zero_le _) (Nat.zero_le _) ?_
  refine lv_iload_n hx hb gX11_look_0.1 rfl (lv_at hl 1 rfl) ?_
  refine tr_if_lt (tgt := 22) hx hb gX11_look_0.2.1 (by decide) (Eq.refl _) (fun c1 => ?_) (fun c1 => ?_)
  · refine lv_iconst (v := (-1)) hx hb gX11_look_1.2.2.1 (by decide) ?_
    refine W.count (fun hc1 hc2 => ?_)
    rw [hH] at hc1 hc2
    refine W.widen (k := th_pc u0) (n := th_pq u0) (Nat.sub_le _ _) (Nat.sub_le _ _) ?_
    exact th_iret hC hH hr hlocks rfl hB.2.1 ⟨_, rfl, hB.1, hB.2.2, hR, ⟨u0, hu0, ku0.1, ku0.2, by omega, by omega⟩⟩ gX11_look_1.2.2.2.1
  · refine lv_iload_n hx hb gX11_look_0.2.2.1 rfl (lv_at hl 1 rfl) ?_
    refine lv_iconst (v := 2) hx hb gX11_look_0.2.2.2.1 (by decide) ?_
    refine tr_icmp_gt (tgt := 22) hx hb gX11_look_0.2.2.2.2.1 (by decide) (Eq.refl _) tk_2 (fun c6 => ?_) (fun c6 => ?_)
    · refine lv_iconst (v := (-1)) hx hb gX11_look_1.2.2.1 (by decide) ?_
      refine W.count (fun hc1 hc2 => ?_)
      rw [hH] at hc1 hc2
      refine W.widen (k := th_pc u0) (n := th_pq u0) (Nat.sub_le _ _) (Nat.sub_le _ _) ?_
      exact th_iret hC hH hr hlocks rfl hB.2.1 ⟨_, rfl, hB.1, hB.2.2, hR, ⟨u0, hu0, ku0.1, ku0.2, by omega, by omega⟩⟩ gX11_look_1.2.2.2.1
    · refine lv_aload_n hx hb gX11_look_0.2.2.2.2.2.1 rfl (lv_at hl 0 rfl) ?_
      refine th_getR (j := 0) (r2 := 32) hC cf_X11 hB.1 h0 ro_42 rfl rfl kf_X11_12 gX11_look_0.2.2.2.2.2.2.1 (fun b1 mb1 hb1 => ?_)
      refine th_getR (j := 0) (r2 := 3) hC cf_X8 hB.1 hb1 ro_32 rfl rfl kf_X11_107 gX11_look_0.2.2.2.2.2.2.2 (fun b2 mb2 hb2 => ?_)
      refine th_call (th_runV (As := []) (rest := []) hC mf_X1_bareCells km_X11_249 im_X1_bareCells se_X1_bareCells (c_X1_bareCells l G Γ H0 hB.1 hU b2 hb2) rfl rfl ⟨Nat.le_of_ble_eq_true rfl, Nat.le_of_ble_eq_true rfl⟩ hB.1 hb2 ro_3 rfl rfl hl.1 rfl (Nat.le_of_ble_eq_true rfl) gX11_look_1.1 ⟨by dsimp only; omega, by dsimp only; omega⟩) hB.2.1 (fun v16 H16 locs hp hz hS => ?_)
      obtain ⟨x3, rfl, q16_0, rfl⟩ := hp
      have hB := th_B_s hB hS
      refine W.eq (g2 := F0 m 19 ls [.int x3]) rfl ?_
      refine tr_if_ne (tgt := 24) hx hb gX11_look_1.2.1 (by decide) (Eq.refl _) (fun c19 => ?_) (fun c19 => ?_)
      · refine lv_aload_n hx hb gX11_look_1.2.2.2.2.1 rfl (lv_at hl 0 rfl) ?_
        refine th_getR (j := 11) (r2 := 27) hC cf_X11 hB.1 h0 ro_42 rfl rfl kf_X11_79 gX11_look_1.2.2.2.2.2.1 (fun b4 mb4 hb4 => ?_)
        refine lv_aload_n hx hb gX11_look_1.2.2.2.2.2.2.1 rfl (lv_at hl 0 rfl) ?_
        refine th_getK hC cf_X11 hB.1 h0 ro_42 rfl (j := 0) (by decide) mb1 kf_X11_12 gX11_look_1.2.2.2.2.2.2.2 ?_
        refine th_getK hC cf_X8 hB.1 hb1 ro_32 rfl (j := 0) (by decide) mb2 kf_X11_107 gX11_look_2.1 ?_
        refine lv_aload_n hx hb gX11_look_2.2.1 rfl (lv_at hl 0 rfl) ?_
        refine th_getK hC cf_X11 hB.1 h0 ro_42 rfl (j := 0) (by decide) mb1 kf_X11_12 gX11_look_2.2.2.1 ?_
        refine th_call (th_runV (As := []) (rest := [.ref b2, .ref b4]) hC mf_X8_forcedLaw km_X11_143 im_X8_forcedLaw se_X8_forcedLaw (c_X8_forcedLaw l G Γ H0 hB.1 hU b1 hb1) rfl rfl ⟨Nat.le_of_ble_eq_true rfl, Nat.le_of_ble_eq_true rfl⟩ hB.1 hb1 ro_32 rfl rfl hl.1 rfl (Nat.le_of_ble_eq_true rfl) gX11_look_2.2.2.2.1 ⟨by dsimp only; omega, by dsimp only; omega⟩) hB.2.1 (fun v39 H39 locs hp hz hS => ?_)
        obtain ⟨v5, rfl, hv5, q39_0, rfl⟩ := hp
        have hB := th_B_s hB hS
        refine W.eq (g2 := F0 m 42 ls [v5, .ref b2, .ref b4]) rfl ?_
        refine lv_aload_n hx hb gX11_look_2.2.2.2.2.1 rfl (lv_at hl 0 rfl) ?_
        refine th_getR (j := 9) (r2 := 11) hC cf_X11 hB.1 h0 ro_42 rfl rfl kf_X11_65 gX11_look_2.2.2.2.2.2.1 (fun b6 mb6 hb6 => ?_)
        refine th_call (th_runV (As := [.ref b2, v5, .ref b6]) (rest := []) hC mf_X7_prepare km_X11_255 im_X7_prepare se_X7_prepare (c_X7_prepare l G Γ H0 hB.1 hR hU b4 hb4 b2 hb2 v5 hv5 b6 hb6) rfl rfl ⟨Nat.le_of_ble_eq_true rfl, Nat.le_of_ble_eq_true rfl⟩ hB.1 hb4 ro_27 rfl rfl hl.1 rfl (Nat.le_of_ble_eq_true rfl) gX11_look_2.2.2.2.2.2.2.1 ⟨by dsimp only; omega, by dsimp only; omega⟩) hB.2.1 (fun v46 H46 locs hp hz hS => ?_)
        obtain ⟨rfl, hI1, hf, hR, z46_0, z46_1, z46_2⟩ := hp
        have hB := th_B_c hB hI1 hS hf (by decide)
        have mm7 := (th_F_o hf h0 ro_42 (j := 0) (by decide) (by decide)).trans mb1
        have mm8 := (th_F_o hf hb1 ro_32 (j := 0) (by decide) (by decide)).trans mb2
        have mm9 := (th_F_o hf h0 ro_42 (j := 11) (by decide) (by decide)).trans mb4
        have mu10 := th_bits_F hf hu0 (by decide)
        refine W.eq (g2 := F0 m 49 ls []) rfl ?_
        refine lv_aload_n hx hb gX11_look_2.2.2.2.2.2.2.2 rfl (lv_at hl 0 rfl) ?_
        refine th_getK hC cf_X11 hB.1 h0 ro_42 rfl (j := 11) (by decide) mm9 kf_X11_79 gX11_look_3.1 ?_
        refine lv_aload_n hx hb gX11_look_3.2.1 rfl (lv_at hl 0 rfl) ?_
        refine th_getK hC cf_X11 hB.1 h0 ro_42 rfl (j := 0) (by decide) mm7 kf_X11_12 gX11_look_3.2.2.1 ?_
        refine th_call (th_runV (As := [.ref b1]) (rest := []) hC mf_X7_heed km_X11_319 im_X7_heed se_X7_heed (c_X7_heed l G Γ H46 hB.1 hR hU b4 hb4 b1 hb1 ⟨_, z46_1, hb2⟩) rfl rfl ⟨Nat.le_of_ble_eq_true rfl, Nat.le_of_ble_eq_true rfl⟩ hB.1 hb4 ro_27 rfl rfl hl.1 rfl (Nat.le_of_ble_eq_true rfl) gX11_look_3.2.2.2.1 ⟨by dsimp only; omega, by dsimp only; omega⟩) hB.2.1 (fun v57 H57 locs hp hz hS => ?_)
        obtain ⟨x11, rfl, lx11, ux11, hI1, hf, hR, z57_0⟩ := hp
        have hB := th_B_c hB hI1 hS hf (by decide)
        have mm12 := (th_F_o hf h0 ro_42 (j := 0) (by decide) (by decide)).trans mm7
        have mm13 := (th_F_o hf hb1 ro_32 (j := 0) (by decide) (by decide)).trans mm8
        have mm14 := (th_F_o hf h0 ro_42 (j := 11) (by decide) (by decide)).trans mm9
        have mm15 := (th_F_o hf hb4 ro_27 (j := 7) (by decide) (by decide)).trans z46_0
        have mm16 := (th_F_o hf hb4 ro_27 (j := 8) (by decide) (by decide)).trans z46_1
        have mu17 := th_bits_F hf mu10 (by decide)
        refine W.eq (g2 := F0 m 60 ls [.int x11]) rfl ?_
        refine tr_if_eq (tgt := 76) hx hb gX11_look_3.2.2.2.2.1 (by decide) (Eq.refl _) (fun c60 => ?_) (fun c60 => ?_)
        · refine lv_iconst (v := (-1)) hx hb gX11_look_4.2.2.1 (by decide) ?_
          refine W.count (fun hc1 hc2 => ?_)
          rw [hH] at hc1 hc2
          refine W.widen (k := th_pc u0) (n := th_pq u0) (Nat.sub_le _ _) (Nat.sub_le _ _) ?_
          exact th_iret hC hH hr hlocks rfl hB.2.1 ⟨_, rfl, hB.1, hB.2.2, hR, ⟨u0, mu17, ku0.1, ku0.2, by omega, by omega⟩⟩ gX11_look_4.2.2.2.1
        · refine lv_aload_n hx hb gX11_look_3.2.2.2.2.2.1 rfl (lv_at hl 0 rfl) ?_
          refine th_getK hC cf_X11 hB.1 h0 ro_42 rfl (j := 11) (by decide) mm14 kf_X11_79 gX11_look_3.2.2.2.2.2.2.1 ?_
          refine lv_ldcw (v := 1000000000) hx hb hC.2.2.2.1 (hC.2.2.2.2.1 _ kw_999) gX11_look_3.2.2.2.2.2.2.2 ?_
          refine W.count (fun hc1 hc2 => ?_)
          refine th_call (th_runV (As := [.int 1000000000]) (rest := []) hC mf_X7_number km_X11_259 im_X7_number se_X7_number (c_X7_number l G Γ H57 hB.1 hR hU b4 hb4 1000000000 ⟨_, mm15, hb6⟩ ⟨_, mm16, hb2⟩ hP8 u0 mu17) rfl rfl ⟨Nat.le_of_ble_eq_true rfl, Nat.le_of_ble_eq_true rfl⟩ hB.1 hb4 ro_27 rfl rfl hl.1 rfl (Nat.le_of_ble_eq_true rfl) gX11_look_4.1 ⟨by dsimp only; omega, by dsimp only; omega⟩) hB.2.1 (fun v70 H70 locs hp hz hS => ?_)
          obtain ⟨x18, rfl, hI1, hf, hR, ⟨u70, hu70, ka70, kb70, kc70, kd70⟩⟩ := hp
          have hB := th_B_c hB hI1 hS hf (by decide)
          have mm19 := (th_F_o hf h0 ro_42 (j := 0) (by decide) (by decide)).trans mm12
          have mm20 := (th_F_o hf hb1 ro_32 (j := 0) (by decide) (by decide)).trans mm13
          have mm21 := (th_F_o hf h0 ro_42 (j := 11) (by decide) (by decide)).trans mm14
          have mm22 := (th_F_o hf hb4 ro_27 (j := 7) (by decide) (by decide)).trans mm15
          have mm23 := (th_F_o hf hb4 ro_27 (j := 8) (by decide) (by decide)).trans mm16
          have ku70 : th_pc u70 ≤ th_pc u0 ∧ th_pq u70 ≤ th_pq u0 := by omega
          refine W.tight (k := th_pc u0 - th_pc u70) (n := th_pq u0 - th_pq u70) (by omega) (by omega) ?_
          refine W.eq (g2 := F0 m 73 ls [.int x18]) rfl ?_
          refine tr_if_ne (tgt := 78) hx hb gX11_look_4.2.1 (by decide) (Eq.refl _) (fun c73 => ?_) (fun c73 => ?_)
          · refine lv_aload_n hx hb gX11_look_4.2.2.2.2.1 rfl (lv_at hl 0 rfl) ?_
            refine th_getK hC cf_X11 hB.1 h0 ro_42 rfl (j := 11) (by decide) mm21 kf_X11_79 gX11_look_4.2.2.2.2.2.1 ?_
            refine th_call (th_runV (As := []) (rest := []) hC mf_X7_tallyFills km_X11_323 im_X7_tallyFills se_X7_tallyFills (c_X7_tallyFills l G Γ H70 hB.1 hR hU b4 hb4 ⟨_, mm22, hb6⟩ ⟨_, mm23, hb2⟩) rfl rfl ⟨Nat.le_of_ble_eq_true rfl, Nat.le_of_ble_eq_true rfl⟩ hB.1 hb4 ro_27 rfl rfl hl.1 rfl (Nat.le_of_ble_eq_true rfl) gX11_look_4.2.2.2.2.2.2.1 ⟨by dsimp only; omega, by dsimp only; omega⟩) hB.2.1 (fun v82 H82 locs hp hz hS => ?_)
            obtain ⟨rfl, hI1, hf, hR⟩ := hp
            have hB := th_B_c hB hI1 hS hf (by decide)
            have mm24 := (th_F_o hf h0 ro_42 (j := 0) (by decide) (by decide)).trans mm19
            have mm25 := (th_F_o hf hb1 ro_32 (j := 0) (by decide) (by decide)).trans mm20
            have mm26 := (th_F_o hf h0 ro_42 (j := 11) (by decide) (by decide)).trans mm21
            have mm27 := (th_F_o hf hb4 ro_27 (j := 7) (by decide) (by decide)).trans mm22
            have mm28 := (th_F_o hf hb4 ro_27 (j := 8) (by decide) (by decide)).trans mm23
            have mu29 := th_bits_F hf hu70 (by decide)
            refine W.eq (g2 := F0 m 85 ls []) rfl ?_
            refine lv_aload_n hx hb gX11_look_4.2.2.2.2.2.2.2 rfl (lv_at hl 0 rfl) ?_
            refine th_getK hC cf_X11 hB.1 h0 ro_42 rfl (j := 11) (by decide) mm26 kf_X11_79 gX11_look_5.1 ?_
            refine th_call (th_runV (As := []) (rest := []) hC mf_X7_bestLook km_X11_326 im_X7_bestLook se_X7_bestLook (c_X7_bestLook l G Γ H82 hB.1 hU b4 hb4 ⟨_, mm28, hb2⟩) rfl rfl ⟨Nat.le_of_ble_eq_true rfl, Nat.le_of_ble_eq_true rfl⟩ hB.1 hb4 ro_27 rfl rfl hl.1 rfl (Nat.le_of_ble_eq_true rfl) gX11_look_5.2.1 ⟨by dsimp only; omega, by dsimp only; omega⟩) hB.2.1 (fun v89 H89 locs hp hz hS => ?_)
            obtain ⟨x30, rfl, lx30, ux30, q89_0, rfl⟩ := hp
            have hB := th_B_s hB hS
            refine W.eq (g2 := F0 m 92 ls [.int x30]) rfl ?_
            refine lv_istore_n (lv' := [(2, .int x30), (0, .ref a0), (1, .int p1)]) hx hb gX11_look_5.2.2.1 rfl hl (by decide) rfl (fun ls hl => ?_)
            refine lv_iload_n hx hb gX11_look_5.2.2.2.1 rfl (lv_at hl 2 rfl) ?_
            refine tr_if_ne (tgt := 104) hx hb gX11_look_5.2.2.2.2.1 (by decide) (Eq.refl _) (fun c94 => ?_) (fun c94 => ?_)
            · refine lv_iload_n hx hb gX11_look_6.2.1 rfl (lv_at hl 2 rfl) ?_
              refine lv_iconst (v := 1) hx hb gX11_look_6.2.2.1 (by decide) ?_
              refine tr_icmp_ne (tgt := 116) hx hb gX11_look_6.2.2.2.1 (by decide) (Eq.refl _) tk_1 (fun c106 => ?_) (fun c106 => ?_)
              · refine lv_aload_n hx hb gX11_look_7.1 rfl (lv_at hl 1 rfl) ?_
                refine th_getK hC cf_X11 hB.1 h0 ro_42 rfl (j := 11) (by decide) mm26 kf_X11_79 gX11_look_7.2.1 ?_
                refine lv_iload_n hx hb gX11_look_7.2.2.1 rfl (lv_at hl 0 rfl) ?_
                refine th_call (th_runV (As := [.int x30]) (rest := []) hC mf_X7_mostAt km_X11_329 im_X7_mostAt se_X7_mostAt (c_X7_mostAt l G Γ H82 hB.1 hU b4 hb4 x30 (by omega) (by omega) ⟨_, mm28, hb2⟩) rfl rfl ⟨Nat.le_of_ble_eq_true rfl, Nat.le_of_ble_eq_true rfl⟩ hB.1 hb4 ro_27 rfl rfl hl.1 rfl (Nat.le_of_ble_eq_true rfl) gX11_look_7.2.2.2.1 ⟨by dsimp only; omega, by dsimp only; omega⟩) hB.2.1 (fun v121 H121 locs hp hz hS => ?_)
                obtain ⟨x31, rfl, q121_0, rfl⟩ := hp
                have hB := th_B_s hB hS
                refine W.eq (g2 := F0 m 124 ls [.int x31]) rfl ?_
                refine W.count (fun hc1 hc2 => ?_)
                rw [hH] at hc1 hc2
                refine W.widen (k := th_pc u0) (n := th_pq u0) (Nat.sub_le _ _) (Nat.sub_le _ _) ?_
                exact th_iret hC hH hr hlocks rfl hB.2.1 ⟨_, rfl, hB.1, hB.2.2, hR, ⟨u70, mu29, ku70.1, ku70.2, by omega, by omega⟩⟩ gX11_look_7.2.2.2.2
              · refine lv_iload_n hx hb gX11_look_6.2.2.2.2.1 rfl (lv_at hl 0 rfl) ?_
                refine lv_bipush (v := 12) hx hb gX11_look_6.2.2.2.2.2.1 (by decide) ?_
                refine lv_idiv hx hb gX11_look_6.2.2.2.2.2.2.1 (fun q => by have := congrArg Int32.toInt q; have h0 : (0 : Int32).toInt = 0 := rfl; have hy := tk_12; omega) ?_
                refine lv_topi (fun x32 ex32 => ?_)
                have lx32 := ti_lo x32; have ux32 := ti_hi x32
                refine lv_goto (tgt := 124) hx hb gX11_look_6.2.2.2.2.2.2.2 (by decide) ?_
                refine W.count (fun hc1 hc2 => ?_)
                rw [hH] at hc1 hc2
                refine W.widen (k := th_pc u0) (n := th_pq u0) (Nat.sub_le _ _) (Nat.sub_le _ _) ?_
                exact th_iret hC hH hr hlocks rfl hB.2.1 ⟨_, rfl, hB.1, hB.2.2, hR, ⟨u70, mu29, ku70.1, ku70.2, by omega, by omega⟩⟩ gX11_look_7.2.2.2.2
            · refine lv_iload_n hx hb gX11_look_5.2.2.2.2.2.1 rfl (lv_at hl 0 rfl) ?_
              refine lv_bipush (v := 12) hx hb gX11_look_5.2.2.2.2.2.2.1 (by decide) ?_
              refine lv_irem hx hb gX11_look_5.2.2.2.2.2.2.2 (fun q => by have := congrArg Int32.toInt q; have h0 : (0 : Int32).toInt = 0 := rfl; have hy := tk_12; omega) ?_
              refine lv_topi (fun x33 ex33 => ?_)
              have lx33 := ti_lo x33; have ux33 := ti_hi x33
              refine lv_goto (tgt := 124) hx hb gX11_look_6.1 (by decide) ?_
              refine W.count (fun hc1 hc2 => ?_)
              rw [hH] at hc1 hc2
              refine W.widen (k := th_pc u0) (n := th_pq u0) (Nat.sub_le _ _) (Nat.sub_le _ _) ?_
              exact th_iret hC hH hr hlocks rfl hB.2.1 ⟨_, rfl, hB.1, hB.2.2, hR, ⟨u70, mu29, ku70.1, ku70.2, by omega, by omega⟩⟩ gX11_look_7.2.2.2.2
          · refine lv_iconst (v := (-1)) hx hb gX11_look_4.2.2.1 (by decide) ?_
            refine W.count (fun hc1 hc2 => ?_)
            rw [hH] at hc1 hc2
            refine W.widen (k := th_pc u0) (n := th_pq u0) (Nat.sub_le _ _) (Nat.sub_le _ _) ?_
            exact th_iret hC hH hr hlocks rfl hB.2.1 ⟨_, rfl, hB.1, hB.2.2, hR, ⟨u70, hu70, ku70.1, ku70.2, by omega, by omega⟩⟩ gX11_look_4.2.2.2.1
      · refine lv_iconst (v := (-1)) hx hb gX11_look_1.2.2.1 (by decide) ?_
        refine W.count (fun hc1 hc2 => ?_)
        rw [hH] at hc1 hc2
        refine W.widen (k := th_pc u0) (n := th_pq u0) (Nat.sub_le _ _) (Nat.sub_le _ _) ?_
        exact th_iret hC hH hr hlocks rfl hB.2.1 ⟨_, rfl, hB.1, hB.2.2, hR, ⟨u0, hu0, ku0.1, ku0.2, by omega, by omega⟩⟩ gX11_look_1.2.2.2.1

set_option maxHeartbeats 4000000 in
set_option maxRecDepth 100000 in
theorem c_X11_compare (l : Launch) (G : th_G) (Γ : th_Ga) (H0 : Heap) (hI : th_I G Γ H0) (hR : th_RC G Γ H0) (hU : dv_U Γ) (a0 : Nat) (h0 : Γ a0 = (42, 0)) (p1 : Int32) (hP8 : ∀ x y : Int, th_pm G x y) (u0 : Nat) (hu0 : th_bits G Γ H0 u0) : Met l yX11_compare (.code yX11_compare cX11_compare 3 (some FieldType.int) :: th_tb) ({ frames := 16, cells := (th_pc u0), slots := (th_pq u0), locals := 450 } : Room) (th_P [.ref a0, .int p1] G H0) (th_Q (fun (v : Option Value) (H1 : Heap) => ∃ r : Int32, v = some (.int r) ∧ th_I G Γ H1 ∧ th_F G Γ [(24, 0), (23, 3), (26, 0), (25, 0), (28, 0), (29, 0), (12, 0), (12, 1), (12, 2), (12, 3), (12, 4), (12, 5), (12, 6), (31, 0), (27, 5), (27, 6), (27, 7), (27, 8), (27, 9), (27, 10), (27, 11), (27, 12), (27, 13), (10, 0)] H0 H1 ∧ th_RC G Γ H1 ∧ th_bp G Γ H0 H1 u0) G) (th_pc u0) (th_pq u0) (fun q => G.1.2.2 ≤ q) := by
  refine th_met RX11 (by decide) rfl (Nat.le_of_ble_eq_true rfl) ?_
  intro p e s m below meth c hC hH hr hlocks hnm ls hl
  have hx := hC.1
  have hb := hC.2.1
  have hB : th_B G Γ Γ [(24, 0), (23, 3), (26, 0), (25, 0), (28, 0), (29, 0), (12, 0), (12, 1), (12, 2), (12, 3), (12, 4), (12, 5), (12, 6), (31, 0), (27, 5), (27, 6), (27, 7), (27, 8), (27, 9), (27, 10), (27, 11), (27, 12), (27, 13), (10, 0)] H0 H0 [] := ⟨hI, va_S.rf, th_F_rf⟩
  have hl : lv_has ls 3 [(0, .ref a0), (1, .int p1)] := hl
  have lp1 := ti_lo p1; have up1 := ti_hi p1
  have ku0 : th_pc u0 ≤ th_pc u0 ∧ th_pq u0 ≤ th_pq u0 := ⟨Nat.le_refl _, Nat.le_refl _⟩
  refine W.widen (k := th_pc u0 - th_pc u0) (n := th_pq u0 - th_pq u0) (Nat.zero_le _) (Nat.zero_le _) ?_
  refine lv_aload_n hx hb gX11_compare_0.1 rfl (lv_at hl 0 rfl) ?_
  refine th_getR (j := 0) (r2 := 32) hC cf_X11 hB.1 h0 ro_42 rfl rfl kf_X11_12 gX11_compare_0.2.1 (fun b1 mb1 hb1 => ?_)
  refine lv_iload_n hx hb gX11_compare_0.2.2.1 rfl (lv_at hl 1 rfl) ?_
  refine th_call (th_runV (As := [.int p1]) (rest := []) hC mf_X8_lawOf km_X11_226 im_X8_lawOf se_X8_lawOf (c_X8_lawOf l G Γ H0 hB.1 hU b1 hb1 p1) rfl rfl ⟨Nat.le_of_ble_eq_true rfl, Nat.le_of_ble_eq_true rfl⟩ hB.1 hb1 ro_32 rfl rfl hl.1 rfl (Nat.le_of_ble_eq_true rfl) gX11_compare_0.2.2.2.1 ⟨by dsimp only; omega, by dsimp only; omega⟩) hB.2.1 (fun v5 H5 locs hp hz hS => ?_)
  obtain ⟨v2, rfl, hv2, q5_0, rfl⟩ := hp
  have hB := th_B_s hB hS
  refine W.eq (g2 := F0 m 8 ls [v2]) rfl ?_
  refine tr_vstore_n (lv' := [(2, v2), (0, .ref a0), (1, .int p1)]) hx hb gX11_compare_0.2.2.2.2.1 rfl hl (tr_qr hv2) (by decide) rfl (fun ls hl => ?_)
  refine lv_iload_n hx hb gX11_compare_0.2.2.2.2.2.1 rfl (lv_at hl 2 rfl) ?_
  refine lv_iconst (v := (-1)) hx hb gX11_compare_0.2.2.2.2.2.2.1 (by decide) ?_
  have jn20 : ∀ (locs : List Loc) (ls : Array Slot) , th_B G Γ Γ [(24, 0), (23, 3), (26, 0), (25, 0), (28, 0), (29, 0), (12, 0), (12, 1), (12, 2), (12, 3), (12, 4), (12, 5), (12, 6), (31, 0), (27, 5), (27, 6), (27, 7), (27, 8), (27, 9), (27, 10), (27, 11), (27, 12), (27, 13), (10, 0)] H0 H0 locs → lv_has ls 3 [(2, v2), (0, .ref a0)] → W p l e ({ frames := 16, cells := (th_pc u0), slots := (th_pq u0), locals := 450 } : Room) s m ([.ref a0, .int p1] : List Value).toArray below meth c H0 locs (th_pc u0 - th_pc u0) (th_pq u0 - th_pq u0) (MQ below (th_Q (fun (v : Option Value) (H1 : Heap) => ∃ r : Int32, v = some (.int r) ∧ th_I G Γ H1 ∧ th_F G Γ [(24, 0), (23, 3), (26, 0), (25, 0), (28, 0), (29, 0), (12, 0), (12, 1), (12, 2), (12, 3), (12, 4), (12, 5), (12, 6), (31, 0), (27, 5), (27, 6), (27, 7), (27, 8), (27, 9), (27, 10), (27, 11), (27, 12), (27, 13), (10, 0)] H0 H1 ∧ th_RC G Γ H1 ∧ th_bp G Γ H0 H1 u0) G) ([.ref a0, .int p1] : List Value).toArray s (th_pc u0) (th_pq u0) (fun q => G.1.2.2 ≤ q)) (F0 m 20 ls []) := by
    intro locs ls hB hl
    refine lv_aload_n hx hb gX11_compare_1.2.2.2.2.1 rfl (lv_at hl 1 rfl) ?_
    refine th_getR (j := 11) (r2 := 27) hC cf_X11 hB.1 h0 ro_42 rfl rfl kf_X11_79 gX11_compare_1.2.2.2.2.2.1 (fun b3 mb3 hb3 => ?_)
    refine lv_aload_n hx hb gX11_compare_1.2.2.2.2.2.2.1 rfl (lv_at hl 1 rfl) ?_
    refine th_getK hC cf_X11 hB.1 h0 ro_42 rfl (j := 0) (by decide) mb1 kf_X11_12 gX11_compare_1.2.2.2.2.2.2.2 ?_
    refine th_getR (j := 0) (r2 := 3) hC cf_X8 hB.1 hb1 ro_32 rfl rfl kf_X11_107 gX11_compare_2.1 (fun b4 mb4 hb4 => ?_)
    refine tr_vload_n hx hb gX11_compare_2.2.1 rfl (lv_at hl 0 rfl) (tr_qr hv2) ?_
    refine lv_aload_n hx hb gX11_compare_2.2.2.1 rfl (lv_at hl 1 rfl) ?_
    refine th_getR (j := 9) (r2 := 11) hC cf_X11 hB.1 h0 ro_42 rfl rfl kf_X11_65 gX11_compare_2.2.2.2.1 (fun b5 mb5 hb5 => ?_)
    refine th_call (th_runV (As := [.ref b4, v2, .ref b5]) (rest := []) hC mf_X7_prepare km_X11_255 im_X7_prepare se_X7_prepare (c_X7_prepare l G Γ H0 hB.1 hR hU b3 hb3 b4 hb4 v2 hv2 b5 hb5) rfl rfl ⟨Nat.le_of_ble_eq_true rfl, Nat.le_of_ble_eq_true rfl⟩ hB.1 hb3 ro_27 rfl rfl hl.1 rfl (Nat.le_of_ble_eq_true rfl) gX11_compare_2.2.2.2.2.1 ⟨by dsimp only; omega, by dsimp only; omega⟩) hB.2.1 (fun v36 H36 locs hp hz hS => ?_)
    obtain ⟨rfl, hI1, hf, hR, z36_0, z36_1, z36_2⟩ := hp
    have hB := th_B_c hB hI1 hS hf (by decide)
    have mm6 := (th_F_o hf h0 ro_42 (j := 0) (by decide) (by decide)).trans mb1
    have mm7 := (th_F_o hf h0 ro_42 (j := 11) (by decide) (by decide)).trans mb3
    have mu8 := th_bits_F hf hu0 (by decide)
    refine W.eq (g2 := F0 m 39 ls []) rfl ?_
    refine lv_aload_n hx hb gX11_compare_2.2.2.2.2.2.1 rfl (lv_at hl 1 rfl) ?_
    refine th_getK hC cf_X11 hB.1 h0 ro_42 rfl (j := 11) (by decide) mm7 kf_X11_79 gX11_compare_2.2.2.2.2.2.2.1 ?_
    refine W.count (fun hc1 hc2 => ?_)
    refine th_call (th_runV (As := []) (rest := []) hC mf_X7_leastCost km_X11_269 im_X7_leastCost se_X7_leastCost (c_X7_leastCost l G Γ H36 hB.1 hR hU b3 hb3 ⟨_, z36_0, hb5⟩ ⟨_, z36_1, hb4⟩ hP8 u0 mu8) rfl rfl ⟨Nat.le_of_ble_eq_true rfl, Nat.le_of_ble_eq_true rfl⟩ hB.1 hb3 ro_27 rfl rfl hl.1 rfl (Nat.le_of_ble_eq_true rfl) gX11_compare_2.2.2.2.2.2.2.2 ⟨by dsimp only; omega, by dsimp only; omega⟩) hB.2.1 (fun v43 H43 locs hp hz hS => ?_)
    obtain ⟨x9, rfl, hI1, hf, hR, ⟨u43, hu43, ka43, kb43, kc43, kd43⟩⟩ := hp
    have hB := th_B_c hB hI1 hS hf (by decide)
    have mm10 := (th_F_o hf h0 ro_42 (j := 0) (by decide) (by decide)).trans mm6
    have mm11 := (th_F_o hf h0 ro_42 (j := 11) (by decide) (by decide)).trans mm7
    have mm12 := (th_F_o hf hb3 ro_27 (j := 7) (by decide) (by decide)).trans z36_0
    have mm13 := (th_F_o hf hb3 ro_27 (j := 8) (by decide) (by decide)).trans z36_1
    have ku43 : th_pc u43 ≤ th_pc u0 ∧ th_pq u43 ≤ th_pq u0 := by omega
    refine W.tight (k := th_pc u0 - th_pc u43) (n := th_pq u0 - th_pq u43) (by omega) (by omega) ?_
    refine W.eq (g2 := F0 m 46 ls [.int x9]) rfl ?_
    refine W.count (fun hc1 hc2 => ?_)
    rw [hH] at hc1 hc2
    refine W.widen (k := th_pc u0) (n := th_pq u0) (Nat.sub_le _ _) (Nat.sub_le _ _) ?_
    exact th_iret hC hH hr hlocks rfl hB.2.1 ⟨_, rfl, hB.1, hB.2.2, hR, ⟨u43, hu43, ku43.1, ku43.2, by omega, by omega⟩⟩ gX11_compare_3
  refine tr_icmp_eq (tgt := 20) hx hb gX11_compare_0.2.2.2.2.2.2.2 (by decide) (Eq.refl _) tk_m1 (fun c11 => ?_) (fun c11 => ?_)
  · exact jn20 locs ls hB (lv_sub hl [0, 1] rfl)
  · refine tr_vload_n hx hb gX11_compare_1.1 rfl (lv_at hl 0 rfl) (tr_qr hv2) ?_
    rcases hv2 with rfl | ⟨b14, rfl, hb14⟩
    · refine lv_ifnonnullN hx hb gX11_compare_1.2.1 ?_
      refine lv_iconst (v := (-1)) hx hb gX11_compare_1.2.2.1 (by decide) ?_
      refine W.count (fun hc1 hc2 => ?_)
      rw [hH] at hc1 hc2
      refine W.widen (k := th_pc u0) (n := th_pq u0) (Nat.sub_le _ _) (Nat.sub_le _ _) ?_
      exact th_iret hC hH hr hlocks rfl hB.2.1 ⟨_, rfl, hB.1, hB.2.2, hR, ⟨u0, hu0, ku0.1, ku0.2, by omega, by omega⟩⟩ gX11_compare_1.2.2.2.1
    · refine lv_ifnonnull (tgt := 20) hx hb gX11_compare_1.2.1 (by decide) ?_
      exact jn20 locs ls hB (lv_sub hl [0, 1] rfl)
end
section
set_option maxHeartbeats 4000000 in
set_option maxRecDepth 100000 in
theorem c_X5_isLetter (l : Launch) (G : th_G) (Γ : th_Ga) (H0 : Heap) (hI : th_I G Γ H0) (hU : dv_U Γ) (p1 : Int32) : Met l yX5_isLetter (.code yX5_isLetter cX5_isLetter 1 (some FieldType.boolean) :: th_tb) ({ frames := 0, cells := 0, slots := 0, locals := 0 } : Room) (th_P [.int p1] G H0) (th_Q (fun (v : Option Value) (H1 : Heap) => ∃ r : Int32, v = some (.int r) ∧ 0 ≤ r.toInt ∧ r.toInt ≤ 1 ∧ (f_X5_isLetter (dv G Γ H0) p1.toInt = (r.toInt, ())) ∧ H0 = H1) G) 0 0 (fun q => G.1.2.2 ≤ q) := by
  refine th_met RX5 (by decide) rfl (Nat.le_of_ble_eq_true rfl) ?_
  intro p e s m below meth c hC hH hr hlocks hnm ls hl
  have hx := hC.1
  have hb := hC.2.1
  have hB : th_B G Γ Γ [] H0 H0 [] := ⟨hI, va_S.rf, th_F_rf⟩
  have hl : lv_has ls 1 [(0, .int p1)] := hl
  have lp1 := ti_lo p1; have up1 := ti_hi p1
  obtain ⟨F, hF0⟩ : ∃ F, F = f_X5_isLetter (dv G Γ H0) (p1.toInt) := ⟨_, rfl⟩
  have hF := hF0.trans (f_X5_isLetter.eq_1 (dv G Γ H0) (p1.toInt))
  refine lv_iload_n hx hb gX5_isLetter_0.1 rfl (lv_at hl 0 rfl) ?_
  refine lv_bipush (v := 97) hx hb gX5_isLetter_0.2.1 (by decide) ?_
  refine tr_icmp_lt (tgt := 16) hx hb gX5_isLetter_0.2.2.1 (by decide) (Eq.refl _) tk_97 (fun c3 => ?_) (fun c3 => ?_)
  · replace hF := hF.trans (if_pos c3)
    refine lv_iconst (v := 0) hx hb gX5_isLetter_1.1 (by decide) ?_
    exact th_iret hC hH hr hlocks narrow_b0 hB.2.1 ⟨_, rfl, by decide, by decide, (hF0.symm.trans (hF.trans (by rw [tk_0]))), rfl⟩ gX5_isLetter_1.2
  · replace hF := hF.trans (if_neg (Int.not_lt.mpr c3))
    refine lv_iload_n hx hb gX5_isLetter_0.2.2.2.1 rfl (lv_at hl 0 rfl) ?_
    refine lv_bipush (v := 122) hx hb gX5_isLetter_0.2.2.2.2.1 (by decide) ?_
    refine tr_icmp_gt (tgt := 16) hx hb gX5_isLetter_0.2.2.2.2.2.1 (by decide) (Eq.refl _) tk_122 (fun c9 => ?_) (fun c9 => ?_)
    · replace hF := hF.trans (if_pos c9)
      refine lv_iconst (v := 0) hx hb gX5_isLetter_1.1 (by decide) ?_
      exact th_iret hC hH hr hlocks narrow_b0 hB.2.1 ⟨_, rfl, by decide, by decide, (hF0.symm.trans (hF.trans (by rw [tk_0]))), rfl⟩ gX5_isLetter_1.2
    · replace hF := hF.trans (if_neg (Int.not_lt.mpr c9))
      refine lv_iconst (v := 1) hx hb gX5_isLetter_0.2.2.2.2.2.2.1 (by decide) ?_
      refine lv_goto (tgt := 17) hx hb gX5_isLetter_0.2.2.2.2.2.2.2 (by decide) ?_
      exact th_iret hC hH hr hlocks narrow_b1 hB.2.1 ⟨_, rfl, by decide, by decide, (hF0.symm.trans (hF.trans (by rw [tk_1]))), rfl⟩ gX5_isLetter_1.2

set_option maxHeartbeats 4000000 in
set_option maxRecDepth 100000 in
theorem c_X5_isDigit (l : Launch) (G : th_G) (Γ : th_Ga) (H0 : Heap) (hI : th_I G Γ H0) (hU : dv_U Γ) (p1 : Int32) : Met l yX5_isDigit (.code yX5_isDigit cX5_isDigit 1 (some FieldType.boolean) :: th_tb) ({ frames := 0, cells := 0, slots := 0, locals := 0 } : Room) (th_P [.int p1] G H0) (th_Q (fun (v : Option Value) (H1 : Heap) => ∃ r : Int32, v = some (.int r) ∧ 0 ≤ r.toInt ∧ r.toInt ≤ 1 ∧ (r.toInt = 1 → 48 ≤ p1.toInt ∧ p1.toInt ≤ 57) ∧ (f_X5_isDigit (dv G Γ H0) p1.toInt = (r.toInt, ())) ∧ H0 = H1) G) 0 0 (fun q => G.1.2.2 ≤ q) := by
  refine th_met RX5 (by decide) rfl (Nat.le_of_ble_eq_true rfl) ?_
  intro p e s m below meth c hC hH hr hlocks hnm ls hl
  have hx := hC.1
  have hb := hC.2.1
  have hB : th_B G Γ Γ [] H0 H0 [] := ⟨hI, va_S.rf, th_F_rf⟩
  have hl : lv_has ls 1 [(0, .int p1)] := hl
  have lp1 := ti_lo p1; have up1 := ti_hi p1
  obtain ⟨F, hF0⟩ : ∃ F, F = f_X5_isDigit (dv G Γ H0) (p1.toInt) := ⟨_, rfl⟩
  have hF := hF0.trans (f_X5_isDigit.eq_1 (dv G Γ H0) (p1.toInt))
  refine lv_iload_n hx hb gX5_isDigit_0.1 rfl (lv_at hl 0 rfl) ?_
  refine lv_bipush (v := 48) hx hb gX5_isDigit_0.2.1 (by decide) ?_
  refine tr_icmp_lt (tgt := 16) hx hb gX5_isDigit_0.2.2.1 (by decide) (Eq.refl _) tk_48 (fun c3 => ?_) (fun c3 => ?_)
  · replace hF := hF.trans (if_pos c3)
    refine lv_iconst (v := 0) hx hb gX5_isDigit_1.1 (by decide) ?_
    exact th_iret hC hH hr hlocks narrow_b0 hB.2.1 ⟨_, rfl, by decide, by decide, by first | (intro h9; exact absurd h9 (by decide)) | (have w9 := tk_0; intros; omega), (hF0.symm.trans (hF.trans (by rw [tk_0]))), rfl⟩ gX5_isDigit_1.2
  · replace hF := hF.trans (if_neg (Int.not_lt.mpr c3))
    refine lv_iload_n hx hb gX5_isDigit_0.2.2.2.1 rfl (lv_at hl 0 rfl) ?_
    refine lv_bipush (v := 57) hx hb gX5_isDigit_0.2.2.2.2.1 (by decide) ?_
    refine tr_icmp_gt (tgt := 16) hx hb gX5_isDigit_0.2.2.2.2.2.1 (by decide) (Eq.refl _) tk_57 (fun c9 => ?_) (fun c9 => ?_)
    · replace hF := hF.trans (if_pos c9)
      refine lv_iconst (v := 0) hx hb gX5_isDigit_1.1 (by decide) ?_
      exact th_iret hC hH hr hlocks narrow_b0 hB.2.1 ⟨_, rfl, by decide, by decide, by first | (intro h9; exact absurd h9 (by decide)) | (have w9 := tk_0; intros; omega), (hF0.symm.trans (hF.trans (by rw [tk_0]))), rfl⟩ gX5_isDigit_1.2
    · replace hF := hF.trans (if_neg (Int.not_lt.mpr c9))
      refine lv_iconst (v := 1) hx hb gX5_isDigit_0.2.2.2.2.2.2.1 (by decide) ?_
      refine lv_goto (tgt := 17) hx hb gX5_isDigit_0.2.2.2.2.2.2.2 (by decide) ?_
      exact th_iret hC hH hr hlocks narrow_b1 hB.2.1 ⟨_, rfl, by decide, by decide, by first | (intro h9; exact absurd h9 (by decide)) | (have w9 := tk_1; intros; omega), (hF0.symm.trans (hF.trans (by rw [tk_1]))), rfl⟩ gX5_isDigit_1.2

set_option maxHeartbeats 4000000 in
set_option maxRecDepth 100000 in
theorem c_X5_endOfLetters (l : Launch) (G : th_G) (Γ : th_Ga) (H0 : Heap) (hI : th_I G Γ H0) (hU : dv_U Γ) (a0 : Nat) (h0 : Γ a0 = (20, 0)) (p1 : Int32) (f1 : 0 ≤ p1.toInt) (g1 : p1.toInt ≤ 400) (nn2 : ∃ b : Nat, th_sl H0 a0 (G.1.1.2 5 2) = .ref b ∧ Γ b = (37, 0)) : Met l yX5_endOfLetters (.code yX5_endOfLetters cX5_endOfLetters 3 (some FieldType.int) :: th_tb) ({ frames := 1, cells := 0, slots := 0, locals := 20 } : Room) (th_P [.ref a0, .int p1] G H0) (th_Q (fun (v : Option Value) (H1 : Heap) => ∃ r : Int32, v = some (.int r) ∧ 0 ≤ r.toInt ∧ r.toInt ≤ 400 ∧ (p1.toInt ≤ r.toInt) ∧ (f_X5_endOfLetters (dv G Γ H0) (a0 : Int) p1.toInt = (r.toInt, ())) ∧ H0 = H1) G) 0 0 (fun q => G.1.2.2 ≤ q) := by
  refine th_met RX5 (by decide) rfl (Nat.le_of_ble_eq_true rfl) ?_
  intro p e s m below meth c hC hH hr hlocks hnm ls hl
  have hx := hC.1
  have hb := hC.2.1
  have hB : th_B G Γ Γ [] H0 H0 [] := ⟨hI, va_S.rf, th_F_rf⟩
  have hl : lv_has ls 3 [(0, .ref a0), (1, .int p1)] := hl
  have lp1 := ti_lo p1; have up1 := ti_hi p1
  obtain ⟨bn2, mbn2, hbn2⟩ := nn2
  obtain ⟨F, hF0⟩ : ∃ F, F = f_X5_endOfLetters (dv G Γ H0) ((a0 : Int)) (p1.toInt) := ⟨_, rfl⟩
  have hF := hF0.trans (f_X5_endOfLetters.eq_1 (dv G Γ H0) ((a0 : Int)) (p1.toInt))
  refine lv_iload_n hx hb gX5_endOfLetters_0.1 rfl (lv_at hl 1 rfl) ?_
  refine lv_istore_n (lv' := [(2, .int p1), (0, .ref a0), (1, .int p1)]) hx hb gX5_endOfLetters_0.2.1 rfl hl (by decide) rfl (fun ls hl => ?_)
  have lp2 : ∀ (n2 : Nat) (locs : List Loc) (ls : Array Slot) (j2_2 : Int32), th_B G Γ Γ [] H0 H0 locs → lv_has ls 3 [(0, .ref a0), (2, .int j2_2)] → F = dv_lp f_X5_endOfLetters_2b (dv G Γ H0, (a0 : Int), j2_2.toInt) → 0 ≤ j2_2.toInt → j2_2.toInt ≤ 400 → p1.toInt ≤ j2_2.toInt → (2147483648 : Int) - j2_2.toInt ≤ (n2 : Int) → W p l e ({ frames := 1, cells := 0, slots := 0, locals := 20 } : Room) s m ([.ref a0, .int p1] : List Value).toArray below meth c H0 locs 0 0 (MQ below (th_Q (fun (v : Option Value) (H1 : Heap) => ∃ r : Int32, v = some (.int r) ∧ 0 ≤ r.toInt ∧ r.toInt ≤ 400 ∧ (p1.toInt ≤ r.toInt) ∧ (f_X5_endOfLetters (dv G Γ H0) (a0 : Int) p1.toInt = (r.toInt, ())) ∧ H0 = H1) G) ([.ref a0, .int p1] : List Value).toArray s 0 0 (fun q => G.1.2.2 ≤ q)) (F0 m 2 ls []) := by
    intro n2
    induction n2 with
    | zero => intro locs ls j2_2 hB hl hF g2_0 g2_1 g2_2 hm2; exact absurd hm2 (by have := ti_hi j2_2; omega)
    | succ n2 ih2 =>
      intro locs ls j2_2 hB hl hF g2_0 g2_1 g2_2 hm2
      have lj2_2 := ti_lo j2_2; have uj2_2 := ti_hi j2_2
      have hm2 : (2147483648 : Int) - j2_2.toInt ≤ (n2 : Int) + 1 := by omega
      replace hF := hF.trans (dv_lp_eq)
      replace hF := hF.trans (congrArg (dv_k f_X5_endOfLetters_2b) (f_X5_endOfLetters_2c.eq_1 (dv G Γ H0) ((a0 : Int)) (j2_2.toInt)))
      refine lv_iload_n hx hb gX5_endOfLetters_0.2.2.1 rfl (lv_at hl 1 rfl) ?_
      refine lv_aload_n hx hb gX5_endOfLetters_0.2.2.2.1 rfl (lv_at hl 0 rfl) ?_
      refine th_getK hC cf_X5 hB.1 h0 ro_20 rfl (j := 2) (by decide) mbn2 kf_X5_18 gX5_endOfLetters_0.2.2.2.2.1 ?_
      replace hF := hF.trans (congrArg (dv_k f_X5_endOfLetters_2b) (dv_bn (dv_getR h0 ro_20 (j := 2) rfl mbn2 (by decide))))
      refine th_getI (j := 1) hC cf_X9 hB.1 hbn2 ro_37 rfl rfl kf_X5_61 gX5_endOfLetters_0.2.2.2.2.2.1 (fun x1 mx1 lx1 ux1 => ?_)
      replace hF := hF.trans (congrArg (dv_k f_X5_endOfLetters_2b) (dv_bn (dv_getI hbn2 ro_37 (j := 1) rfl mx1 (by decide))))
      refine tr_icmp_ge (tgt := 34) hx hb gX5_endOfLetters_0.2.2.2.2.2.2.1 (by decide) (Eq.refl _) (Eq.refl _) (fun c10 => ?_) (fun c10 => ?_)
      · replace hF := hF.trans (congrArg (dv_k f_X5_endOfLetters_2b) (if_pos c10))
        refine lv_iload_n hx hb gX5_endOfLetters_2.1 rfl (lv_at hl 1 rfl) ?_
        replace hF := hF.trans (dv_kr)
        exact th_iret hC hH hr hlocks rfl hB.2.1 ⟨_, rfl, by omega, by omega, by intros; omega, (hF0.symm.trans hF), rfl⟩ gX5_endOfLetters_2.2
      · replace hF := hF.trans (congrArg (dv_k f_X5_endOfLetters_2b) (if_neg (Int.not_le.mpr c10)))
        refine lv_aload_n hx hb gX5_endOfLetters_0.2.2.2.2.2.2.2 rfl (lv_at hl 0 rfl) ?_
        refine th_getK hC cf_X5 hB.1 h0 ro_20 rfl (j := 2) (by decide) mbn2 kf_X5_18 gX5_endOfLetters_1.1 ?_
        replace hF := hF.trans (congrArg (dv_k f_X5_endOfLetters_2b) (dv_bn (dv_getR h0 ro_20 (j := 2) rfl mbn2 (by decide))))
        refine th_getO (j := 0) (r2 := 38) hC cf_X9 hB.1 hbn2 ro_37 rfl rfl kf_X5_66 gX5_endOfLetters_1.2.1 (fun b2 mb2 hb2 => ?_)
        refine lv_iload_n hx hb gX5_endOfLetters_1.2.2.1 rfl (lv_at hl 1 rfl) ?_
        refine th_ialdF hC hB.1 hb2 ro_38 rfl (Eq.refl _) (by omega) (by omega) rfl gX5_endOfLetters_1.2.2.2.1 (fun x3 mx3 lx3 ux3 => ?_)
        replace hF := hF.trans (congrArg (dv_k f_X5_endOfLetters_2b) (dv_bn (dv_aldI hB.1 hU hb2 ow_38 (z := j2_2.toInt) mx3 (by omega))))
        refine th_call (th_runS (As := [.int x3]) (rest := []) hC mf_X5_isLetter km_X5_69 st_X5_isLetter (c_X5_isLetter l G Γ H0 hB.1 hU x3) rfl rfl ⟨Nat.le_of_ble_eq_true rfl, Nat.le_of_ble_eq_true rfl⟩ rfl hl.1 rfl (Nat.le_of_ble_eq_true rfl) gX5_endOfLetters_1.2.2.2.2.1 ⟨Nat.le_refl _, Nat.le_refl _⟩) hB.2.1 (fun v22 H22 locs hp hz hS => ?_)
        obtain ⟨x4, rfl, lx4, ux4, q22_0, rfl⟩ := hp
        have hB := th_B_s hB hS
        replace hF := hF.trans (congrArg (dv_k f_X5_endOfLetters_2b) (dv_bn2 (q22_0)))
        refine W.eq (g2 := F0 m 25 ls [.int x4]) rfl ?_
        refine tr_if_eq (tgt := 34) hx hb gX5_endOfLetters_1.2.2.2.2.2.1 (by decide) (Eq.refl _) (fun c25 => ?_) (fun c25 => ?_)
        · replace hF := hF.trans (congrArg (dv_k f_X5_endOfLetters_2b) (if_pos c25))
          refine lv_iload_n hx hb gX5_endOfLetters_2.1 rfl (lv_at hl 1 rfl) ?_
          replace hF := hF.trans (dv_kr)
          exact th_iret hC hH hr hlocks rfl hB.2.1 ⟨_, rfl, by omega, by omega, by intros; omega, (hF0.symm.trans hF), rfl⟩ gX5_endOfLetters_2.2
        · replace hF := hF.trans (congrArg (dv_k f_X5_endOfLetters_2b) (if_neg c25))
          refine tr_iinc (fun x5 => [(2, .int x5), (0, .ref a0)]) hx hb gX5_endOfLetters_1.2.2.2.2.2.2.1 hl (k := 1) rfl (Eq.refl _) tk_1 (by omega) (by omega) (by decide) (fun _ => rfl) (fun x5 ls ex5 hl => ?_)
          replace hF := hF.trans (congrArg (dv_k f_X5_endOfLetters_2b) (dv_bn (ex5.symm)))
          refine lv_goto (tgt := 2) hx hb gX5_endOfLetters_1.2.2.2.2.2.2.2 (by decide) ?_
          replace hF := hF.trans (dv_kl)
          exact ih2 locs ls x5 hB (lv_sub hl [1, 0] rfl) hF (by omega) (by omega) (by omega) (by omega)
  exact lp2 ((2147483648 : Int) - (p1.toInt)).toNat [] ls p1 hB (lv_sub hl [1, 0] rfl) hF (by omega) (by omega) (by omega) (by omega)

set_option maxHeartbeats 4000000 in
set_option maxRecDepth 100000 in
theorem c_X5_endOfDigits (l : Launch) (G : th_G) (Γ : th_Ga) (H0 : Heap) (hI : th_I G Γ H0) (hU : dv_U Γ) (a0 : Nat) (h0 : Γ a0 = (20, 0)) (p1 : Int32) (f1 : 0 ≤ p1.toInt) (g1 : p1.toInt ≤ 400) (nn2 : ∃ b : Nat, th_sl H0 a0 (G.1.1.2 5 2) = .ref b ∧ Γ b = (37, 0)) : Met l yX5_endOfDigits (.code yX5_endOfDigits cX5_endOfDigits 3 (some FieldType.int) :: th_tb) ({ frames := 1, cells := 0, slots := 0, locals := 20 } : Room) (th_P [.ref a0, .int p1] G H0) (th_Q (fun (v : Option Value) (H1 : Heap) => ∃ r : Int32, v = some (.int r) ∧ 0 ≤ r.toInt ∧ r.toInt ≤ 400 ∧ (p1.toInt ≤ r.toInt) ∧ (f_X5_endOfDigits (dv G Γ H0) (a0 : Int) p1.toInt = (r.toInt, ())) ∧ H0 = H1) G) 0 0 (fun q => G.1.2.2 ≤ q) := by
  refine th_met RX5 (by decide) rfl (Nat.le_of_ble_eq_true rfl) ?_
  intro p e s m below meth c hC hH hr hlocks hnm ls hl
  have hx := hC.1
  have hb := hC.2.1
  have hB : th_B G Γ Γ [] H0 H0 [] := ⟨hI, va_S.rf, th_F_rf⟩
  have hl : lv_has ls 3 [(0, .ref a0), (1, .int p1)] := hl
  have lp1 := ti_lo p1; have up1 := ti_hi p1
  obtain ⟨bn2, mbn2, hbn2⟩ := nn2
  obtain ⟨F, hF0⟩ : ∃ F, F = f_X5_endOfDigits (dv G Γ H0) ((a0 : Int)) (p1.toInt) := ⟨_, rfl⟩
  have hF := hF0.trans (f_X5_endOfDigits.eq_1 (dv G Γ H0) ((a0 : Int)) (p1.toInt))
  refine lv_iload_n hx hb gX5_endOfDigits_0.1 rfl (lv_at hl 1 rfl) ?_
  refine lv_istore_n (lv' := [(2, .int p1), (0, .ref a0), (1, .int p1)]) hx hb gX5_endOfDigits_0.2.1 rfl hl (by decide) rfl (fun ls hl => ?_)
  have lp2 : ∀ (n2 : Nat) (locs : List Loc) (ls : Array Slot) (j2_2 : Int32), th_B G Γ Γ [] H0 H0 locs → lv_has ls 3 [(0, .ref a0), (2, .int j2_2)] → F = dv_lp f_X5_endOfDigits_2b (dv G Γ H0, (a0 : Int), j2_2.toInt) → 0 ≤ j2_2.toInt → j2_2.toInt ≤ 400 → p1.toInt ≤ j2_2.toInt → (2147483648 : Int) - j2_2.toInt ≤ (n2 : Int) → W p l e ({ frames := 1, cells := 0, slots := 0, locals := 20 } : Room) s m ([.ref a0, .int p1] : List Value).toArray below meth c H0 locs 0 0 (MQ below (th_Q (fun (v : Option Value) (H1 : Heap) => ∃ r : Int32, v = some (.int r) ∧ 0 ≤ r.toInt ∧ r.toInt ≤ 400 ∧ (p1.toInt ≤ r.toInt) ∧ (f_X5_endOfDigits (dv G Γ H0) (a0 : Int) p1.toInt = (r.toInt, ())) ∧ H0 = H1) G) ([.ref a0, .int p1] : List Value).toArray s 0 0 (fun q => G.1.2.2 ≤ q)) (F0 m 2 ls []) := by
    intro n2
    induction n2 with
    | zero => intro locs ls j2_2 hB hl hF g2_0 g2_1 g2_2 hm2; exact absurd hm2 (by have := ti_hi j2_2; omega)
    | succ n2 ih2 =>
      intro locs ls j2_2 hB hl hF g2_0 g2_1 g2_2 hm2
      have lj2_2 := ti_lo j2_2; have uj2_2 := ti_hi j2_2
      have hm2 : (2147483648 : Int) - j2_2.toInt ≤ (n2 : Int) + 1 := by omega
      replace hF := hF.trans (dv_lp_eq)
      replace hF := hF.trans (congrArg (dv_k f_X5_endOfDigits_2b) (f_X5_endOfDigits_2c.eq_1 (dv G Γ H0) ((a0 : Int)) (j2_2.toInt)))
      refine lv_iload_n hx hb gX5_endOfDigits_0.2.2.1 rfl (lv_at hl 1 rfl) ?_
      refine lv_aload_n hx hb gX5_endOfDigits_0.2.2.2.1 rfl (lv_at hl 0 rfl) ?_
      refine th_getK hC cf_X5 hB.1 h0 ro_20 rfl (j := 2) (by decide) mbn2 kf_X5_18 gX5_endOfDigits_0.2.2.2.2.1 ?_
      replace hF := hF.trans (congrArg (dv_k f_X5_endOfDigits_2b) (dv_bn (dv_getR h0 ro_20 (j := 2) rfl mbn2 (by decide))))
      refine th_getI (j := 1) hC cf_X9 hB.1 hbn2 ro_37 rfl rfl kf_X5_61 gX5_endOfDigits_0.2.2.2.2.2.1 (fun x1 mx1 lx1 ux1 => ?_)
      replace hF := hF.trans (congrArg (dv_k f_X5_endOfDigits_2b) (dv_bn (dv_getI hbn2 ro_37 (j := 1) rfl mx1 (by decide))))
      refine tr_icmp_ge (tgt := 34) hx hb gX5_endOfDigits_0.2.2.2.2.2.2.1 (by decide) (Eq.refl _) (Eq.refl _) (fun c10 => ?_) (fun c10 => ?_)
      · replace hF := hF.trans (congrArg (dv_k f_X5_endOfDigits_2b) (if_pos c10))
        refine lv_iload_n hx hb gX5_endOfDigits_2.1 rfl (lv_at hl 1 rfl) ?_
        replace hF := hF.trans (dv_kr)
        exact th_iret hC hH hr hlocks rfl hB.2.1 ⟨_, rfl, by omega, by omega, by intros; omega, (hF0.symm.trans hF), rfl⟩ gX5_endOfDigits_2.2
      · replace hF := hF.trans (congrArg (dv_k f_X5_endOfDigits_2b) (if_neg (Int.not_le.mpr c10)))
        refine lv_aload_n hx hb gX5_endOfDigits_0.2.2.2.2.2.2.2 rfl (lv_at hl 0 rfl) ?_
        refine th_getK hC cf_X5 hB.1 h0 ro_20 rfl (j := 2) (by decide) mbn2 kf_X5_18 gX5_endOfDigits_1.1 ?_
        replace hF := hF.trans (congrArg (dv_k f_X5_endOfDigits_2b) (dv_bn (dv_getR h0 ro_20 (j := 2) rfl mbn2 (by decide))))
        refine th_getO (j := 0) (r2 := 38) hC cf_X9 hB.1 hbn2 ro_37 rfl rfl kf_X5_66 gX5_endOfDigits_1.2.1 (fun b2 mb2 hb2 => ?_)
        refine lv_iload_n hx hb gX5_endOfDigits_1.2.2.1 rfl (lv_at hl 1 rfl) ?_
        refine th_ialdF hC hB.1 hb2 ro_38 rfl (Eq.refl _) (by omega) (by omega) rfl gX5_endOfDigits_1.2.2.2.1 (fun x3 mx3 lx3 ux3 => ?_)
        replace hF := hF.trans (congrArg (dv_k f_X5_endOfDigits_2b) (dv_bn (dv_aldI hB.1 hU hb2 ow_38 (z := j2_2.toInt) mx3 (by omega))))
        refine th_call (th_runS (As := [.int x3]) (rest := []) hC mf_X5_isDigit km_X5_80 st_X5_isDigit (c_X5_isDigit l G Γ H0 hB.1 hU x3) rfl rfl ⟨Nat.le_of_ble_eq_true rfl, Nat.le_of_ble_eq_true rfl⟩ rfl hl.1 rfl (Nat.le_of_ble_eq_true rfl) gX5_endOfDigits_1.2.2.2.2.1 ⟨Nat.le_refl _, Nat.le_refl _⟩) hB.2.1 (fun v22 H22 locs hp hz hS => ?_)
        obtain ⟨x4, rfl, lx4, ux4, q22_0, q22_1, rfl⟩ := hp
        have hB := th_B_s hB hS
        replace hF := hF.trans (congrArg (dv_k f_X5_endOfDigits_2b) (dv_bn2 (q22_1)))
        refine W.eq (g2 := F0 m 25 ls [.int x4]) rfl ?_
        refine tr_if_eq (tgt := 34) hx hb gX5_endOfDigits_1.2.2.2.2.2.1 (by decide) (Eq.refl _) (fun c25 => ?_) (fun c25 => ?_)
        · replace hF := hF.trans (congrArg (dv_k f_X5_endOfDigits_2b) (if_pos c25))
          refine lv_iload_n hx hb gX5_endOfDigits_2.1 rfl (lv_at hl 1 rfl) ?_
          replace hF := hF.trans (dv_kr)
          exact th_iret hC hH hr hlocks rfl hB.2.1 ⟨_, rfl, by omega, by omega, by intros; omega, (hF0.symm.trans hF), rfl⟩ gX5_endOfDigits_2.2
        · replace hF := hF.trans (congrArg (dv_k f_X5_endOfDigits_2b) (if_neg c25))
          refine tr_iinc (fun x5 => [(2, .int x5), (0, .ref a0)]) hx hb gX5_endOfDigits_1.2.2.2.2.2.2.1 hl (k := 1) rfl (Eq.refl _) tk_1 (by omega) (by omega) (by decide) (fun _ => rfl) (fun x5 ls ex5 hl => ?_)
          replace hF := hF.trans (congrArg (dv_k f_X5_endOfDigits_2b) (dv_bn (ex5.symm)))
          refine lv_goto (tgt := 2) hx hb gX5_endOfDigits_1.2.2.2.2.2.2.2 (by decide) ?_
          replace hF := hF.trans (dv_kl)
          exact ih2 locs ls x5 hB (lv_sub hl [1, 0] rfl) hF (by omega) (by omega) (by omega) (by omega)
  exact lp2 ((2147483648 : Int) - (p1.toInt)).toNat [] ls p1 hB (lv_sub hl [1, 0] rfl) hF (by omega) (by omega) (by omega) (by omega)

set_option maxHeartbeats 4000000 in
set_option maxRecDepth 100000 in
theorem c_X5_valueFrom (l : Launch) (G : th_G) (Γ : th_Ga) (H0 : Heap) (hI : th_I G Γ H0) (hU : dv_U Γ) (a0 : Nat) (h0 : Γ a0 = (20, 0)) (p1 : Int32) (f1 : 0 ≤ p1.toInt) (g1 : p1.toInt ≤ 400) (p2 : Int32) (f2 : 0 ≤ p2.toInt) (g2 : p2.toInt ≤ 400) (nn2 : ∃ b : Nat, th_sl H0 a0 (G.1.1.2 5 2) = .ref b ∧ Γ b = (37, 0)) : Met l yX5_valueFrom (.code yX5_valueFrom cX5_valueFrom 5 (some FieldType.int) :: th_tb) ({ frames := 1, cells := 0, slots := 0, locals := 21 } : Room) (th_P [.ref a0, .int p1, .int p2] G H0) (th_Q (fun (v : Option Value) (H1 : Heap) => ∃ r : Int32, v = some (.int r) ∧ (f_X5_valueFrom (dv G Γ H0) (a0 : Int) p1.toInt p2.toInt = (r.toInt, ())) ∧ H0 = H1) G) 0 0 (fun q => G.1.2.2 ≤ q) := by
  refine th_met RX5 (by decide) rfl (Nat.le_of_ble_eq_true rfl) ?_
  intro p e s m below meth c hC hH hr hlocks hnm ls hl
  have hx := hC.1
  have hb := hC.2.1
  have hB : th_B G Γ Γ [] H0 H0 [] := ⟨hI, va_S.rf, th_F_rf⟩
  have hl : lv_has ls 5 [(0, .ref a0), (1, .int p1), (2, .int p2)] := hl
  have lp1 := ti_lo p1; have up1 := ti_hi p1
  have lp2 := ti_lo p2; have up2 := ti_hi p2
  obtain ⟨bn2, mbn2, hbn2⟩ := nn2
  obtain ⟨F, hF0⟩ : ∃ F, F = f_X5_valueFrom (dv G Γ H0) ((a0 : Int)) (p1.toInt) (p2.toInt) := ⟨_, rfl⟩
  have hF := hF0.trans (f_X5_valueFrom.eq_1 (dv G Γ H0) ((a0 : Int)) (p1.toInt) (p2.toInt))
  refine lv_iconst (v := 0) hx hb gX5_valueFrom_0.1 (by decide) ?_
  refine lv_istore_n (lv' := [(3, .int 0), (0, .ref a0), (1, .int p1), (2, .int p2)]) hx hb gX5_valueFrom_0.2.1 rfl hl (by decide) rfl (fun ls hl => ?_)
  refine lv_iload_n hx hb gX5_valueFrom_0.2.2.1 rfl (lv_at hl 2 rfl) ?_
  refine lv_istore (lv' := [(4, .int p1), (3, .int 0), (0, .ref a0), (1, .int p1), (2, .int p2)]) hx hb gX5_valueFrom_0.2.2.2.1 hl (by decide) rfl (fun ls hl => ?_)
  have lp5 : ∀ (n5 : Nat) (locs : List Loc) (ls : Array Slot) (j5_3 : Int32) (j5_4 : Int32), th_B G Γ Γ [] H0 H0 locs → lv_has ls 5 [(0, .ref a0), (2, .int p2), (3, .int j5_3), (4, .int j5_4)] → F = dv_lp f_X5_valueFrom_5b (dv G Γ H0, (a0 : Int), p2.toInt, j5_3.toInt, j5_4.toInt) → j5_3.toInt ≤ 1001 → 0 ≤ j5_4.toInt → j5_4.toInt ≤ 400 → (2147483648 : Int) - j5_4.toInt ≤ (n5 : Int) → W p l e ({ frames := 1, cells := 0, slots := 0, locals := 21 } : Room) s m ([.ref a0, .int p1, .int p2] : List Value).toArray below meth c H0 locs 0 0 (MQ below (th_Q (fun (v : Option Value) (H1 : Heap) => ∃ r : Int32, v = some (.int r) ∧ (f_X5_valueFrom (dv G Γ H0) (a0 : Int) p1.toInt p2.toInt = (r.toInt, ())) ∧ H0 = H1) G) ([.ref a0, .int p1, .int p2] : List Value).toArray s 0 0 (fun q => G.1.2.2 ≤ q)) (F0 m 5 ls []) := by
    intro n5
    induction n5 with
    | zero => intro locs ls j5_3 j5_4 hB hl hF g5_0 g5_1 g5_2 hm5; exact absurd hm5 (by have := ti_hi j5_4; omega)
    | succ n5 ih5 =>
      intro locs ls j5_3 j5_4 hB hl hF g5_0 g5_1 g5_2 hm5
      have lj5_3 := ti_lo j5_3; have uj5_3 := ti_hi j5_3
      have lj5_4 := ti_lo j5_4; have uj5_4 := ti_hi j5_4
      have hm5 : (2147483648 : Int) - j5_4.toInt ≤ (n5 : Int) + 1 := by omega
      replace hF := hF.trans (dv_lp_eq)
      replace hF := hF.trans (congrArg (dv_k f_X5_valueFrom_5b) (f_X5_valueFrom_5c.eq_1 (dv G Γ H0) ((a0 : Int)) (p2.toInt) (j5_3.toInt) (j5_4.toInt)))
      refine lv_iload hx hb gX5_valueFrom_0.2.2.2.2.1 (lv_at hl 3 rfl) ?_
      refine lv_iload_n hx hb gX5_valueFrom_0.2.2.2.2.2.1 rfl (lv_at hl 1 rfl) ?_
      refine tr_icmp_ge (tgt := 42) hx hb gX5_valueFrom_0.2.2.2.2.2.2.1 (by decide) (Eq.refl _) (Eq.refl _) (fun c8 => ?_) (fun c8 => ?_)
      · replace hF := hF.trans (congrArg (dv_k f_X5_valueFrom_5b) (if_pos c8))
        refine lv_iload_n hx hb gX5_valueFrom_2.2.2.2.2.2.2.2 rfl (lv_at hl 2 rfl) ?_
        replace hF := hF.trans (dv_kr)
        exact th_iret hC hH hr hlocks rfl hB.2.1 ⟨_, rfl, (hF0.symm.trans hF), rfl⟩ gX5_valueFrom_3
      · replace hF := hF.trans (congrArg (dv_k f_X5_valueFrom_5b) (if_neg (Int.not_le.mpr c8)))
        refine lv_iload_n hx hb gX5_valueFrom_0.2.2.2.2.2.2.2 rfl (lv_at hl 2 rfl) ?_
        refine lv_bipush (v := 10) hx hb gX5_valueFrom_1.1 (by decide) ?_
        refine lv_imul hx hb gX5_valueFrom_1.2.1 ?_
        refine lv_topi (fun x1 ex1 => ?_)
        have lx1 := ti_lo x1; have ux1 := ti_hi x1
        replace hF := hF.trans (congrArg (dv_k f_X5_valueFrom_5b) (dv_bn (dv_mul_e (Eq.refl _) tk_10 ex1)))
        refine lv_aload_n hx hb gX5_valueFrom_1.2.2.1 rfl (lv_at hl 0 rfl) ?_
        refine th_getK hC cf_X5 hB.1 h0 ro_20 rfl (j := 2) (by decide) mbn2 kf_X5_18 gX5_valueFrom_1.2.2.2.1 ?_
        replace hF := hF.trans (congrArg (dv_k f_X5_valueFrom_5b) (dv_bn (dv_getR h0 ro_20 (j := 2) rfl mbn2 (by decide))))
        refine th_getO (j := 0) (r2 := 38) hC cf_X9 hB.1 hbn2 ro_37 rfl rfl kf_X5_66 gX5_valueFrom_1.2.2.2.2.1 (fun b2 mb2 hb2 => ?_)
        refine lv_iload hx hb gX5_valueFrom_1.2.2.2.2.2.1 (lv_at hl 3 rfl) ?_
        refine th_ialdF hC hB.1 hb2 ro_38 rfl (Eq.refl _) (by omega) (by omega) rfl gX5_valueFrom_1.2.2.2.2.2.2.1 (fun x3 mx3 lx3 ux3 => ?_)
        replace hF := hF.trans (congrArg (dv_k f_X5_valueFrom_5b) (dv_bn (dv_aldI hB.1 hU hb2 ow_38 (z := j5_4.toInt) mx3 (by omega))))
        refine lv_iadd hx hb gX5_valueFrom_1.2.2.2.2.2.2.2 ?_
        refine lv_topi (fun x4 ex4 => ?_)
        have lx4 := ti_lo x4; have ux4 := ti_hi x4
        replace hF := hF.trans (congrArg (dv_k f_X5_valueFrom_5b) (dv_bn (dv_add_e (Eq.refl _) (Eq.refl _) ex4)))
        refine lv_bipush (v := 48) hx hb gX5_valueFrom_2.1 (by decide) ?_
        refine lv_isub hx hb gX5_valueFrom_2.2.1 ?_
        refine lv_topi (fun x5 ex5 => ?_)
        have lx5 := ti_lo x5; have ux5 := ti_hi x5
        replace hF := hF.trans (congrArg (dv_k f_X5_valueFrom_5b) (dv_bn (dv_sub_e (Eq.refl _) tk_48 ex5)))
        refine lv_sipush (v := 1001) hx hb gX5_valueFrom_2.2.2.1 (by decide) ?_
        refine tr_mmin hC kma_X5_89 hl.1 (Eq.refl _) tk_1001 (Nat.le_of_ble_eq_true rfl) (Nat.le_of_ble_eq_true rfl) (Nat.le_of_ble_eq_true rfl) (Nat.le_of_ble_eq_true rfl) gX5_valueFrom_2.2.2.2.1 (fun x6 ex6 => ?_)
        replace hF := hF.trans (congrArg (dv_k f_X5_valueFrom_5b) (dv_bn (dv_min_e ex6)))
        refine lv_istore_n (lv' := [(3, .int x6), (0, .ref a0), (2, .int p2), (4, .int j5_4)]) hx hb gX5_valueFrom_2.2.2.2.2.1 rfl hl (by decide) rfl (fun ls hl => ?_)
        refine tr_iinc (fun x7 => [(4, .int x7), (3, .int x6), (0, .ref a0), (2, .int p2)]) hx hb gX5_valueFrom_2.2.2.2.2.2.1 hl (k := 3) rfl (Eq.refl _) tk_1 (by omega) (by omega) (by decide) (fun _ => rfl) (fun x7 ls ex7 hl => ?_)
        replace hF := hF.trans (congrArg (dv_k f_X5_valueFrom_5b) (dv_bn (ex7.symm)))
        refine lv_goto (tgt := 5) hx hb gX5_valueFrom_2.2.2.2.2.2.2.1 (by decide) ?_
        replace hF := hF.trans (dv_kl)
        exact ih5 locs ls x6 x7 hB (lv_sub hl [2, 3, 1, 0] rfl) hF (by omega) (by omega) (by omega) (by omega)
  exact lp5 ((2147483648 : Int) - (p1.toInt)).toNat [] ls 0 p1 hB (lv_sub hl [2, 4, 1, 0] rfl) (by rw [tk_0]; exact hF) (by decide) (by omega) (by omega) (by have w0 := tk_0; omega)

set_option maxHeartbeats 4000000 in
set_option maxRecDepth 100000 in
theorem c_X5_codeOf (l : Launch) (G : th_G) (Γ : th_Ga) (H0 : Heap) (hI : th_I G Γ H0) (hU : dv_U Γ) (p1 : Int32) : Met l yX5_codeOf (.code yX5_codeOf cX5_codeOf 1 (some FieldType.int) :: th_tb) ({ frames := 0, cells := 0, slots := 0, locals := 0 } : Room) (th_P [.int p1] G H0) (th_Q (fun (v : Option Value) (H1 : Heap) => ∃ r : Int32, v = some (.int r) ∧ (-1) ≤ r.toInt ∧ r.toInt ≤ 9999 ∧ (r.toInt ≠ -1 → p1.toInt ≠ -1) ∧ (f_X5_codeOf (dv G Γ H0) p1.toInt = (r.toInt, ())) ∧ H0 = H1) G) 0 0 (fun q => G.1.2.2 ≤ q) := by
  refine th_met RX5 (by decide) rfl (Nat.le_of_ble_eq_true rfl) ?_
  intro p e s m below meth c hC hH hr hlocks hnm ls hl
  have hx := hC.1
  have hb := hC.2.1
  have hB : th_B G Γ Γ [] H0 H0 [] := ⟨hI, va_S.rf, th_F_rf⟩
  have hl : lv_has ls 1 [(0, .int p1)] := hl
  have lp1 := ti_lo p1; have up1 := ti_hi p1
  obtain ⟨F, hF0⟩ : ∃ F, F = f_X5_codeOf (dv G Γ H0) (p1.toInt) := ⟨_, rfl⟩
  have hF := hF0.trans (f_X5_codeOf.eq_1 (dv G Γ H0) (p1.toInt))
  refine lv_iload_n hx hb gX5_codeOf_0.1 rfl (lv_at hl 0 rfl) ?_
  by_cases k1_0 : p1.toInt = 37
  · replace hF := hF.trans (if_pos k1_0)
    refine lv_tableIn (off := 75) (tgt := 76) hx hb gX5_codeOf_0.2.1 (by omega) (by omega) (by rw [show p1.toInt = 37 from k1_0]; decide) (by decide) ?_
    refine lv_sipush (v := 3004) hx hb gX5_codeOf_1.2.2.1 (by decide) ?_
    exact th_iret hC hH hr hlocks rfl hB.2.1 ⟨_, rfl, by decide, by decide, by first | (intro h9; exact absurd h9 (by decide)) | (have w9 := tk_3004; intros; omega), (hF0.symm.trans (hF.trans (by rw [tk_3004]))), rfl⟩ gX5_codeOf_1.2.2.2.1
  replace hF := hF.trans (if_neg k1_0)
  by_cases k1_1 : p1.toInt = 38
  · replace hF := hF.trans (if_pos k1_1)
    refine lv_tableIn (off := 79) (tgt := 80) hx hb gX5_codeOf_0.2.1 (by omega) (by omega) (by rw [show p1.toInt = 38 from k1_1]; decide) (by decide) ?_
    refine lv_iconst (v := (-1)) hx hb gX5_codeOf_1.2.2.2.2.1 (by decide) ?_
    exact th_iret hC hH hr hlocks rfl hB.2.1 ⟨_, rfl, by decide, by decide, by first | (intro h9; exact absurd h9 (by decide)) | (have w9 := tk_m1; intros; omega), (hF0.symm.trans (hF.trans (by rw [tk_m1]))), rfl⟩ gX5_codeOf_1.2.2.2.2.2
  replace hF := hF.trans (if_neg k1_1)
  by_cases k1_2 : p1.toInt = 39
  · replace hF := hF.trans (if_pos k1_2)
    refine lv_tableIn (off := 79) (tgt := 80) hx hb gX5_codeOf_0.2.1 (by omega) (by omega) (by rw [show p1.toInt = 39 from k1_2]; decide) (by decide) ?_
    refine lv_iconst (v := (-1)) hx hb gX5_codeOf_1.2.2.2.2.1 (by decide) ?_
    exact th_iret hC hH hr hlocks rfl hB.2.1 ⟨_, rfl, by decide, by decide, by first | (intro h9; exact absurd h9 (by decide)) | (have w9 := tk_m1; intros; omega), (hF0.symm.trans (hF.trans (by rw [tk_m1]))), rfl⟩ gX5_codeOf_1.2.2.2.2.2
  replace hF := hF.trans (if_neg k1_2)
  by_cases k1_3 : p1.toInt = 40
  · replace hF := hF.trans (if_pos k1_3)
    refine lv_tableIn (off := 79) (tgt := 80) hx hb gX5_codeOf_0.2.1 (by omega) (by omega) (by rw [show p1.toInt = 40 from k1_3]; decide) (by decide) ?_
    refine lv_iconst (v := (-1)) hx hb gX5_codeOf_1.2.2.2.2.1 (by decide) ?_
    exact th_iret hC hH hr hlocks rfl hB.2.1 ⟨_, rfl, by decide, by decide, by first | (intro h9; exact absurd h9 (by decide)) | (have w9 := tk_m1; intros; omega), (hF0.symm.trans (hF.trans (by rw [tk_m1]))), rfl⟩ gX5_codeOf_1.2.2.2.2.2
  replace hF := hF.trans (if_neg k1_3)
  by_cases k1_4 : p1.toInt = 41
  · replace hF := hF.trans (if_pos k1_4)
    refine lv_tableIn (off := 79) (tgt := 80) hx hb gX5_codeOf_0.2.1 (by omega) (by omega) (by rw [show p1.toInt = 41 from k1_4]; decide) (by decide) ?_
    refine lv_iconst (v := (-1)) hx hb gX5_codeOf_1.2.2.2.2.1 (by decide) ?_
    exact th_iret hC hH hr hlocks rfl hB.2.1 ⟨_, rfl, by decide, by decide, by first | (intro h9; exact absurd h9 (by decide)) | (have w9 := tk_m1; intros; omega), (hF0.symm.trans (hF.trans (by rw [tk_m1]))), rfl⟩ gX5_codeOf_1.2.2.2.2.2
  replace hF := hF.trans (if_neg k1_4)
  by_cases k1_5 : p1.toInt = 42
  · replace hF := hF.trans (if_pos k1_5)
    refine lv_tableIn (off := 67) (tgt := 68) hx hb gX5_codeOf_0.2.1 (by omega) (by omega) (by rw [show p1.toInt = 42 from k1_5]; decide) (by decide) ?_
    refine lv_sipush (v := 3002) hx hb gX5_codeOf_0.2.2.2.2.2.2.1 (by decide) ?_
    exact th_iret hC hH hr hlocks rfl hB.2.1 ⟨_, rfl, by decide, by decide, by first | (intro h9; exact absurd h9 (by decide)) | (have w9 := tk_3002; intros; omega), (hF0.symm.trans (hF.trans (by rw [tk_3002]))), rfl⟩ gX5_codeOf_0.2.2.2.2.2.2.2
  replace hF := hF.trans (if_neg k1_5)
  by_cases k1_6 : p1.toInt = 43
  · replace hF := hF.trans (if_pos k1_6)
    refine lv_tableIn (off := 59) (tgt := 60) hx hb gX5_codeOf_0.2.1 (by omega) (by omega) (by rw [show p1.toInt = 43 from k1_6]; decide) (by decide) ?_
    refine lv_sipush (v := 3000) hx hb gX5_codeOf_0.2.2.1 (by decide) ?_
    exact th_iret hC hH hr hlocks rfl hB.2.1 ⟨_, rfl, by decide, by decide, by first | (intro h9; exact absurd h9 (by decide)) | (have w9 := tk_3000; intros; omega), (hF0.symm.trans (hF.trans (by rw [tk_3000]))), rfl⟩ gX5_codeOf_0.2.2.2.1
  replace hF := hF.trans (if_neg k1_6)
  by_cases k1_7 : p1.toInt = 44
  · replace hF := hF.trans (if_pos k1_7)
    refine lv_tableIn (off := 79) (tgt := 80) hx hb gX5_codeOf_0.2.1 (by omega) (by omega) (by rw [show p1.toInt = 44 from k1_7]; decide) (by decide) ?_
    refine lv_iconst (v := (-1)) hx hb gX5_codeOf_1.2.2.2.2.1 (by decide) ?_
    exact th_iret hC hH hr hlocks rfl hB.2.1 ⟨_, rfl, by decide, by decide, by first | (intro h9; exact absurd h9 (by decide)) | (have w9 := tk_m1; intros; omega), (hF0.symm.trans (hF.trans (by rw [tk_m1]))), rfl⟩ gX5_codeOf_1.2.2.2.2.2
  replace hF := hF.trans (if_neg k1_7)
  by_cases k1_8 : p1.toInt = 45
  · replace hF := hF.trans (if_pos k1_8)
    refine lv_tableIn (off := 63) (tgt := 64) hx hb gX5_codeOf_0.2.1 (by omega) (by omega) (by rw [show p1.toInt = 45 from k1_8]; decide) (by decide) ?_
    refine lv_sipush (v := 3001) hx hb gX5_codeOf_0.2.2.2.2.1 (by decide) ?_
    exact th_iret hC hH hr hlocks rfl hB.2.1 ⟨_, rfl, by decide, by decide, by first | (intro h9; exact absurd h9 (by decide)) | (have w9 := tk_3001; intros; omega), (hF0.symm.trans (hF.trans (by rw [tk_3001]))), rfl⟩ gX5_codeOf_0.2.2.2.2.2.1
  replace hF := hF.trans (if_neg k1_8)
  by_cases k1_9 : p1.toInt = 46
  · replace hF := hF.trans (if_pos k1_9)
    refine lv_tableIn (off := 79) (tgt := 80) hx hb gX5_codeOf_0.2.1 (by omega) (by omega) (by rw [show p1.toInt = 46 from k1_9]; decide) (by decide) ?_
    refine lv_iconst (v := (-1)) hx hb gX5_codeOf_1.2.2.2.2.1 (by decide) ?_
    exact th_iret hC hH hr hlocks rfl hB.2.1 ⟨_, rfl, by decide, by decide, by first | (intro h9; exact absurd h9 (by decide)) | (have w9 := tk_m1; intros; omega), (hF0.symm.trans (hF.trans (by rw [tk_m1]))), rfl⟩ gX5_codeOf_1.2.2.2.2.2
  replace hF := hF.trans (if_neg k1_9)
  by_cases k1_10 : p1.toInt = 47
  · replace hF := hF.trans (if_pos k1_10)
    refine lv_tableIn (off := 71) (tgt := 72) hx hb gX5_codeOf_0.2.1 (by omega) (by omega) (by rw [show p1.toInt = 47 from k1_10]; decide) (by decide) ?_
    refine lv_sipush (v := 3003) hx hb gX5_codeOf_1.1 (by decide) ?_
    exact th_iret hC hH hr hlocks rfl hB.2.1 ⟨_, rfl, by decide, by decide, by first | (intro h9; exact absurd h9 (by decide)) | (have w9 := tk_3003; intros; omega), (hF0.symm.trans (hF.trans (by rw [tk_3003]))), rfl⟩ gX5_codeOf_1.2.1
  replace hF := hF.trans (if_neg k1_10)
  refine lv_tableOut (tgt := 80) hx hb gX5_codeOf_0.2.1 (by omega) (by decide) ?_
  refine lv_iconst (v := (-1)) hx hb gX5_codeOf_1.2.2.2.2.1 (by decide) ?_
  exact th_iret hC hH hr hlocks rfl hB.2.1 ⟨_, rfl, by decide, by decide, by first | (intro h9; exact absurd h9 (by decide)) | (have w9 := tk_m1; intros; omega), (hF0.symm.trans (hF.trans (by rw [tk_m1]))), rfl⟩ gX5_codeOf_1.2.2.2.2.2

set_option maxHeartbeats 4000000 in
set_option maxRecDepth 100000 in
theorem c_X5_orderCode (l : Launch) (G : th_G) (Γ : th_Ga) (H0 : Heap) (hI : th_I G Γ H0) (hU : dv_U Γ) (p1 : Int32) : Met l yX5_orderCode (.code yX5_orderCode cX5_orderCode 1 (some FieldType.int) :: th_tb) ({ frames := 0, cells := 0, slots := 0, locals := 0 } : Room) (th_P [.int p1] G H0) (th_Q (fun (v : Option Value) (H1 : Heap) => ∃ r : Int32, v = some (.int r) ∧ (-1) ≤ r.toInt ∧ r.toInt ≤ 9999 ∧ (r.toInt ≠ -1 → p1.toInt ≠ -1) ∧ (f_X5_orderCode (dv G Γ H0) p1.toInt = (r.toInt, ())) ∧ H0 = H1) G) 0 0 (fun q => G.1.2.2 ≤ q) := by
  refine th_met RX5 (by decide) rfl (Nat.le_of_ble_eq_true rfl) ?_
  intro p e s m below meth c hC hH hr hlocks hnm ls hl
  have hx := hC.1
  have hb := hC.2.1
  have hB : th_B G Γ Γ [] H0 H0 [] := ⟨hI, va_S.rf, th_F_rf⟩
  have hl : lv_has ls 1 [(0, .int p1)] := hl
  have lp1 := ti_lo p1; have up1 := ti_hi p1
  obtain ⟨F, hF0⟩ : ∃ F, F = f_X5_orderCode (dv G Γ H0) (p1.toInt) := ⟨_, rfl⟩
  have hF := hF0.trans (f_X5_orderCode.eq_1 (dv G Γ H0) (p1.toInt))
  refine lv_iload_n hx hb gX5_orderCode_0.1 rfl (lv_at hl 0 rfl) ?_
  refine lv_sipush (v := 323) hx hb gX5_orderCode_0.2.1 (by decide) ?_
  have jn24 : ∀ (locs : List Loc) (ls : Array Slot) , th_B G Γ Γ [] H0 H0 locs → lv_has ls 1 [(0, .int p1)] → F = f_X5_orderCode_24 (dv G Γ H0) (p1.toInt) → W p l e ({ frames := 0, cells := 0, slots := 0, locals := 0 } : Room) s m ([.int p1] : List Value).toArray below meth c H0 locs 0 0 (MQ below (th_Q (fun (v : Option Value) (H1 : Heap) => ∃ r : Int32, v = some (.int r) ∧ (-1) ≤ r.toInt ∧ r.toInt ≤ 9999 ∧ (r.toInt ≠ -1 → p1.toInt ≠ -1) ∧ (f_X5_orderCode (dv G Γ H0) p1.toInt = (r.toInt, ())) ∧ H0 = H1) G) ([.int p1] : List Value).toArray s 0 0 (fun q => G.1.2.2 ≤ q)) (F0 m 24 ls []) := by
    intro locs ls hB hl hF
    replace hF := hF.trans (f_X5_orderCode_24.eq_1 (dv G Γ H0) (p1.toInt))
    refine lv_iload_n hx hb gX5_orderCode_1.2.2.2.2.1 rfl (lv_at hl 0 rfl) ?_
    refine lv_sipush (v := 321) hx hb gX5_orderCode_1.2.2.2.2.2.1 (by decide) ?_
    refine tr_icmp_ne (tgt := 37) hx hb gX5_orderCode_1.2.2.2.2.2.2.1 (by decide) (Eq.refl _) tk_321 (fun c28 => ?_) (fun c28 => ?_)
    · replace hF := hF.trans (if_pos c28)
      refine lv_iload_n hx hb gX5_orderCode_2.2.1 rfl (lv_at hl 0 rfl) ?_
      refine lv_sipush (v := 318) hx hb gX5_orderCode_2.2.2.1 (by decide) ?_
      refine tr_icmp_ne (tgt := 50) hx hb gX5_orderCode_2.2.2.2.1 (by decide) (Eq.refl _) tk_318 (fun c41 => ?_) (fun c41 => ?_)
      · replace hF := hF.trans (if_pos c41)
        refine lv_iload_n hx hb gX5_orderCode_2.2.2.2.2.2.2.1 rfl (lv_at hl 0 rfl) ?_
        refine lv_sipush (v := 327) hx hb gX5_orderCode_2.2.2.2.2.2.2.2 (by decide) ?_
        refine tr_icmp_ne (tgt := 63) hx hb gX5_orderCode_3.1 (by decide) (Eq.refl _) tk_327 (fun c54 => ?_) (fun c54 => ?_)
        · replace hF := hF.trans (if_pos c54)
          refine lv_iconst (v := (-1)) hx hb gX5_orderCode_3.2.2.2.1 (by decide) ?_
          exact th_iret hC hH hr hlocks rfl hB.2.1 ⟨_, rfl, by decide, by decide, by first | (intro h9; exact absurd h9 (by decide)) | (have w9 := tk_m1; intros; omega), (hF0.symm.trans (hF.trans (by rw [tk_m1]))), rfl⟩ gX5_orderCode_3.2.2.2.2
        · replace hF := hF.trans (if_neg (not_not_intro c54))
          refine lv_sipush (v := 2014) hx hb gX5_orderCode_3.2.1 (by decide) ?_
          refine lv_goto (tgt := 64) hx hb gX5_orderCode_3.2.2.1 (by decide) ?_
          exact th_iret hC hH hr hlocks rfl hB.2.1 ⟨_, rfl, by decide, by decide, by first | (intro h9; exact absurd h9 (by decide)) | (have w9 := tk_2014; intros; omega), (hF0.symm.trans (hF.trans (by rw [tk_2014]))), rfl⟩ gX5_orderCode_3.2.2.2.2
      · replace hF := hF.trans (if_neg (not_not_intro c41))
        refine lv_sipush (v := 2005) hx hb gX5_orderCode_2.2.2.2.2.1 (by decide) ?_
        refine lv_goto (tgt := 64) hx hb gX5_orderCode_2.2.2.2.2.2.1 (by decide) ?_
        exact th_iret hC hH hr hlocks rfl hB.2.1 ⟨_, rfl, by decide, by decide, by first | (intro h9; exact absurd h9 (by decide)) | (have w9 := tk_2005; intros; omega), (hF0.symm.trans (hF.trans (by rw [tk_2005]))), rfl⟩ gX5_orderCode_3.2.2.2.2
    · replace hF := hF.trans (if_neg (not_not_intro c28))
      refine lv_sipush (v := 2000) hx hb gX5_orderCode_1.2.2.2.2.2.2.2 (by decide) ?_
      refine lv_goto (tgt := 64) hx hb gX5_orderCode_2.1 (by decide) ?_
      exact th_iret hC hH hr hlocks rfl hB.2.1 ⟨_, rfl, by decide, by decide, by first | (intro h9; exact absurd h9 (by decide)) | (have w9 := tk_2000; intros; omega), (hF0.symm.trans (hF.trans (by rw [tk_2000]))), rfl⟩ gX5_orderCode_3.2.2.2.2
  refine tr_icmp_lt (tgt := 24) hx hb gX5_orderCode_0.2.2.1 (by decide) (Eq.refl _) tk_323 (fun c4 => ?_) (fun c4 => ?_)
  · replace hF := hF.trans (if_pos c4)
    exact jn24 [] ls hB (lv_sub hl [0] rfl) hF
  · replace hF := hF.trans (if_neg (Int.not_lt.mpr c4))
    refine lv_iload_n hx hb gX5_orderCode_0.2.2.2.1 rfl (lv_at hl 0 rfl) ?_
    refine lv_sipush (v := 326) hx hb gX5_orderCode_0.2.2.2.2.1 (by decide) ?_
    refine tr_icmp_gt (tgt := 24) hx hb gX5_orderCode_0.2.2.2.2.2.1 (by decide) (Eq.refl _) tk_326 (fun c11 => ?_) (fun c11 => ?_)
    · replace hF := hF.trans (if_pos c11)
      exact jn24 [] ls hB (lv_sub hl [0] rfl) hF
    · replace hF := hF.trans (if_neg (Int.not_lt.mpr c11))
      refine lv_sipush (v := 2001) hx hb gX5_orderCode_0.2.2.2.2.2.2.1 (by decide) ?_
      refine lv_iload_n hx hb gX5_orderCode_0.2.2.2.2.2.2.2 rfl (lv_at hl 0 rfl) ?_
      refine tr_iadd hx hb gX5_orderCode_1.1 tk_2001 (Eq.refl _) (by omega) (by omega) (fun x1 ex1 => ?_)
      replace hF := hF.trans (dv_bn (ex1.symm))
      refine lv_sipush (v := 323) hx hb gX5_orderCode_1.2.1 (by decide) ?_
      refine tr_isub hx hb gX5_orderCode_1.2.2.1 (Eq.refl _) tk_323 (by omega) (by omega) (fun x2 ex2 => ?_)
      replace hF := hF.trans (dv_bn (ex2.symm))
      exact th_iret hC hH hr hlocks rfl hB.2.1 ⟨_, rfl, by omega, by omega, by intros; omega, (hF0.symm.trans hF), rfl⟩ gX5_orderCode_1.2.2.2.1

set_option maxHeartbeats 4000000 in
set_option maxRecDepth 100000 in
theorem c_X5_lawCode (l : Launch) (G : th_G) (Γ : th_Ga) (H0 : Heap) (hI : th_I G Γ H0) (hU : dv_U Γ) (p1 : Int32) : Met l yX5_lawCode (.code yX5_lawCode cX5_lawCode 1 (some FieldType.int) :: th_tb) ({ frames := 0, cells := 0, slots := 0, locals := 0 } : Room) (th_P [.int p1] G H0) (th_Q (fun (v : Option Value) (H1 : Heap) => ∃ r : Int32, v = some (.int r) ∧ (-1) ≤ r.toInt ∧ r.toInt ≤ 9999 ∧ (r.toInt ≠ -1 → p1.toInt ≠ -1) ∧ (f_X5_lawCode (dv G Γ H0) p1.toInt = (r.toInt, ())) ∧ H0 = H1) G) 0 0 (fun q => G.1.2.2 ≤ q) := by
  refine th_met RX5 (by decide) rfl (Nat.le_of_ble_eq_true rfl) ?_
  intro p e s m below meth c hC hH hr hlocks hnm ls hl
  have hx := hC.1
  have hb := hC.2.1
  have hB : th_B G Γ Γ [] H0 H0 [] := ⟨hI, va_S.rf, th_F_rf⟩
  have hl : lv_has ls 1 [(0, .int p1)] := hl
  have lp1 := ti_lo p1; have up1 := ti_hi p1
  obtain ⟨F, hF0⟩ : ∃ F, F = f_X5_lawCode (dv G Γ H0) (p1.toInt) := ⟨_, rfl⟩
  have hF := hF0.trans (f_X5_lawCode.eq_1 (dv G Γ H0) (p1.toInt))
  refine lv_iload_n hx hb gX5_lawCode_0.1 rfl (lv_at hl 0 rfl) ?_
  refine lv_sipush (v := 315) hx hb gX5_lawCode_0.2.1 (by decide) ?_
  refine tr_icmp_lt (tgt := 26) hx hb gX5_lawCode_0.2.2.1 (by decide) (Eq.refl _) tk_315 (fun c4 => ?_) (fun c4 => ?_)
  · replace hF := hF.trans (if_pos c4)
    refine lv_iconst (v := (-1)) hx hb gX5_lawCode_1.2.2.2.2.1 (by decide) ?_
    exact th_iret hC hH hr hlocks rfl hB.2.1 ⟨_, rfl, by decide, by decide, by first | (intro h9; exact absurd h9 (by decide)) | (have w9 := tk_m1; intros; omega), (hF0.symm.trans (hF.trans (by rw [tk_m1]))), rfl⟩ gX5_lawCode_1.2.2.2.2.2
  · replace hF := hF.trans (if_neg (Int.not_lt.mpr c4))
    refine lv_iload_n hx hb gX5_lawCode_0.2.2.2.1 rfl (lv_at hl 0 rfl) ?_
    refine lv_sipush (v := 322) hx hb gX5_lawCode_0.2.2.2.2.1 (by decide) ?_
    refine tr_icmp_gt (tgt := 26) hx hb gX5_lawCode_0.2.2.2.2.2.1 (by decide) (Eq.refl _) tk_322 (fun c11 => ?_) (fun c11 => ?_)
    · replace hF := hF.trans (if_pos c11)
      refine lv_iconst (v := (-1)) hx hb gX5_lawCode_1.2.2.2.2.1 (by decide) ?_
      exact th_iret hC hH hr hlocks rfl hB.2.1 ⟨_, rfl, by decide, by decide, by first | (intro h9; exact absurd h9 (by decide)) | (have w9 := tk_m1; intros; omega), (hF0.symm.trans (hF.trans (by rw [tk_m1]))), rfl⟩ gX5_lawCode_1.2.2.2.2.2
    · replace hF := hF.trans (if_neg (Int.not_lt.mpr c11))
      refine lv_sipush (v := 2000) hx hb gX5_lawCode_0.2.2.2.2.2.2.1 (by decide) ?_
      refine lv_iload_n hx hb gX5_lawCode_0.2.2.2.2.2.2.2 rfl (lv_at hl 0 rfl) ?_
      refine tr_iadd hx hb gX5_lawCode_1.1 tk_2000 (Eq.refl _) (by omega) (by omega) (fun x1 ex1 => ?_)
      replace hF := hF.trans (dv_bn (ex1.symm))
      refine lv_sipush (v := 315) hx hb gX5_lawCode_1.2.1 (by decide) ?_
      refine tr_isub hx hb gX5_lawCode_1.2.2.1 (Eq.refl _) tk_315 (by omega) (by omega) (fun x2 ex2 => ?_)
      replace hF := hF.trans (dv_bn (ex2.symm))
      refine lv_goto (tgt := 27) hx hb gX5_lawCode_1.2.2.2.1 (by decide) ?_
      exact th_iret hC hH hr hlocks rfl hB.2.1 ⟨_, rfl, by omega, by omega, by intros; omega, (hF0.symm.trans hF), rfl⟩ gX5_lawCode_1.2.2.2.2.2
end
section
def th_RI (G : th_G) (Γ : th_Ga) (H : Heap) (a : Nat) : Prop := ∃ (tb o f : Nat) (v : Int32), th_sl H a (G.1.1.2 5 0) = .ref tb ∧ Γ tb = (21, o) ∧ f ≤ 400 ∧ th_sl H tb f = .int (-1) ∧ th_sl H a (G.1.1.2 5 5) = .int v ∧ 0 ≤ v.toInt ∧ v.toInt ≤ (f : Int)
def th_TK (G : th_G) (Γ : th_Ga) (H : Heap) (a : Nat) : Prop := ∃ (tb o : Nat) (v w : Int32), th_sl H a (G.1.1.2 5 0) = .ref tb ∧ Γ tb = (21, o) ∧ th_sl H a (G.1.1.2 5 5) = .int v ∧ th_sl H tb v.toInt.toNat = .int w ∧ w.toInt ≠ -1
def th_RD (G : th_G) (Γ : th_Ga) (H : Heap) : Prop := th_RC G Γ H ∧ ∀ a o : Nat, Γ a = (20, o) → th_RI G Γ H a
theorem th_RI_F {G : th_G} {Γ : th_Ga} {L : List (Nat × Nat)} {H H1 : Heap} {a o : Nat} (h : th_RI G Γ H a) (ha : Γ a = (20, o)) (hF : th_F G Γ L H H1) (hL : th_in L 20 0 = false ∧ th_in L 20 5 = false ∧ th_in L 21 0 = false) : th_RI G Γ H1 a := by
  obtain ⟨tb, o', f, v, e1, e2, e3, e4, e5, e6⟩ := h
  exact ⟨tb, o', f, v, (th_F_o hF ha ro_20 (j := 0) (by decide) hL.1).trans e1, e2, e3, (th_F_a hF e2 ro_21 hL.2.2 _).trans e4, (th_F_o hF ha ro_20 (j := 5) (by decide) hL.2.1).trans e5, e6⟩
theorem th_TK_F {G : th_G} {Γ : th_Ga} {L : List (Nat × Nat)} {H H1 : Heap} {a o : Nat} (h : th_TK G Γ H a) (ha : Γ a = (20, o)) (hF : th_F G Γ L H H1) (hL : th_in L 20 0 = false ∧ th_in L 20 5 = false ∧ th_in L 21 0 = false) : th_TK G Γ H1 a := by
  obtain ⟨tb, o', v, w, e1, e2, e5, e4, e6⟩ := h
  exact ⟨tb, o', v, w, (th_F_o hF ha ro_20 (j := 0) (by decide) hL.1).trans e1, e2, (th_F_o hF ha ro_20 (j := 5) (by decide) hL.2.1).trans e5, (th_F_a hF e2 ro_21 hL.2.2 _).trans e4, e6⟩
theorem th_RD_c {G : th_G} {Γ : th_Ga} {L : List (Nat × Nat)} {H H1 : Heap} (h1 : th_RC G Γ H1) (h : th_RD G Γ H) (hF : th_F G Γ L H H1) (hL : th_in L 20 0 = false ∧ th_in L 20 5 = false ∧ th_in L 21 0 = false) : th_RD G Γ H1 := ⟨h1, fun a o ha => th_RI_F (h.2 a o ha) ha hF hL⟩
theorem th_RI_at {G : th_G} {Γ : th_Ga} {H : Heap} {a : Nat} {x : Int32} (h : th_RI G Γ H a) (e : th_sl H a (G.1.1.2 5 5) = .int x) : 0 ≤ x.toInt ∧ x.toInt ≤ 400 := by
  obtain ⟨tb, o', f, v, e1, e2, e3, e4, e5, e6, e7⟩ := h
  have e8 : Value.int x = .int v := e.symm.trans e5
  have e9 : x = v := by injection e8
  rw [e9]
  exact ⟨e6, by omega⟩
theorem th_RD_up {G : th_G} {Γ : th_Ga} {H H1 : Heap} {a o : Nat} {x z : Int32} (hap : G.1.1.2 5 0 ≠ G.1.1.2 5 5) (h : th_RI G Γ H a) (hk : th_TK G Γ H a) (ha : Γ a = (20, o)) (e : th_sl H a (G.1.1.2 5 5) = .int x) (hz : z.toInt = x.toInt + 1) (hst : th_St H H1 a (G.1.1.2 5 5) (.int z)) : th_RI G Γ H1 a := by
  obtain ⟨tb, o', f, v, e1, e2, e3, e4, e5, e6, e7⟩ := h
  obtain ⟨tb', o2, v', w, d1, d2, d3, d4, d5⟩ := hk
  have e8 : Value.int x = .int v := e.symm.trans e5
  have e9 : x = v := by injection e8
  have f7 : Value.int x = .int v' := e.symm.trans d3
  have f8 : x = v' := by injection f7
  have t7 : Value.ref tb = .ref tb' := e1.symm.trans d1
  have t8 : tb = tb' := by injection t7
  have hx : x.toInt = v.toInt := by rw [e9]
  have hne : x.toInt.toNat ≠ f := by
    intro q
    rw [← f8, ← t8, q, e4] at d4
    have w7 : (-1 : Int32) = w := by injection d4
    exact d5 (by rw [← w7]; rfl)
  have hq : tb ≠ a := by
    intro q
    rw [q, ha] at e2
    cases e2
  exact ⟨tb, o', f, z, (hst.2.2.1 _ hap).trans e1, e2, e3, (th_sl_kept (hst.2.2.2.1 tb hq) _).trans e4, hst.2.1, by omega, by omega⟩
theorem th_RD_F {G : th_G} {Γ : th_Ga} {L : List (Nat × Nat)} {H H1 : Heap} (hI : th_I G Γ H1) (h : th_RD G Γ H) (hF : th_F G Γ L H H1) (hT : th_T Γ H H1) (hs : L.all (fun q => !th_RCs.contains q) = true ∧ th_in L 20 0 = false ∧ th_in L 20 5 = false ∧ th_in L 21 0 = false) : th_RD G Γ H1 := th_RD_c (th_RC_F hI h.1 hF hT hs.1) h hF hs.2
theorem th_RD_st {G : th_G} {Γ : th_Ga} {H H1 : Heap} {a0 i : Nat} {v : Value} (h1 : th_RC G Γ H1) (h : th_RD G Γ H) (ha : Γ a0 = (20, 0)) (hst : th_St H H1 a0 i v) (hri : th_RI G Γ H1 a0) : th_RD G Γ H1 := by
  refine ⟨h1, fun a o hg => ?_⟩
  by_cases e : a = a0
  · rw [e]; exact hri
  · obtain ⟨tb, o', f, x, e1, e2, e3, e4, e5, e6⟩ := h.2 a o hg
    have hq : tb ≠ a0 := by
      intro q
      rw [q, ha] at e2
      cases e2
    exact ⟨tb, o', f, x, (th_sl_kept (hst.2.2.2.1 a e) _).trans e1, e2, e3, (th_sl_kept (hst.2.2.2.1 tb hq) _).trans e4, (th_sl_kept (hst.2.2.2.1 a e) _).trans e5, e6⟩
theorem th_RI_same {G : th_G} {Γ : th_Ga} {H H1 : Heap} {a o : Nat} {x z : Int32} (hap : G.1.1.2 5 0 ≠ G.1.1.2 5 5) (h : th_RI G Γ H a) (ha : Γ a = (20, o)) (e : th_sl H a (G.1.1.2 5 5) = .int x) (hz : z.toInt = x.toInt) (hst : th_St H H1 a (G.1.1.2 5 5) (.int z)) : th_RI G Γ H1 a := by
  obtain ⟨tb, o', f, v, e1, e2, e3, e4, e5, e6, e7⟩ := h
  have e8 : Value.int x = .int v := e.symm.trans e5
  have e9 : x = v := by injection e8
  have hx : x.toInt = v.toInt := by rw [e9]
  have hq : tb ≠ a := by
    intro q
    rw [q, ha] at e2
    cases e2
  exact ⟨tb, o', f, z, (hst.2.2.1 _ hap).trans e1, e2, e3, (th_sl_kept (hst.2.2.2.1 tb hq) _).trans e4, hst.2.1, by omega, by omega⟩
theorem th_TKi_F {G : th_G} {Γ : th_Ga} {L : List (Nat × Nat)} {H H1 : Heap} {a o : Nat} {P : Prop} (h : P → th_TK G Γ H a) (ha : Γ a = (20, o)) (hF : th_F G Γ L H H1) (hL : th_in L 20 0 = false ∧ th_in L 20 5 = false ∧ th_in L 21 0 = false) : P → th_TK G Γ H1 a := fun q => th_TK_F (h q) ha hF hL
set_option maxHeartbeats 4000000 in
set_option maxRecDepth 100000 in
theorem c_X5_seenToken (l : Launch) (G : th_G) (Γ : th_Ga) (H0 : Heap) (hI : th_I G Γ H0) (hR : th_RD G Γ H0) (hU : dv_U Γ) (a0 : Nat) (h0 : Γ a0 = (20, 0)) : Met l yX5_seenToken (.code yX5_seenToken cX5_seenToken 1 (some FieldType.int) :: th_tb) ({ frames := 0, cells := 0, slots := 0, locals := 0 } : Room) (th_P [.ref a0] G H0) (th_Q (fun (v : Option Value) (H1 : Heap) => ∃ r : Int32, v = some (.int r) ∧ (r.toInt ≠ -1 → th_TK G Γ H0 a0) ∧ (f_X5_seenToken (dv G Γ H0) (a0 : Int) = (r.toInt, ())) ∧ H0 = H1) G) 0 0 (fun q => G.1.2.2 ≤ q) := by
  refine th_met RX5 (by decide) rfl (Nat.le_of_ble_eq_true rfl) ?_
  intro p e s m below meth c hC hH hr hlocks hnm ls hl
  have hx := hC.1
  have hb := hC.2.1
  have hB : th_B G Γ Γ [] H0 H0 [] := ⟨hI, va_S.rf, th_F_rf⟩
  have hl : lv_has ls 1 [(0, .ref a0)] := hl
  obtain ⟨F, hF0⟩ : ∃ F, F = f_X5_seenToken (dv G Γ H0) ((a0 : Int)) := ⟨_, rfl⟩
  have hF := hF0.trans (f_X5_seenToken.eq_1 (dv G Γ H0) ((a0 : Int)))
  refine lv_aload_n hx hb gX5_seenToken_0.1 rfl (lv_at hl 0 rfl) ?_
  refine th_getI (j := 8) hC cf_X5 hB.1 h0 ro_20 rfl rfl kf_X5_40 gX5_seenToken_0.2.1 (fun x1 mx1 lx1 ux1 => ?_)
  replace hF := hF.trans (dv_bn (dv_getI h0 ro_20 (j := 8) rfl mx1 (by decide)))
  refine lv_iconst (v := (-1)) hx hb gX5_seenToken_0.2.2.1 (by decide) ?_
  refine tr_icmp_ne (tgt := 20) hx hb gX5_seenToken_0.2.2.2.1 (by decide) (Eq.refl _) tk_m1 (fun c5 => ?_) (fun c5 => ?_)
  · replace hF := hF.trans (if_pos c5)
    refine lv_iconst (v := (-1)) hx hb gX5_seenToken_1.2.2.1 (by decide) ?_
    exact th_iret hC hH hr hlocks rfl hB.2.1 ⟨_, rfl, by first | (intro h9; exact absurd rfl h9) | (intro h9; exact ⟨_, _, _, _, mb2, hb2, mx3, mx4, h9⟩), (hF0.symm.trans (hF.trans (by rw [tk_m1]))), rfl⟩ gX5_seenToken_1.2.2.2
  · replace hF := hF.trans (if_neg (not_not_intro c5))
    refine lv_aload_n hx hb gX5_seenToken_0.2.2.2.2.1 rfl (lv_at hl 0 rfl) ?_
    refine th_getO (j := 0) (r2 := 21) hC cf_X5 hB.1 h0 ro_20 rfl rfl kf_X5_11 gX5_seenToken_0.2.2.2.2.2.1 (fun b2 mb2 hb2 => ?_)
    refine lv_aload_n hx hb gX5_seenToken_0.2.2.2.2.2.2.1 rfl (lv_at hl 0 rfl) ?_
    refine th_getI (j := 5) hC cf_X5 hB.1 h0 ro_20 rfl rfl kf_X5_30 gX5_seenToken_0.2.2.2.2.2.2.2 (fun x3 mx3 lx3 ux3 => ?_)
    obtain ⟨rax3, rbx3⟩ := th_RI_at (hR.2 _ _ h0) mx3
    replace hF := hF.trans (dv_bn (dv_getI h0 ro_20 (j := 5) rfl mx3 (by decide)))
    refine th_ialdF hC hB.1 hb2 ro_21 rfl (Eq.refl _) (by omega) (by omega) rfl gX5_seenToken_1.1 (fun x4 mx4 lx4 ux4 => ?_)
    replace hF := hF.trans (dv_bn (dv_aldI hB.1 hU hb2 ow_21 (z := x3.toInt) mx4 (by omega)))
    refine lv_goto (tgt := 21) hx hb gX5_seenToken_1.2.1 (by decide) ?_
    exact th_iret hC hH hr hlocks rfl hB.2.1 ⟨_, rfl, by first | (intro h9; exact absurd rfl h9) | (intro h9; exact ⟨_, _, _, _, mb2, hb2, mx3, mx4, h9⟩), (hF0.symm.trans hF), rfl⟩ gX5_seenToken_1.2.2.2

set_option maxHeartbeats 4000000 in
set_option maxRecDepth 100000 in
theorem c_X5_fail (l : Launch) (G : th_G) (Γ : th_Ga) (H0 : Heap) (hI : th_I G Γ H0) (hR : th_RD G Γ H0) (hU : dv_U Γ) (a0 : Nat) (h0 : Γ a0 = (20, 0)) : Met l yX5_fail (.code yX5_fail cX5_fail 1 (none) :: th_tb) ({ frames := 0, cells := 0, slots := 0, locals := 0 } : Room) (th_P [.ref a0] G H0) (th_Q (fun (v : Option Value) (H1 : Heap) => v = none ∧ th_I G Γ H1 ∧ th_F G Γ [(20, 8)] H0 H1 ∧ th_RD G Γ H1 ∧ (f_X5_fail (dv G Γ H0) (a0 : Int) = (dv G Γ H1, 0))) G) 0 0 (fun q => G.1.2.2 ≤ q) := by
  refine th_met RX5 (by decide) rfl (Nat.le_of_ble_eq_true rfl) ?_
  intro p e s m below meth c hC hH hr hlocks hnm ls hl
  have hx := hC.1
  have hb := hC.2.1
  have hB : th_B G Γ Γ [(20, 8)] H0 H0 [] := ⟨hI, va_S.rf, th_F_rf⟩
  have hl : lv_has ls 1 [(0, .ref a0)] := hl
  obtain ⟨F, hF0⟩ : ∃ F, F = f_X5_fail (dv G Γ H0) ((a0 : Int)) := ⟨_, rfl⟩
  have hF := hF0.trans (f_X5_fail.eq_1 (dv G Γ H0) ((a0 : Int)))
  refine lv_aload_n hx hb gX5_fail_0.1 rfl (lv_at hl 0 rfl) ?_
  refine th_getI (j := 8) hC cf_X5 hB.1 h0 ro_20 rfl rfl kf_X5_40 gX5_fail_0.2.1 (fun x1 mx1 lx1 ux1 => ?_)
  replace hF := hF.trans (dv_bn (dv_getI h0 ro_20 (j := 8) rfl mx1 (by decide)))
  refine lv_iconst (v := (-1)) hx hb gX5_fail_0.2.2.1 (by decide) ?_
  refine tr_icmp_ne (tgt := 21) hx hb gX5_fail_0.2.2.2.1 (by decide) (Eq.refl _) tk_m1 (fun c5 => ?_) (fun c5 => ?_)
  · replace hF := hF.trans (if_pos c5)
    exact th_vret hC hH hr hlocks hB.2.1 ⟨rfl, hB.1, hB.2.2, hR, (hF0.symm.trans hF)⟩ gX5_fail_1.2.2.2
  · replace hF := hF.trans (if_neg (not_not_intro c5))
    refine lv_aload_n hx hb gX5_fail_0.2.2.2.2.1 rfl (lv_at hl 0 rfl) ?_
    refine lv_aload_n hx hb gX5_fail_0.2.2.2.2.2.1 rfl (lv_at hl 0 rfl) ?_
    refine th_getO (j := 1) (r2 := 22) hC cf_X5 hB.1 h0 ro_20 rfl rfl kf_X5_15 gX5_fail_0.2.2.2.2.2.2.1 (fun b2 mb2 hb2 => ?_)
    refine lv_aload_n hx hb gX5_fail_0.2.2.2.2.2.2.2 rfl (lv_at hl 0 rfl) ?_
    refine th_getI (j := 5) hC cf_X5 hB.1 h0 ro_20 rfl rfl kf_X5_30 gX5_fail_1.1 (fun x3 mx3 lx3 ux3 => ?_)
    obtain ⟨rax3, rbx3⟩ := th_RI_at (hR.2 _ _ h0) mx3
    replace hF := hF.trans (dv_bn (dv_getI h0 ro_20 (j := 5) rfl mx3 (by decide)))
    refine th_ialdF hC hB.1 hb2 ro_22 rfl (Eq.refl _) (by omega) (by omega) rfl gX5_fail_1.2.1 (fun x4 mx4 lx4 ux4 => ?_)
    replace hF := hF.trans (dv_bn (dv_aldI hB.1 hU hb2 ow_22 (z := x3.toInt) mx4 (by omega)))
    refine th_put hC cf_X5 hB h0 (Or.inl h0) ro_20 rfl (j := 8) rfl th_sIa (by decide) rfl rfl rfl kf_X5_40 gX5_fail_1.2.2.1 (fun H18 locs hB hf hst18 => ?_)
    have hR := th_RD_F hB.1 hR hf (th_T_s h0 ro_20 hst18) (by decide)
    replace hF := hF.trans (dv_bn (dv_putI hB.1 h0 ro_20 (j := 8) rfl (th_apart hC cf_X5) hst18 (Eq.refl _) (by decide)))
    exact th_vret hC hH hr hlocks hB.2.1 ⟨rfl, hB.1, hB.2.2, hR, (hF0.symm.trans hF)⟩ gX5_fail_1.2.2.2

set_option maxHeartbeats 4000000 in
set_option maxRecDepth 100000 in
theorem c_X5_take (l : Launch) (G : th_G) (Γ : th_Ga) (H0 : Heap) (hI : th_I G Γ H0) (hR : th_RD G Γ H0) (hU : dv_U Γ) (a0 : Nat) (h0 : Γ a0 = (20, 0)) (p1 : Int32) (f1 : 0 ≤ p1.toInt) : Met l yX5_take (.code yX5_take cX5_take 2 (some FieldType.boolean) :: th_tb) ({ frames := 0, cells := 0, slots := 0, locals := 0 } : Room) (th_P [.ref a0, .int p1] G H0) (th_Q (fun (v : Option Value) (H1 : Heap) => ∃ r : Int32, v = some (.int r) ∧ 0 ≤ r.toInt ∧ r.toInt ≤ 1 ∧ th_I G Γ H1 ∧ th_F G Γ [(20, 5)] H0 H1 ∧ th_RD G Γ H1 ∧ (r.toInt = 0 → H1 = H0) ∧ (f_X5_take (dv G Γ H0) (a0 : Int) p1.toInt = (dv G Γ H1, r.toInt))) G) 0 0 (fun q => G.1.2.2 ≤ q) := by
  refine th_met RX5 (by decide) rfl (Nat.le_of_ble_eq_true rfl) ?_
  intro p e s m below meth c hC hH hr hlocks hnm ls hl
  have hx := hC.1
  have hb := hC.2.1
  have hB : th_B G Γ Γ [(20, 5)] H0 H0 [] := ⟨hI, va_S.rf, th_F_rf⟩
  have hl : lv_has ls 2 [(0, .ref a0), (1, .int p1)] := hl
  have lp1 := ti_lo p1; have up1 := ti_hi p1
  obtain ⟨F, hF0⟩ : ∃ F, F = f_X5_take (dv G Γ H0) ((a0 : Int)) (p1.toInt) := ⟨_, rfl⟩
  have hF := hF0.trans (f_X5_take.eq_1 (dv G Γ H0) ((a0 : Int)) (p1.toInt))
  refine lv_aload_n hx hb gX5_take_0.1 rfl (lv_at hl 0 rfl) ?_
  refine th_getI (j := 8) hC cf_X5 hB.1 h0 ro_20 rfl rfl kf_X5_40 gX5_take_0.2.1 (fun x1 mx1 lx1 ux1 => ?_)
  replace hF := hF.trans (dv_bn (dv_getI h0 ro_20 (j := 8) rfl mx1 (by decide)))
  refine lv_iconst (v := (-1)) hx hb gX5_take_0.2.2.1 (by decide) ?_
  refine tr_icmp_ne (tgt := 21) hx hb gX5_take_0.2.2.2.1 (by decide) (Eq.refl _) tk_m1 (fun c5 => ?_) (fun c5 => ?_)
  · replace hF := hF.trans (if_pos c5)
    refine lv_iconst (v := 0) hx hb gX5_take_1.2.2.2.1 (by decide) ?_
    exact th_iret hC hH hr hlocks narrow_b0 hB.2.1 ⟨_, rfl, by decide, by decide, hB.1, hB.2.2, hR, by first | (intro _; rfl) | (intro h9; exact absurd h9 (by decide)), (hF0.symm.trans (hF.trans (by rw [tk_0])))⟩ gX5_take_1.2.2.2.2.1
  · replace hF := hF.trans (if_neg (not_not_intro c5))
    refine lv_aload_n hx hb gX5_take_0.2.2.2.2.1 rfl (lv_at hl 0 rfl) ?_
    refine th_getO (j := 0) (r2 := 21) hC cf_X5 hB.1 h0 ro_20 rfl rfl kf_X5_11 gX5_take_0.2.2.2.2.2.1 (fun b2 mb2 hb2 => ?_)
    refine lv_aload_n hx hb gX5_take_0.2.2.2.2.2.2.1 rfl (lv_at hl 0 rfl) ?_
    refine th_getI (j := 5) hC cf_X5 hB.1 h0 ro_20 rfl rfl kf_X5_30 gX5_take_0.2.2.2.2.2.2.2 (fun x3 mx3 lx3 ux3 => ?_)
    obtain ⟨rax3, rbx3⟩ := th_RI_at (hR.2 _ _ h0) mx3
    replace hF := hF.trans (dv_bn (dv_getI h0 ro_20 (j := 5) rfl mx3 (by decide)))
    refine th_ialdF hC hB.1 hb2 ro_21 rfl (Eq.refl _) (by omega) (by omega) rfl gX5_take_1.1 (fun x4 mx4 lx4 ux4 => ?_)
    replace hF := hF.trans (dv_bn (dv_aldI hB.1 hU hb2 ow_21 (z := x3.toInt) mx4 (by omega)))
    refine lv_iload_n hx hb gX5_take_1.2.1 rfl (lv_at hl 1 rfl) ?_
    refine tr_icmp_eq (tgt := 23) hx hb gX5_take_1.2.2.1 (by decide) (Eq.refl _) (Eq.refl _) (fun c18 => ?_) (fun c18 => ?_)
    · replace hF := hF.trans (if_pos c18)
      refine lv_aload_n hx hb gX5_take_1.2.2.2.2.2.1 rfl (lv_at hl 0 rfl) ?_
      refine lv_dup hx hb gX5_take_1.2.2.2.2.2.2.1 rfl ?_
      refine th_getK hC cf_X5 hB.1 h0 ro_20 rfl (j := 5) (by decide) mx3 kf_X5_30 gX5_take_1.2.2.2.2.2.2.2 ?_
      replace hF := hF.trans (dv_bn (dv_getI h0 ro_20 (j := 5) rfl mx3 (by decide)))
      refine lv_iconst (v := 1) hx hb gX5_take_2.1 (by decide) ?_
      refine tr_iadd hx hb gX5_take_2.2.1 (Eq.refl _) tk_1 (by omega) (by omega) (fun x5 ex5 => ?_)
      replace hF := hF.trans (dv_bn (ex5.symm))
      refine th_put hC cf_X5 hB h0 (Or.inl h0) ro_20 rfl (j := 5) rfl th_sIa (by decide) rfl rfl rfl kf_X5_30 gX5_take_2.2.2.1 (fun H30 locs hB hf hst30 => ?_)
      replace hF := hF.trans (dv_bn (dv_putI hB.1 h0 ro_20 (j := 5) rfl (th_apart hC cf_X5) hst30 (Eq.refl _) (by decide)))
      have hR := th_RD_st (th_RC_F hB.1 hR.1 hf (th_T_s h0 ro_20 hst30) (by decide)) hR h0 hst30 (th_RD_up (th_apart hC cf_X5 0 5 (by decide) (by decide) (by decide)) (hR.2 _ _ h0) ⟨_, _, _, _, mb2, hb2, mx3, mx4, by omega⟩ h0 mx3 (by omega) hst30)
      refine lv_iconst (v := 1) hx hb gX5_take_2.2.2.2.1 (by decide) ?_
      exact th_iret hC hH hr hlocks narrow_b1 hB.2.1 ⟨_, rfl, by decide, by decide, hB.1, hB.2.2, hR, by first | (intro _; rfl) | (intro h9; exact absurd h9 (by decide)), (hF0.symm.trans (hF.trans (by rw [tk_1])))⟩ gX5_take_2.2.2.2.2
    · replace hF := hF.trans (if_neg c18)
      refine lv_iconst (v := 0) hx hb gX5_take_1.2.2.2.1 (by decide) ?_
      exact th_iret hC hH hr hlocks narrow_b0 hB.2.1 ⟨_, rfl, by decide, by decide, hB.1, hB.2.2, hR, by first | (intro _; rfl) | (intro h9; exact absurd h9 (by decide)), (hF0.symm.trans (hF.trans (by rw [tk_0])))⟩ gX5_take_1.2.2.2.2.1

set_option maxHeartbeats 4000000 in
set_option maxRecDepth 100000 in
theorem c_X5_takeNumber (l : Launch) (G : th_G) (Γ : th_Ga) (H0 : Heap) (hI : th_I G Γ H0) (hR : th_RD G Γ H0) (hU : dv_U Γ) (a0 : Nat) (h0 : Γ a0 = (20, 0)) (p1 : Int32) (f1 : 0 ≤ p1.toInt) (p2 : Int32) : Met l yX5_takeNumber (.code yX5_takeNumber cX5_takeNumber 4 (some FieldType.int) :: th_tb) ({ frames := 0, cells := 0, slots := 0, locals := 0 } : Room) (th_P [.ref a0, .int p1, .int p2] G H0) (th_Q (fun (v : Option Value) (H1 : Heap) => ∃ r : Int32, v = some (.int r) ∧ (-1) ≤ r.toInt ∧ (r.toInt ≠ -1 → p1.toInt ≤ r.toInt ∧ r.toInt ≤ p2.toInt) ∧ th_I G Γ H1 ∧ th_F G Γ [(20, 5)] H0 H1 ∧ th_RD G Γ H1 ∧ (r.toInt = -1 → H1 = H0) ∧ (f_X5_takeNumber (dv G Γ H0) (a0 : Int) p1.toInt p2.toInt = (dv G Γ H1, r.toInt))) G) 0 0 (fun q => G.1.2.2 ≤ q) := by
  refine th_met RX5 (by decide) rfl (Nat.le_of_ble_eq_true rfl) ?_
  intro p e s m below meth c hC hH hr hlocks hnm ls hl
  have hx := hC.1
  have hb := hC.2.1
  have hB : th_B G Γ Γ [(20, 5)] H0 H0 [] := ⟨hI, va_S.rf, th_F_rf⟩
  have hl : lv_has ls 4 [(0, .ref a0), (1, .int p1), (2, .int p2)] := hl
  have lp1 := ti_lo p1; have up1 := ti_hi p1
  have lp2 := ti_lo p2; have up2 := ti_hi p2
  obtain ⟨F, hF0⟩ : ∃ F, F = f_X5_takeNumber (dv G Γ H0) ((a0 : Int)) (p1.toInt) (p2.toInt) := ⟨_, rfl⟩
  have hF := hF0.trans (f_X5_takeNumber.eq_1 (dv G Γ H0) ((a0 : Int)) (p1.toInt) (p2.toInt))
  refine lv_aload_n hx hb gX5_takeNumber_0.1 rfl (lv_at hl 0 rfl) ?_
  refine th_getO (j := 0) (r2 := 21) hC cf_X5 hB.1 h0 ro_20 rfl rfl kf_X5_11 gX5_takeNumber_0.2.1 (fun b1 mb1 hb1 => ?_)
  refine lv_aload_n hx hb gX5_takeNumber_0.2.2.1 rfl (lv_at hl 0 rfl) ?_
  refine th_getI (j := 5) hC cf_X5 hB.1 h0 ro_20 rfl rfl kf_X5_30 gX5_takeNumber_0.2.2.2.1 (fun x2 mx2 lx2 ux2 => ?_)
  obtain ⟨rax2, rbx2⟩ := th_RI_at (hR.2 _ _ h0) mx2
  replace hF := hF.trans (dv_bn (dv_getI h0 ro_20 (j := 5) rfl mx2 (by decide)))
  refine th_ialdF hC hB.1 hb1 ro_21 rfl (Eq.refl _) (by omega) (by omega) rfl gX5_takeNumber_0.2.2.2.2.1 (fun x3 mx3 lx3 ux3 => ?_)
  replace hF := hF.trans (dv_bn (dv_aldI hB.1 hU hb1 ow_21 (z := x2.toInt) mx3 (by omega)))
  refine lv_sipush (v := 400) hx hb gX5_takeNumber_0.2.2.2.2.2.1 (by decide) ?_
  refine lv_isub hx hb gX5_takeNumber_0.2.2.2.2.2.2.1 ?_
  refine lv_topi (fun x4 ex4 => ?_)
  have lx4 := ti_lo x4; have ux4 := ti_hi x4
  replace hF := hF.trans (dv_bn (dv_sub_e (Eq.refl _) tk_400 ex4))
  refine lv_istore_n (lv' := [(3, .int x4), (0, .ref a0), (1, .int p1), (2, .int p2)]) hx hb gX5_takeNumber_0.2.2.2.2.2.2.2 rfl hl (by decide) rfl (fun ls hl => ?_)
  refine lv_aload_n hx hb gX5_takeNumber_1.1 rfl (lv_at hl 1 rfl) ?_
  refine th_getI (j := 8) hC cf_X5 hB.1 h0 ro_20 rfl rfl kf_X5_40 gX5_takeNumber_1.2.1 (fun x5 mx5 lx5 ux5 => ?_)
  replace hF := hF.trans (dv_bn (dv_getI h0 ro_20 (j := 8) rfl mx5 (by decide)))
  refine lv_iconst (v := (-1)) hx hb gX5_takeNumber_1.2.2.1 (by decide) ?_
  refine tr_icmp_ne (tgt := 32) hx hb gX5_takeNumber_1.2.2.2.1 (by decide) (Eq.refl _) tk_m1 (fun c19 => ?_) (fun c19 => ?_)
  · replace hF := hF.trans (if_pos c19)
    refine lv_iconst (v := (-1)) hx hb gX5_takeNumber_2.2.2.1 (by decide) ?_
    exact th_iret hC hH hr hlocks rfl hB.2.1 ⟨_, rfl, by decide, by first | (intro h9; exact absurd h9 (by decide)) | (have w9 := tk_m1; intros; omega), hB.1, hB.2.2, hR, by first | (intro _; rfl) | (intro h9; omega), (hF0.symm.trans (hF.trans (by rw [tk_m1])))⟩ gX5_takeNumber_2.2.2.2.1
  · replace hF := hF.trans (if_neg (not_not_intro c19))
    refine lv_iload_n hx hb gX5_takeNumber_1.2.2.2.2.1 rfl (lv_at hl 0 rfl) ?_
    refine lv_iload_n hx hb gX5_takeNumber_1.2.2.2.2.2.1 rfl (lv_at hl 2 rfl) ?_
    refine tr_icmp_lt (tgt := 32) hx hb gX5_takeNumber_1.2.2.2.2.2.2.1 (by decide) (Eq.refl _) (Eq.refl _) (fun c24 => ?_) (fun c24 => ?_)
    · replace hF := hF.trans (if_pos c24)
      refine lv_iconst (v := (-1)) hx hb gX5_takeNumber_2.2.2.1 (by decide) ?_
      exact th_iret hC hH hr hlocks rfl hB.2.1 ⟨_, rfl, by decide, by first | (intro h9; exact absurd h9 (by decide)) | (have w9 := tk_m1; intros; omega), hB.1, hB.2.2, hR, by first | (intro _; rfl) | (intro h9; omega), (hF0.symm.trans (hF.trans (by rw [tk_m1])))⟩ gX5_takeNumber_2.2.2.2.1
    · replace hF := hF.trans (if_neg (Int.not_lt.mpr c24))
      refine lv_iload_n hx hb gX5_takeNumber_1.2.2.2.2.2.2.2 rfl (lv_at hl 0 rfl) ?_
      refine lv_iload_n hx hb gX5_takeNumber_2.1 rfl (lv_at hl 3 rfl) ?_
      refine tr_icmp_le (tgt := 34) hx hb gX5_takeNumber_2.2.1 (by decide) (Eq.refl _) (Eq.refl _) (fun c29 => ?_) (fun c29 => ?_)
      · replace hF := hF.trans (if_pos c29)
        refine lv_aload_n hx hb gX5_takeNumber_2.2.2.2.2.1 rfl (lv_at hl 1 rfl) ?_
        refine lv_dup hx hb gX5_takeNumber_2.2.2.2.2.2.1 rfl ?_
        refine th_getK hC cf_X5 hB.1 h0 ro_20 rfl (j := 5) (by decide) mx2 kf_X5_30 gX5_takeNumber_2.2.2.2.2.2.2.1 ?_
        replace hF := hF.trans (dv_bn (dv_getI h0 ro_20 (j := 5) rfl mx2 (by decide)))
        refine lv_iconst (v := 1) hx hb gX5_takeNumber_2.2.2.2.2.2.2.2 (by decide) ?_
        refine tr_iadd hx hb gX5_takeNumber_3.1 (Eq.refl _) tk_1 (by omega) (by omega) (fun x6 ex6 => ?_)
        replace hF := hF.trans (dv_bn (ex6.symm))
        refine th_put hC cf_X5 hB h0 (Or.inl h0) ro_20 rfl (j := 5) rfl th_sIa (by decide) rfl rfl rfl kf_X5_30 gX5_takeNumber_3.2.1 (fun H41 locs hB hf hst41 => ?_)
        replace hF := hF.trans (dv_bn (dv_putI hB.1 h0 ro_20 (j := 5) rfl (th_apart hC cf_X5) hst41 (Eq.refl _) (by decide)))
        have f41 : x3.toInt ≠ -1 := by
          intro q9
          have e9 : x3 = -1 := Int32.toInt_inj.mp q9
          rw [e9] at ex4
          have e8 : x4.toInt = -401 := by rw [ex4]; rfl
          omega
        have hR := th_RD_st (th_RC_F hB.1 hR.1 hf (th_T_s h0 ro_20 hst41) (by decide)) hR h0 hst41 (th_RD_up (th_apart hC cf_X5 0 5 (by decide) (by decide) (by decide)) (hR.2 _ _ h0) ⟨_, _, _, _, mb1, hb1, mx2, mx3, f41⟩ h0 mx2 (by omega) hst41)
        refine lv_iload_n hx hb gX5_takeNumber_3.2.2.1 rfl (lv_at hl 0 rfl) ?_
        exact th_iret hC hH hr hlocks rfl hB.2.1 ⟨_, rfl, by omega, by intros; omega, hB.1, hB.2.2, hR, by first | (intro _; rfl) | (intro h9; omega), (hF0.symm.trans hF)⟩ gX5_takeNumber_3.2.2.2
      · replace hF := hF.trans (if_neg (Int.not_le.mpr c29))
        refine lv_iconst (v := (-1)) hx hb gX5_takeNumber_2.2.2.1 (by decide) ?_
        exact th_iret hC hH hr hlocks rfl hB.2.1 ⟨_, rfl, by decide, by first | (intro h9; exact absurd h9 (by decide)) | (have w9 := tk_m1; intros; omega), hB.1, hB.2.2, hR, by first | (intro _; rfl) | (intro h9; omega), (hF0.symm.trans (hF.trans (by rw [tk_m1])))⟩ gX5_takeNumber_2.2.2.2.1

set_option maxHeartbeats 4000000 in
set_option maxRecDepth 100000 in
theorem c_X5_openBracket (l : Launch) (G : th_G) (Γ : th_Ga) (H0 : Heap) (hI : th_I G Γ H0) (hR : th_RD G Γ H0) (hU : dv_U Γ) (a0 : Nat) (h0 : Γ a0 = (20, 0)) (k1 : th_TK G Γ H0 a0) (bv : Int32) (mbv : th_sl H0 a0 (G.1.1.2 5 7) = .int bv) : Met l yX5_openBracket (.code yX5_openBracket cX5_openBracket 1 (some FieldType.boolean) :: th_tb) ({ frames := 0, cells := 0, slots := 0, locals := 0 } : Room) (th_P [.ref a0] G H0) (th_Q (fun (v : Option Value) (H1 : Heap) => ∃ r : Int32, v = some (.int r) ∧ 0 ≤ r.toInt ∧ r.toInt ≤ 1 ∧ th_I G Γ H1 ∧ th_F G Γ [(20, 5), (20, 7)] H0 H1 ∧ th_RD G Γ H1 ∧ (r.toInt = 1 → bv.toInt < 8 ∧ ∃ b1 : Int32, th_sl H1 a0 (G.1.1.2 5 7) = .int b1 ∧ b1.toInt = bv.toInt + 1) ∧ (r.toInt = 0 → H1 = H0) ∧ (f_X5_openBracket (dv G Γ H0) (a0 : Int) = (dv G Γ H1, r.toInt))) G) 0 0 (fun q => G.1.2.2 ≤ q) := by
  refine th_met RX5 (by decide) rfl (Nat.le_of_ble_eq_true rfl) ?_
  intro p e s m below meth c hC hH hr hlocks hnm ls hl
  have hx := hC.1
  have hb := hC.2.1
  have hB : th_B G Γ Γ [(20, 5), (20, 7)] H0 H0 [] := ⟨hI, va_S.rf, th_F_rf⟩
  have hl : lv_has ls 1 [(0, .ref a0)] := hl
  have lbv := ti_lo bv; have ubv := ti_hi bv
  obtain ⟨F, hF0⟩ : ∃ F, F = f_X5_openBracket (dv G Γ H0) ((a0 : Int)) := ⟨_, rfl⟩
  have hF := hF0.trans (f_X5_openBracket.eq_1 (dv G Γ H0) ((a0 : Int)))
  refine lv_aload_n hx hb gX5_openBracket_0.1 rfl (lv_at hl 0 rfl) ?_
  refine th_getK hC cf_X5 hB.1 h0 ro_20 rfl (j := 7) (by decide) mbv kf_X5_37 gX5_openBracket_0.2.1 ?_
  replace hF := hF.trans (dv_bn (dv_getI h0 ro_20 (j := 7) rfl mbv (by decide)))
  refine lv_bipush (v := 8) hx hb gX5_openBracket_0.2.2.1 (by decide) ?_
  refine tr_icmp_lt (tgt := 11) hx hb gX5_openBracket_0.2.2.2.1 (by decide) (Eq.refl _) tk_8 (fun c6 => ?_) (fun c6 => ?_)
  · replace hF := hF.trans (if_pos c6)
    refine lv_aload_n hx hb gX5_openBracket_0.2.2.2.2.2.2.1 rfl (lv_at hl 0 rfl) ?_
    refine lv_dup hx hb gX5_openBracket_0.2.2.2.2.2.2.2 rfl ?_
    refine th_getK hC cf_X5 hB.1 h0 ro_20 rfl (j := 7) (by decide) mbv kf_X5_37 gX5_openBracket_1.1 ?_
    replace hF := hF.trans (dv_bn (dv_getI h0 ro_20 (j := 7) rfl mbv (by decide)))
    refine lv_iconst (v := 1) hx hb gX5_openBracket_1.2.1 (by decide) ?_
    refine tr_iadd hx hb gX5_openBracket_1.2.2.1 (Eq.refl _) tk_1 (by omega) (by omega) (fun x1 ex1 => ?_)
    replace hF := hF.trans (dv_bn (ex1.symm))
    refine th_put hC cf_X5 hB h0 (Or.inl h0) ro_20 rfl (j := 7) rfl th_sIa (by decide) rfl rfl rfl kf_X5_37 gX5_openBracket_1.2.2.2.1 (fun H18 locs hB hf hst18 => ?_)
    have mc2 := th_TK_F k1 h0 hf (by decide)
    have hR := th_RD_F hB.1 hR hf (th_T_s h0 ro_20 hst18) (by decide)
    replace hF := hF.trans (dv_bn (dv_putI hB.1 h0 ro_20 (j := 7) rfl (th_apart hC cf_X5) hst18 (Eq.refl _) (by decide)))
    have mm3 := hst18.2.1
    refine lv_aload_n hx hb gX5_openBracket_1.2.2.2.2.1 rfl (lv_at hl 0 rfl) ?_
    refine lv_dup hx hb gX5_openBracket_1.2.2.2.2.2.1 rfl ?_
    refine th_getI (j := 5) hC cf_X5 hB.1 h0 ro_20 rfl rfl kf_X5_30 gX5_openBracket_1.2.2.2.2.2.2.1 (fun x4 mx4 lx4 ux4 => ?_)
    obtain ⟨rax4, rbx4⟩ := th_RI_at (hR.2 _ _ h0) mx4
    replace hF := hF.trans (dv_bn (dv_getI h0 ro_20 (j := 5) rfl mx4 (by decide)))
    refine lv_iconst (v := 1) hx hb gX5_openBracket_1.2.2.2.2.2.2.2 (by decide) ?_
    refine tr_iadd hx hb gX5_openBracket_2.1 (Eq.refl _) tk_1 (by omega) (by omega) (fun x5 ex5 => ?_)
    replace hF := hF.trans (dv_bn (ex5.symm))
    refine th_put hC cf_X5 hB h0 (Or.inl h0) ro_20 rfl (j := 5) rfl th_sIa (by decide) rfl rfl rfl kf_X5_30 gX5_openBracket_2.2.1 (fun H28 locs hB hf hst28 => ?_)
    have mm6 := (th_F_o hf h0 ro_20 (j := 7) (by decide) (by decide)).trans mm3
    replace hF := hF.trans (dv_bn (dv_putI hB.1 h0 ro_20 (j := 5) rfl (th_apart hC cf_X5) hst28 (Eq.refl _) (by decide)))
    have hR := th_RD_st (th_RC_F hB.1 hR.1 hf (th_T_s h0 ro_20 hst28) (by decide)) hR h0 hst28 (th_RD_up (th_apart hC cf_X5 0 5 (by decide) (by decide) (by decide)) (hR.2 _ _ h0) mc2 h0 mx4 (by omega) hst28)
    refine lv_iconst (v := 1) hx hb gX5_openBracket_2.2.2.1 (by decide) ?_
    exact th_iret hC hH hr hlocks narrow_b1 hB.2.1 ⟨_, rfl, by decide, by decide, hB.1, hB.2.2, hR, by first | (intro h9; exact absurd h9 (by decide)) | (intro _; exact ⟨by omega, _, mm6, by omega⟩), by first | (intro _; rfl) | (intro h9; exact absurd h9 (by decide)), (hF0.symm.trans (hF.trans (by rw [tk_1])))⟩ gX5_openBracket_2.2.2.2
  · replace hF := hF.trans (if_neg (Int.not_lt.mpr c6))
    refine lv_iconst (v := 0) hx hb gX5_openBracket_0.2.2.2.2.1 (by decide) ?_
    exact th_iret hC hH hr hlocks narrow_b0 hB.2.1 ⟨_, rfl, by decide, by decide, hB.1, hB.2.2, hR, by first | (intro h9; exact absurd h9 (by decide)) | (intro _; exact ⟨by omega, _, mbv, by omega⟩), by first | (intro _; rfl) | (intro h9; exact absurd h9 (by decide)), (hF0.symm.trans (hF.trans (by rw [tk_0])))⟩ gX5_openBracket_0.2.2.2.2.2.1
end
section
def s_X5_readPart (d : Nat) : Prop := ∀ (l : Launch) (G : th_G) (Γ : th_Ga) (H0 : Heap) (hI : th_I G Γ H0) (hR : th_RD G Γ H0) (hU : dv_U Γ) (a0 : Nat) (h0 : Γ a0 = (20, 0)) (nn3 : ∃ b : Nat, th_sl H0 a0 (G.1.1.2 5 3) = .ref b ∧ Γ b = (39, 0)) (bv : Int32) (mbv : th_sl H0 a0 (G.1.1.2 5 7) = .int bv) (hdm : 8 ≤ bv.toInt + (d : Int)), Met l yX5_readPart (.code yX5_readPart cX5_readPart 4 (none) :: th_tb) ({ frames := 6 + 2 * d, cells := 0, slots := 0, locals := 400 + d * 46 } : Room) (th_P [.ref a0] G H0) (th_Q (fun (v : Option Value) (H1 : Heap) => v = none ∧ th_I G Γ H1 ∧ th_F G Γ [(20, 5), (20, 6), (20, 7), (20, 8), (40, 0), (39, 2)] H0 H1 ∧ th_RD G Γ H1 ∧ (th_sl H1 a0 (G.1.1.2 5 7) = .int bv) ∧ (f_X5_readPart d (dv G Γ H0) (a0 : Int) = (dv G Γ H1, 0))) G) 0 0 (fun q => G.1.2.2 ≤ q)

def s_X5_readSum (d : Nat) : Prop := ∀ (l : Launch) (G : th_G) (Γ : th_Ga) (H0 : Heap) (hI : th_I G Γ H0) (hR : th_RD G Γ H0) (hU : dv_U Γ) (a0 : Nat) (h0 : Γ a0 = (20, 0)) (nn3 : ∃ b : Nat, th_sl H0 a0 (G.1.1.2 5 3) = .ref b ∧ Γ b = (39, 0)) (bv : Int32) (mbv : th_sl H0 a0 (G.1.1.2 5 7) = .int bv) (hdm : 8 ≤ bv.toInt + (d : Int)), Met l yX5_readSum (.code yX5_readSum cX5_readSum 4 (none) :: th_tb) ({ frames := 7 + 2 * d, cells := 0, slots := 0, locals := 423 + d * 46 } : Room) (th_P [.ref a0] G H0) (th_Q (fun (v : Option Value) (H1 : Heap) => v = none ∧ th_I G Γ H1 ∧ th_F G Γ [(20, 5), (20, 6), (20, 7), (20, 8), (40, 0), (39, 2)] H0 H1 ∧ th_RD G Γ H1 ∧ (th_sl H1 a0 (G.1.1.2 5 7) = .int bv) ∧ (f_X5_readSum d (dv G Γ H0) (a0 : Int) = (dv G Γ H1, 0))) G) 0 0 (fun q => G.1.2.2 ≤ q)

set_option maxHeartbeats 4000000 in
set_option maxRecDepth 100000 in
theorem c_X5_readPart_s (d : Nat) (ihd : ∀ d', d = d' + 1 → s_X5_readSum d') : s_X5_readPart d := by
  intro l G Γ H0 hI hR hU a0 h0 nn3 bv mbv hdm
  refine th_met RX5 (by decide) rfl (Nat.le_of_ble_eq_true rfl) ?_
  intro p e s m below meth c hC hH hr hlocks hnm ls hl
  have hx := hC.1
  have hb := hC.2.1
  have hB : th_B G Γ Γ [(20, 5), (20, 6), (20, 7), (20, 8), (40, 0), (39, 2)] H0 H0 [] := ⟨hI, va_S.rf, th_F_rf⟩
  have hl : lv_has ls 4 [(0, .ref a0)] := hl
  have lbv := ti_lo bv; have ubv := ti_hi bv
  obtain ⟨bn3, mbn3, hbn3⟩ := nn3
  obtain ⟨F, hF0⟩ : ∃ F, F = f_X5_readPart d (dv G Γ H0) ((a0 : Int)) := ⟨_, rfl⟩
  have hF := hF0.trans ((f_X5_readPart_d d (dv G Γ H0) ((a0 : Int))).trans (f_X5_readPart_B.eq_1 d (dv_pre (fun _ _ => dv_z) f_X5_readSum d) (dv G Γ H0) ((a0 : Int))))
  refine lv_aload_n hx hb gX5_readPart_0.1 rfl (lv_at hl 0 rfl) ?_
  refine th_call (th_runV (As := []) (rest := []) hC mf_X5_seenToken km_X5_186 im_X5_seenToken se_X5_seenToken (c_X5_seenToken l G Γ H0 hB.1 hR hU a0 h0) rfl rfl ⟨by dsimp only; omega, by dsimp only; omega⟩ hB.1 h0 ro_20 rfl rfl hl.1 rfl (Nat.le_of_ble_eq_true rfl) gX5_readPart_0.2.1 ⟨Nat.le_refl _, Nat.le_refl _⟩) hB.2.1 (fun v1 H1 locs hp hz hS => ?_)
  obtain ⟨x1, rfl, q1_0, q1_1, rfl⟩ := hp
  have hB := th_B_s hB hS
  replace hF := hF.trans (dv_bn2 (q1_1))
  refine W.eq (g2 := F0 m 4 ls [.int x1]) rfl ?_
  refine lv_istore_n (lv' := [(1, .int x1), (0, .ref a0)]) hx hb gX5_readPart_0.2.2.1 rfl hl (by decide) rfl (fun ls hl => ?_)
  refine lv_iload_n hx hb gX5_readPart_0.2.2.2.1 rfl (lv_at hl 0 rfl) ?_
  refine lv_bipush (v := 91) hx hb gX5_readPart_0.2.2.2.2.1 (by decide) ?_
  refine tr_icmp_ne (tgt := 46) hx hb gX5_readPart_0.2.2.2.2.2.1 (by decide) (Eq.refl _) tk_91 (fun c8 => ?_) (fun c8 => ?_)
  · replace hF := hF.trans (if_pos c8)
    refine lv_aload_n hx hb gX5_readPart_3.1 rfl (lv_at hl 1 rfl) ?_
    refine th_getI (j := 6) hC cf_X5 hB.1 h0 ro_20 rfl rfl kf_X5_34 gX5_readPart_3.2.1 (fun x2 mx2 lx2 ux2 => ?_)
    replace hF := hF.trans (dv_bn (dv_getI h0 ro_20 (j := 6) rfl mx2 (by decide)))
    refine lv_bipush (v := 50) hx hb gX5_readPart_3.2.2.1 (by decide) ?_
    refine tr_icmp_lt (tgt := 60) hx hb gX5_readPart_3.2.2.2.1 (by decide) (Eq.refl _) tk_50 (fun c52 => ?_) (fun c52 => ?_)
    · replace hF := hF.trans (if_pos c52)
      refine lv_aload_n hx hb gX5_readPart_3.2.2.2.2.2.2.2 rfl (lv_at hl 1 rfl) ?_
      refine lv_dup hx hb gX5_readPart_4.1 rfl ?_
      refine th_getK hC cf_X5 hB.1 h0 ro_20 rfl (j := 6) (by decide) mx2 kf_X5_34 gX5_readPart_4.2.1 ?_
      replace hF := hF.trans (dv_bn (dv_getI h0 ro_20 (j := 6) rfl mx2 (by decide)))
      refine lv_iconst (v := 1) hx hb gX5_readPart_4.2.2.1 (by decide) ?_
      refine tr_iadd hx hb gX5_readPart_4.2.2.2.1 (Eq.refl _) tk_1 (by omega) (by omega) (fun x3 ex3 => ?_)
      replace hF := hF.trans (dv_bn (ex3.symm))
      refine th_put hC cf_X5 hB h0 (Or.inl h0) ro_20 rfl (j := 6) rfl th_sIa (by decide) rfl rfl rfl kf_X5_34 gX5_readPart_4.2.2.2.2.1 (fun H67 locs hB hf hst67 => ?_)
      have mm4 := (th_F_o hf h0 ro_20 (j := 7) (by decide) (by decide)).trans mbv
      have mm5 := (th_F_o hf h0 ro_20 (j := 3) (by decide) (by decide)).trans mbn3
      have mc6 := th_TKi_F q1_0 h0 hf (by decide)
      have hR := th_RD_F hB.1 hR hf (th_T_s h0 ro_20 hst67) (by decide)
      replace hF := hF.trans (dv_bn (dv_putI hB.1 h0 ro_20 (j := 6) rfl (th_apart hC cf_X5) hst67 (Eq.refl _) (by decide)))
      refine lv_iload_n hx hb gX5_readPart_4.2.2.2.2.2.1 rfl (lv_at hl 0 rfl) ?_
      refine lv_sipush (v := 400) hx hb gX5_readPart_4.2.2.2.2.2.2.1 (by decide) ?_
      refine tr_icmp_lt (tgt := 88) hx hb gX5_readPart_4.2.2.2.2.2.2.2 (by decide) (Eq.refl _) tk_400 (fun c74 => ?_) (fun c74 => ?_)
      · replace hF := hF.trans (if_pos c74)
        refine lv_aload_n hx hb gX5_readPart_5.2.2.2.2.2.1 rfl (lv_at hl 1 rfl) ?_
        refine th_getI (j := 4) hC cf_X5 hB.1 h0 ro_20 rfl rfl kf_X5_26 gX5_readPart_5.2.2.2.2.2.2.1 (fun x7 mx7 lx7 ux7 => ?_)
        replace hF := hF.trans (dv_bn (dv_getI h0 ro_20 (j := 4) rfl mx7 (by decide)))
        have sx7 := (th_F_o hB.2.2 h0 ro_20 (j := 4) (by decide) (by decide)).symm.trans mx7
        refine tr_if_eq (tgt := 102) hx hb gX5_readPart_5.2.2.2.2.2.2.2 (by decide) (Eq.refl _) (fun c92 => ?_) (fun c92 => ?_)
        · replace hF := hF.trans (if_pos c92)
          refine lv_iload_n hx hb gX5_readPart_6.2.2.2.1 rfl (lv_at hl 0 rfl) ?_
          refine th_call (th_runS (As := [.int x1]) (rest := []) hC mf_X5_lawCode km_X5_211 st_X5_lawCode (c_X5_lawCode l G Γ H67 hB.1 hU x1) rfl rfl ⟨by dsimp only; omega, by dsimp only; omega⟩ rfl hl.1 rfl (Nat.le_of_ble_eq_true rfl) gX5_readPart_6.2.2.2.2.1 ⟨Nat.le_refl _, Nat.le_refl _⟩) hB.2.1 (fun v103 H103 locs hp hz hS => ?_)
          obtain ⟨x8, rfl, lx8, ux8, q103_0, q103_1, rfl⟩ := hp
          have hB := th_B_s hB hS
          replace hF := hF.trans (dv_bn2 (q103_1))
          refine W.eq (g2 := F0 m 106 ls [.int x8]) rfl ?_
          refine lv_istore_n (lv' := [(2, .int x8), (1, .int x1), (0, .ref a0)]) hx hb gX5_readPart_6.2.2.2.2.2.1 rfl hl (by decide) rfl (fun ls hl => ?_)
          refine lv_aload_n hx hb gX5_readPart_6.2.2.2.2.2.2.1 rfl (lv_at hl 2 rfl) ?_
          refine lv_dup hx hb gX5_readPart_6.2.2.2.2.2.2.2 rfl ?_
          refine th_getI (j := 5) hC cf_X5 hB.1 h0 ro_20 rfl rfl kf_X5_30 gX5_readPart_7.1 (fun x9 mx9 lx9 ux9 => ?_)
          obtain ⟨rax9, rbx9⟩ := th_RI_at (hR.2 _ _ h0) mx9
          replace hF := hF.trans (dv_bn (dv_getI h0 ro_20 (j := 5) rfl mx9 (by decide)))
          refine lv_iload_n hx hb gX5_readPart_7.2.1 rfl (lv_at hl 0 rfl) ?_
          refine lv_iconst (v := (-1)) hx hb gX5_readPart_7.2.2.1 (by decide) ?_
          refine tr_icmp_eq (tgt := 128) hx hb gX5_readPart_7.2.2.2.1 (by decide) (Eq.refl _) tk_m1 (fun c114 => ?_) (fun c114 => ?_)
          · replace hF := hF.trans (if_pos c114)
            refine lv_iconst (v := 0) hx hb gX5_readPart_8.2.1 (by decide) ?_
            refine tr_iadd hx hb gX5_readPart_8.2.2.1 (Eq.refl _) tk_0 (by omega) (by omega) (fun x10 ex10 => ?_)
            replace hF := hF.trans (dv_bn (ex10.symm))
            refine th_put hC cf_X5 hB h0 (Or.inl h0) ro_20 rfl (j := 5) rfl th_sIa (by decide) rfl rfl rfl kf_X5_30 gX5_readPart_8.2.2.2.1 (fun H130 locs hB hf hst130 => ?_)
            have mm11 := (th_F_o hf h0 ro_20 (j := 7) (by decide) (by decide)).trans mm4
            have mm12 := (th_F_o hf h0 ro_20 (j := 3) (by decide) (by decide)).trans mm5
            have mm13 := (th_F_o hf h0 ro_20 (j := 4) (by decide) (by decide)).trans mx7
            replace hF := hF.trans (dv_bn (dv_putI hB.1 h0 ro_20 (j := 5) rfl (th_apart hC cf_X5) hst130 (Eq.refl _) (by decide)))
            have hR := th_RD_st (th_RC_F hB.1 hR.1 hf (th_T_s h0 ro_20 hst130) (by decide)) hR h0 hst130 (th_RI_same (th_apart hC cf_X5 0 5 (by decide) (by decide) (by decide)) (hR.2 _ _ h0) h0 mx9 (by have w0 := tk_0; omega) hst130)
            refine lv_aload_n hx hb gX5_readPart_8.2.2.2.2.1 rfl (lv_at hl 2 rfl) ?_
            refine th_getK hC cf_X5 hB.1 h0 ro_20 rfl (j := 4) (by decide) mm13 kf_X5_26 gX5_readPart_8.2.2.2.2.2.1 ?_
            replace hF := hF.trans (dv_bn (dv_getI h0 ro_20 (j := 4) rfl mm13 (by decide)))
            have jn175 : ∀ (H175 : Heap) (locs : List Loc) (ls : Array Slot) (j175_2 : Int32), th_B G Γ Γ [(20, 5), (20, 6), (20, 7), (20, 8), (40, 0), (39, 2)] H0 H175 locs → th_RD G Γ H175 → lv_has ls 4 [(0, .ref a0), (2, .int j175_2)] → F = f_X5_readPart_175 d (dv_pre (fun _ _ => dv_z) f_X5_readSum d) (dv G Γ H175) ((a0 : Int)) (j175_2.toInt) → (-1) ≤ j175_2.toInt → j175_2.toInt ≤ 16383 → th_sl H175 a0 (G.1.1.2 5 7) = .int bv → W p l e ({ frames := 6 + 2 * d, cells := 0, slots := 0, locals := 400 + d * 46 } : Room) s m ([.ref a0] : List Value).toArray below meth c H175 locs 0 0 (MQ below (th_Q (fun (v : Option Value) (H1 : Heap) => v = none ∧ th_I G Γ H1 ∧ th_F G Γ [(20, 5), (20, 6), (20, 7), (20, 8), (40, 0), (39, 2)] H0 H1 ∧ th_RD G Γ H1 ∧ (th_sl H1 a0 (G.1.1.2 5 7) = .int bv) ∧ (f_X5_readPart d (dv G Γ H0) (a0 : Int) = (dv G Γ H1, 0))) G) ([.ref a0] : List Value).toArray s 0 0 (fun q => G.1.2.2 ≤ q)) (F0 m 175 ls []) := by
              intro H175 locs ls j175_2 hB hR hl hF g175_0 g175_1 g175_2
              have lj175_2 := ti_lo j175_2; have uj175_2 := ti_hi j175_2
              have mm14 := (th_F_o hB.2.2 h0 ro_20 (j := 3) (by decide) (by decide)).trans mbn3
              replace hF := hF.trans (f_X5_readPart_175.eq_1 d (dv_pre (fun _ _ => dv_z) f_X5_readSum d) (dv G Γ H175) ((a0 : Int)) (j175_2.toInt))
              refine lv_iload_n hx hb gX5_readPart_11.2.2.2.1 rfl (lv_at hl 1 rfl) ?_
              refine lv_iconst (v := (-1)) hx hb gX5_readPart_11.2.2.2.2.1 (by decide) ?_
              have jn184 : ∀ (H184 : Heap) (locs : List Loc) (ls : Array Slot) , th_B G Γ Γ [(20, 5), (20, 6), (20, 7), (20, 8), (40, 0), (39, 2)] H0 H184 locs → th_RD G Γ H184 → lv_has ls 4 [(0, .ref a0), (2, .int j175_2)] → F = f_X5_readPart_184 d (dv_pre (fun _ _ => dv_z) f_X5_readSum d) (dv G Γ H184) ((a0 : Int)) (j175_2.toInt) → th_sl H184 a0 (G.1.1.2 5 7) = .int bv → W p l e ({ frames := 6 + 2 * d, cells := 0, slots := 0, locals := 400 + d * 46 } : Room) s m ([.ref a0] : List Value).toArray below meth c H184 locs 0 0 (MQ below (th_Q (fun (v : Option Value) (H1 : Heap) => v = none ∧ th_I G Γ H1 ∧ th_F G Γ [(20, 5), (20, 6), (20, 7), (20, 8), (40, 0), (39, 2)] H0 H1 ∧ th_RD G Γ H1 ∧ (th_sl H1 a0 (G.1.1.2 5 7) = .int bv) ∧ (f_X5_readPart d (dv G Γ H0) (a0 : Int) = (dv G Γ H1, 0))) G) ([.ref a0] : List Value).toArray s 0 0 (fun q => G.1.2.2 ≤ q)) (F0 m 184 ls []) := by
                intro H184 locs ls hB hR hl hF g184_0
                have mm15 := (th_F_o hB.2.2 h0 ro_20 (j := 3) (by decide) (by decide)).trans mbn3
                replace hF := hF.trans (f_X5_readPart_184.eq_1 d (dv_pre (fun _ _ => dv_z) f_X5_readSum d) (dv G Γ H184) ((a0 : Int)) (j175_2.toInt))
                refine lv_aload_n hx hb gX5_readPart_12.1 rfl (lv_at hl 0 rfl) ?_
                refine th_getK hC cf_X5 hB.1 h0 ro_20 rfl (j := 3) (by decide) mm15 kf_X5_22 gX5_readPart_12.2.1 ?_
                replace hF := hF.trans (dv_bn (dv_getR h0 ro_20 (j := 3) rfl mm15 (by decide)))
                refine lv_iload_n hx hb gX5_readPart_12.2.2.1 rfl (lv_at hl 1 rfl) ?_
                refine th_call (th_runV (As := [.int j175_2]) (rest := []) hC mf_X10_add km_X5_199 im_X10_add se_X10_add (c_X10_add l G Γ H184 hB.1 hR.1 hU bn3 hbn3 j175_2 (by omega)) rfl rfl ⟨by dsimp only; omega, by dsimp only; omega⟩ hB.1 hbn3 ro_39 rfl rfl hl.1 rfl (Nat.le_of_ble_eq_true rfl) gX5_readPart_12.2.2.2.1 ⟨Nat.le_refl _, Nat.le_refl _⟩) hB.2.1 (fun v189 H189 locs hp hz hS => ?_)
                have hRD := hR
                obtain ⟨rfl, hI1, hf, hR, z189_0⟩ := hp
                have hR := th_RD_c hR hRD hf (by decide)
                have hB := th_B_c hB hI1 hS hf (by decide)
                have mm16 := (th_F_o hf h0 ro_20 (j := 7) (by decide) (by decide)).trans g184_0
                have mm17 := (th_F_o hf h0 ro_20 (j := 3) (by decide) (by decide)).trans mm15
                replace hF := hF.trans (dv_bn2 (z189_0))
                refine W.eq (g2 := F0 m 192 ls []) rfl ?_
                exact th_vret hC hH hr hlocks hB.2.1 ⟨rfl, hB.1, hB.2.2, hR, mm16, (hF0.symm.trans hF)⟩ gX5_readPart_12.2.2.2.2
              refine tr_icmp_ne (tgt := 184) hx hb gX5_readPart_11.2.2.2.2.2.1 (by decide) (Eq.refl _) tk_m1 (fun c177 => ?_) (fun c177 => ?_)
              · replace hF := hF.trans (if_pos c177)
                exact jn184 H175 locs ls hB hR (lv_sub hl [0, 1] rfl) hF g175_2
              · replace hF := hF.trans (if_neg (not_not_intro c177))
                refine lv_aload_n hx hb gX5_readPart_11.2.2.2.2.2.2.1 rfl (lv_at hl 0 rfl) ?_
                refine th_call (th_runV (As := []) (rest := []) hC mf_X5_fail km_X5_58 im_X5_fail se_X5_fail (c_X5_fail l G Γ H175 hB.1 hR hU a0 h0) rfl rfl ⟨by dsimp only; omega, by dsimp only; omega⟩ hB.1 h0 ro_20 rfl rfl hl.1 rfl (Nat.le_of_ble_eq_true rfl) gX5_readPart_11.2.2.2.2.2.2.2 ⟨Nat.le_refl _, Nat.le_refl _⟩) hB.2.1 (fun v181 H181 locs hp hz hS => ?_)
                obtain ⟨rfl, hI1, hf, hR, z181_0⟩ := hp
                have hB := th_B_c hB hI1 hS hf (by decide)
                have mm18 := (th_F_o hf h0 ro_20 (j := 7) (by decide) (by decide)).trans g175_2
                have mm19 := (th_F_o hf h0 ro_20 (j := 3) (by decide) (by decide)).trans mm14
                replace hF := hF.trans (dv_bn2 (z181_0))
                refine W.eq (g2 := F0 m 184 ls []) rfl ?_
                exact jn184 H181 locs ls hB hR (lv_sub hl [0, 1] rfl) hF mm18
            refine tr_if_eq (tgt := 175) hx hb gX5_readPart_8.2.2.2.2.2.2.1 (by decide) (Eq.refl _) (fun c137 => ?_) (fun c137 => ?_)
            · replace hF := hF.trans (if_pos c137)
              exact jn175 H130 locs ls x8 hB hR (lv_sub hl [2, 0] rfl) hF (by omega) (by omega) mm11
            · exfalso; omega
          · replace hF := hF.trans (if_neg c114)
            refine lv_iload_n hx hb gX5_readPart_7.2.2.2.2.1 rfl (lv_at hl 1 rfl) ?_
            refine lv_sipush (v := 400) hx hb gX5_readPart_7.2.2.2.2.2.1 (by decide) ?_
            refine tr_icmp_ge (tgt := 128) hx hb gX5_readPart_7.2.2.2.2.2.2.1 (by decide) (Eq.refl _) tk_400 (fun c121 => ?_) (fun c121 => ?_)
            · exfalso; omega
            · replace hF := hF.trans (if_neg (Int.not_le.mpr c121))
              refine lv_iconst (v := 1) hx hb gX5_readPart_7.2.2.2.2.2.2.2 (by decide) ?_
              refine lv_goto (tgt := 129) hx hb gX5_readPart_8.1 (by decide) ?_
              refine tr_iadd hx hb gX5_readPart_8.2.2.1 (Eq.refl _) tk_1 (by omega) (by omega) (fun x20 ex20 => ?_)
              replace hF := hF.trans (dv_bn (ex20.symm))
              refine th_put hC cf_X5 hB h0 (Or.inl h0) ro_20 rfl (j := 5) rfl th_sIa (by decide) rfl rfl rfl kf_X5_30 gX5_readPart_8.2.2.2.1 (fun H130 locs hB hf hst130 => ?_)
              have mm21 := (th_F_o hf h0 ro_20 (j := 7) (by decide) (by decide)).trans mm4
              have mm22 := (th_F_o hf h0 ro_20 (j := 3) (by decide) (by decide)).trans mm5
              have mm23 := (th_F_o hf h0 ro_20 (j := 4) (by decide) (by decide)).trans mx7
              replace hF := hF.trans (dv_bn (dv_putI hB.1 h0 ro_20 (j := 5) rfl (th_apart hC cf_X5) hst130 (Eq.refl _) (by decide)))
              have hR := th_RD_st (th_RC_F hB.1 hR.1 hf (th_T_s h0 ro_20 hst130) (by decide)) hR h0 hst130 (th_RD_up (th_apart hC cf_X5 0 5 (by decide) (by decide) (by decide)) (hR.2 _ _ h0) (mc6 (by omega)) h0 mx9 (by have w1 := tk_1; omega) hst130)
              refine lv_aload_n hx hb gX5_readPart_8.2.2.2.2.1 rfl (lv_at hl 2 rfl) ?_
              refine th_getK hC cf_X5 hB.1 h0 ro_20 rfl (j := 4) (by decide) mm23 kf_X5_26 gX5_readPart_8.2.2.2.2.2.1 ?_
              replace hF := hF.trans (dv_bn (dv_getI h0 ro_20 (j := 4) rfl mm23 (by decide)))
              have jn175 : ∀ (H175 : Heap) (locs : List Loc) (ls : Array Slot) (j175_2 : Int32), th_B G Γ Γ [(20, 5), (20, 6), (20, 7), (20, 8), (40, 0), (39, 2)] H0 H175 locs → th_RD G Γ H175 → lv_has ls 4 [(0, .ref a0), (2, .int j175_2)] → F = f_X5_readPart_175x2 d (dv_pre (fun _ _ => dv_z) f_X5_readSum d) (dv G Γ H175) ((a0 : Int)) (j175_2.toInt) → (-1) ≤ j175_2.toInt → j175_2.toInt ≤ 16383 → th_sl H175 a0 (G.1.1.2 5 7) = .int bv → W p l e ({ frames := 6 + 2 * d, cells := 0, slots := 0, locals := 400 + d * 46 } : Room) s m ([.ref a0] : List Value).toArray below meth c H175 locs 0 0 (MQ below (th_Q (fun (v : Option Value) (H1 : Heap) => v = none ∧ th_I G Γ H1 ∧ th_F G Γ [(20, 5), (20, 6), (20, 7), (20, 8), (40, 0), (39, 2)] H0 H1 ∧ th_RD G Γ H1 ∧ (th_sl H1 a0 (G.1.1.2 5 7) = .int bv) ∧ (f_X5_readPart d (dv G Γ H0) (a0 : Int) = (dv G Γ H1, 0))) G) ([.ref a0] : List Value).toArray s 0 0 (fun q => G.1.2.2 ≤ q)) (F0 m 175 ls []) := by
                intro H175 locs ls j175_2 hB hR hl hF g175_0 g175_1 g175_2
                have lj175_2 := ti_lo j175_2; have uj175_2 := ti_hi j175_2
                have mm24 := (th_F_o hB.2.2 h0 ro_20 (j := 3) (by decide) (by decide)).trans mbn3
                replace hF := hF.trans (f_X5_readPart_175x2.eq_1 d (dv_pre (fun _ _ => dv_z) f_X5_readSum d) (dv G Γ H175) ((a0 : Int)) (j175_2.toInt))
                refine lv_iload_n hx hb gX5_readPart_11.2.2.2.1 rfl (lv_at hl 1 rfl) ?_
                refine lv_iconst (v := (-1)) hx hb gX5_readPart_11.2.2.2.2.1 (by decide) ?_
                have jn184 : ∀ (H184 : Heap) (locs : List Loc) (ls : Array Slot) , th_B G Γ Γ [(20, 5), (20, 6), (20, 7), (20, 8), (40, 0), (39, 2)] H0 H184 locs → th_RD G Γ H184 → lv_has ls 4 [(0, .ref a0), (2, .int j175_2)] → F = f_X5_readPart_184x2 d (dv_pre (fun _ _ => dv_z) f_X5_readSum d) (dv G Γ H184) ((a0 : Int)) (j175_2.toInt) → th_sl H184 a0 (G.1.1.2 5 7) = .int bv → W p l e ({ frames := 6 + 2 * d, cells := 0, slots := 0, locals := 400 + d * 46 } : Room) s m ([.ref a0] : List Value).toArray below meth c H184 locs 0 0 (MQ below (th_Q (fun (v : Option Value) (H1 : Heap) => v = none ∧ th_I G Γ H1 ∧ th_F G Γ [(20, 5), (20, 6), (20, 7), (20, 8), (40, 0), (39, 2)] H0 H1 ∧ th_RD G Γ H1 ∧ (th_sl H1 a0 (G.1.1.2 5 7) = .int bv) ∧ (f_X5_readPart d (dv G Γ H0) (a0 : Int) = (dv G Γ H1, 0))) G) ([.ref a0] : List Value).toArray s 0 0 (fun q => G.1.2.2 ≤ q)) (F0 m 184 ls []) := by
                  intro H184 locs ls hB hR hl hF g184_0
                  have mm25 := (th_F_o hB.2.2 h0 ro_20 (j := 3) (by decide) (by decide)).trans mbn3
                  replace hF := hF.trans (f_X5_readPart_184x2.eq_1 d (dv_pre (fun _ _ => dv_z) f_X5_readSum d) (dv G Γ H184) ((a0 : Int)) (j175_2.toInt))
                  refine lv_aload_n hx hb gX5_readPart_12.1 rfl (lv_at hl 0 rfl) ?_
                  refine th_getK hC cf_X5 hB.1 h0 ro_20 rfl (j := 3) (by decide) mm25 kf_X5_22 gX5_readPart_12.2.1 ?_
                  replace hF := hF.trans (dv_bn (dv_getR h0 ro_20 (j := 3) rfl mm25 (by decide)))
                  refine lv_iload_n hx hb gX5_readPart_12.2.2.1 rfl (lv_at hl 1 rfl) ?_
                  refine th_call (th_runV (As := [.int j175_2]) (rest := []) hC mf_X10_add km_X5_199 im_X10_add se_X10_add (c_X10_add l G Γ H184 hB.1 hR.1 hU bn3 hbn3 j175_2 (by omega)) rfl rfl ⟨by dsimp only; omega, by dsimp only; omega⟩ hB.1 hbn3 ro_39 rfl rfl hl.1 rfl (Nat.le_of_ble_eq_true rfl) gX5_readPart_12.2.2.2.1 ⟨Nat.le_refl _, Nat.le_refl _⟩) hB.2.1 (fun v189 H189 locs hp hz hS => ?_)
                  have hRD := hR
                  obtain ⟨rfl, hI1, hf, hR, z189_0⟩ := hp
                  have hR := th_RD_c hR hRD hf (by decide)
                  have hB := th_B_c hB hI1 hS hf (by decide)
                  have mm26 := (th_F_o hf h0 ro_20 (j := 7) (by decide) (by decide)).trans g184_0
                  have mm27 := (th_F_o hf h0 ro_20 (j := 3) (by decide) (by decide)).trans mm25
                  replace hF := hF.trans (dv_bn2 (z189_0))
                  refine W.eq (g2 := F0 m 192 ls []) rfl ?_
                  exact th_vret hC hH hr hlocks hB.2.1 ⟨rfl, hB.1, hB.2.2, hR, mm26, (hF0.symm.trans hF)⟩ gX5_readPart_12.2.2.2.2
                refine tr_icmp_ne (tgt := 184) hx hb gX5_readPart_11.2.2.2.2.2.1 (by decide) (Eq.refl _) tk_m1 (fun c177 => ?_) (fun c177 => ?_)
                · replace hF := hF.trans (if_pos c177)
                  exact jn184 H175 locs ls hB hR (lv_sub hl [0, 1] rfl) hF g175_2
                · replace hF := hF.trans (if_neg (not_not_intro c177))
                  refine lv_aload_n hx hb gX5_readPart_11.2.2.2.2.2.2.1 rfl (lv_at hl 0 rfl) ?_
                  refine th_call (th_runV (As := []) (rest := []) hC mf_X5_fail km_X5_58 im_X5_fail se_X5_fail (c_X5_fail l G Γ H175 hB.1 hR hU a0 h0) rfl rfl ⟨by dsimp only; omega, by dsimp only; omega⟩ hB.1 h0 ro_20 rfl rfl hl.1 rfl (Nat.le_of_ble_eq_true rfl) gX5_readPart_11.2.2.2.2.2.2.2 ⟨Nat.le_refl _, Nat.le_refl _⟩) hB.2.1 (fun v181 H181 locs hp hz hS => ?_)
                  obtain ⟨rfl, hI1, hf, hR, z181_0⟩ := hp
                  have hB := th_B_c hB hI1 hS hf (by decide)
                  have mm28 := (th_F_o hf h0 ro_20 (j := 7) (by decide) (by decide)).trans g175_2
                  have mm29 := (th_F_o hf h0 ro_20 (j := 3) (by decide) (by decide)).trans mm24
                  replace hF := hF.trans (dv_bn2 (z181_0))
                  refine W.eq (g2 := F0 m 184 ls []) rfl ?_
                  exact jn184 H181 locs ls hB hR (lv_sub hl [0, 1] rfl) hF mm28
              refine tr_if_eq (tgt := 175) hx hb gX5_readPart_8.2.2.2.2.2.2.1 (by decide) (Eq.refl _) (fun c137 => ?_) (fun c137 => ?_)
              · replace hF := hF.trans (if_pos c137)
                exact jn175 H130 locs ls x8 hB hR (lv_sub hl [2, 0] rfl) hF (by omega) (by omega) mm21
              · exfalso; omega
        · replace hF := hF.trans (if_neg c92)
          refine lv_iload_n hx hb gX5_readPart_6.1 rfl (lv_at hl 0 rfl) ?_
          refine th_call (th_runS (As := [.int x1]) (rest := []) hC mf_X5_orderCode km_X5_208 st_X5_orderCode (c_X5_orderCode l G Γ H67 hB.1 hU x1) rfl rfl ⟨by dsimp only; omega, by dsimp only; omega⟩ rfl hl.1 rfl (Nat.le_of_ble_eq_true rfl) gX5_readPart_6.2.1 ⟨Nat.le_refl _, Nat.le_refl _⟩) hB.2.1 (fun v96 H96 locs hp hz hS => ?_)
          obtain ⟨x30, rfl, lx30, ux30, q96_0, q96_1, rfl⟩ := hp
          have hB := th_B_s hB hS
          replace hF := hF.trans (dv_bn2 (q96_1))
          refine W.eq (g2 := F0 m 99 ls [.int x30]) rfl ?_
          refine lv_goto (tgt := 106) hx hb gX5_readPart_6.2.2.1 (by decide) ?_
          refine lv_istore_n (lv' := [(2, .int x30), (1, .int x1), (0, .ref a0)]) hx hb gX5_readPart_6.2.2.2.2.2.1 rfl hl (by decide) rfl (fun ls hl => ?_)
          refine lv_aload_n hx hb gX5_readPart_6.2.2.2.2.2.2.1 rfl (lv_at hl 2 rfl) ?_
          refine lv_dup hx hb gX5_readPart_6.2.2.2.2.2.2.2 rfl ?_
          refine th_getI (j := 5) hC cf_X5 hB.1 h0 ro_20 rfl rfl kf_X5_30 gX5_readPart_7.1 (fun x31 mx31 lx31 ux31 => ?_)
          obtain ⟨rax31, rbx31⟩ := th_RI_at (hR.2 _ _ h0) mx31
          replace hF := hF.trans (dv_bn (dv_getI h0 ro_20 (j := 5) rfl mx31 (by decide)))
          refine lv_iload_n hx hb gX5_readPart_7.2.1 rfl (lv_at hl 0 rfl) ?_
          refine lv_iconst (v := (-1)) hx hb gX5_readPart_7.2.2.1 (by decide) ?_
          refine tr_icmp_eq (tgt := 128) hx hb gX5_readPart_7.2.2.2.1 (by decide) (Eq.refl _) tk_m1 (fun c114 => ?_) (fun c114 => ?_)
          · replace hF := hF.trans (if_pos c114)
            refine lv_iconst (v := 0) hx hb gX5_readPart_8.2.1 (by decide) ?_
            refine tr_iadd hx hb gX5_readPart_8.2.2.1 (Eq.refl _) tk_0 (by omega) (by omega) (fun x32 ex32 => ?_)
            replace hF := hF.trans (dv_bn (ex32.symm))
            refine th_put hC cf_X5 hB h0 (Or.inl h0) ro_20 rfl (j := 5) rfl th_sIa (by decide) rfl rfl rfl kf_X5_30 gX5_readPart_8.2.2.2.1 (fun H130 locs hB hf hst130 => ?_)
            have mm33 := (th_F_o hf h0 ro_20 (j := 7) (by decide) (by decide)).trans mm4
            have mm34 := (th_F_o hf h0 ro_20 (j := 3) (by decide) (by decide)).trans mm5
            have mm35 := (th_F_o hf h0 ro_20 (j := 4) (by decide) (by decide)).trans mx7
            replace hF := hF.trans (dv_bn (dv_putI hB.1 h0 ro_20 (j := 5) rfl (th_apart hC cf_X5) hst130 (Eq.refl _) (by decide)))
            have hR := th_RD_st (th_RC_F hB.1 hR.1 hf (th_T_s h0 ro_20 hst130) (by decide)) hR h0 hst130 (th_RI_same (th_apart hC cf_X5 0 5 (by decide) (by decide) (by decide)) (hR.2 _ _ h0) h0 mx31 (by have w0 := tk_0; omega) hst130)
            refine lv_aload_n hx hb gX5_readPart_8.2.2.2.2.1 rfl (lv_at hl 2 rfl) ?_
            refine th_getK hC cf_X5 hB.1 h0 ro_20 rfl (j := 4) (by decide) mm35 kf_X5_26 gX5_readPart_8.2.2.2.2.2.1 ?_
            replace hF := hF.trans (dv_bn (dv_getI h0 ro_20 (j := 4) rfl mm35 (by decide)))
            have jn175 : ∀ (H175 : Heap) (locs : List Loc) (ls : Array Slot) (j175_2 : Int32), th_B G Γ Γ [(20, 5), (20, 6), (20, 7), (20, 8), (40, 0), (39, 2)] H0 H175 locs → th_RD G Γ H175 → lv_has ls 4 [(0, .ref a0), (2, .int j175_2)] → F = f_X5_readPart_175x3 d (dv_pre (fun _ _ => dv_z) f_X5_readSum d) (dv G Γ H175) ((a0 : Int)) (j175_2.toInt) → (-1) ≤ j175_2.toInt → j175_2.toInt ≤ 16383 → th_sl H175 a0 (G.1.1.2 5 7) = .int bv → W p l e ({ frames := 6 + 2 * d, cells := 0, slots := 0, locals := 400 + d * 46 } : Room) s m ([.ref a0] : List Value).toArray below meth c H175 locs 0 0 (MQ below (th_Q (fun (v : Option Value) (H1 : Heap) => v = none ∧ th_I G Γ H1 ∧ th_F G Γ [(20, 5), (20, 6), (20, 7), (20, 8), (40, 0), (39, 2)] H0 H1 ∧ th_RD G Γ H1 ∧ (th_sl H1 a0 (G.1.1.2 5 7) = .int bv) ∧ (f_X5_readPart d (dv G Γ H0) (a0 : Int) = (dv G Γ H1, 0))) G) ([.ref a0] : List Value).toArray s 0 0 (fun q => G.1.2.2 ≤ q)) (F0 m 175 ls []) := by
              intro H175 locs ls j175_2 hB hR hl hF g175_0 g175_1 g175_2
              have lj175_2 := ti_lo j175_2; have uj175_2 := ti_hi j175_2
              have mm36 := (th_F_o hB.2.2 h0 ro_20 (j := 3) (by decide) (by decide)).trans mbn3
              replace hF := hF.trans (f_X5_readPart_175x3.eq_1 d (dv_pre (fun _ _ => dv_z) f_X5_readSum d) (dv G Γ H175) ((a0 : Int)) (j175_2.toInt))
              refine lv_iload_n hx hb gX5_readPart_11.2.2.2.1 rfl (lv_at hl 1 rfl) ?_
              refine lv_iconst (v := (-1)) hx hb gX5_readPart_11.2.2.2.2.1 (by decide) ?_
              have jn184 : ∀ (H184 : Heap) (locs : List Loc) (ls : Array Slot) , th_B G Γ Γ [(20, 5), (20, 6), (20, 7), (20, 8), (40, 0), (39, 2)] H0 H184 locs → th_RD G Γ H184 → lv_has ls 4 [(0, .ref a0), (2, .int j175_2)] → F = f_X5_readPart_184x3 d (dv_pre (fun _ _ => dv_z) f_X5_readSum d) (dv G Γ H184) ((a0 : Int)) (j175_2.toInt) → th_sl H184 a0 (G.1.1.2 5 7) = .int bv → W p l e ({ frames := 6 + 2 * d, cells := 0, slots := 0, locals := 400 + d * 46 } : Room) s m ([.ref a0] : List Value).toArray below meth c H184 locs 0 0 (MQ below (th_Q (fun (v : Option Value) (H1 : Heap) => v = none ∧ th_I G Γ H1 ∧ th_F G Γ [(20, 5), (20, 6), (20, 7), (20, 8), (40, 0), (39, 2)] H0 H1 ∧ th_RD G Γ H1 ∧ (th_sl H1 a0 (G.1.1.2 5 7) = .int bv) ∧ (f_X5_readPart d (dv G Γ H0) (a0 : Int) = (dv G Γ H1, 0))) G) ([.ref a0] : List Value).toArray s 0 0 (fun q => G.1.2.2 ≤ q)) (F0 m 184 ls []) := by
                intro H184 locs ls hB hR hl hF g184_0
                have mm37 := (th_F_o hB.2.2 h0 ro_20 (j := 3) (by decide) (by decide)).trans mbn3
                replace hF := hF.trans (f_X5_readPart_184x3.eq_1 d (dv_pre (fun _ _ => dv_z) f_X5_readSum d) (dv G Γ H184) ((a0 : Int)) (j175_2.toInt))
                refine lv_aload_n hx hb gX5_readPart_12.1 rfl (lv_at hl 0 rfl) ?_
                refine th_getK hC cf_X5 hB.1 h0 ro_20 rfl (j := 3) (by decide) mm37 kf_X5_22 gX5_readPart_12.2.1 ?_
                replace hF := hF.trans (dv_bn (dv_getR h0 ro_20 (j := 3) rfl mm37 (by decide)))
                refine lv_iload_n hx hb gX5_readPart_12.2.2.1 rfl (lv_at hl 1 rfl) ?_
                refine th_call (th_runV (As := [.int j175_2]) (rest := []) hC mf_X10_add km_X5_199 im_X10_add se_X10_add (c_X10_add l G Γ H184 hB.1 hR.1 hU bn3 hbn3 j175_2 (by omega)) rfl rfl ⟨by dsimp only; omega, by dsimp only; omega⟩ hB.1 hbn3 ro_39 rfl rfl hl.1 rfl (Nat.le_of_ble_eq_true rfl) gX5_readPart_12.2.2.2.1 ⟨Nat.le_refl _, Nat.le_refl _⟩) hB.2.1 (fun v189 H189 locs hp hz hS => ?_)
                have hRD := hR
                obtain ⟨rfl, hI1, hf, hR, z189_0⟩ := hp
                have hR := th_RD_c hR hRD hf (by decide)
                have hB := th_B_c hB hI1 hS hf (by decide)
                have mm38 := (th_F_o hf h0 ro_20 (j := 7) (by decide) (by decide)).trans g184_0
                have mm39 := (th_F_o hf h0 ro_20 (j := 3) (by decide) (by decide)).trans mm37
                replace hF := hF.trans (dv_bn2 (z189_0))
                refine W.eq (g2 := F0 m 192 ls []) rfl ?_
                exact th_vret hC hH hr hlocks hB.2.1 ⟨rfl, hB.1, hB.2.2, hR, mm38, (hF0.symm.trans hF)⟩ gX5_readPart_12.2.2.2.2
              refine tr_icmp_ne (tgt := 184) hx hb gX5_readPart_11.2.2.2.2.2.1 (by decide) (Eq.refl _) tk_m1 (fun c177 => ?_) (fun c177 => ?_)
              · replace hF := hF.trans (if_pos c177)
                exact jn184 H175 locs ls hB hR (lv_sub hl [0, 1] rfl) hF g175_2
              · replace hF := hF.trans (if_neg (not_not_intro c177))
                refine lv_aload_n hx hb gX5_readPart_11.2.2.2.2.2.2.1 rfl (lv_at hl 0 rfl) ?_
                refine th_call (th_runV (As := []) (rest := []) hC mf_X5_fail km_X5_58 im_X5_fail se_X5_fail (c_X5_fail l G Γ H175 hB.1 hR hU a0 h0) rfl rfl ⟨by dsimp only; omega, by dsimp only; omega⟩ hB.1 h0 ro_20 rfl rfl hl.1 rfl (Nat.le_of_ble_eq_true rfl) gX5_readPart_11.2.2.2.2.2.2.2 ⟨Nat.le_refl _, Nat.le_refl _⟩) hB.2.1 (fun v181 H181 locs hp hz hS => ?_)
                obtain ⟨rfl, hI1, hf, hR, z181_0⟩ := hp
                have hB := th_B_c hB hI1 hS hf (by decide)
                have mm40 := (th_F_o hf h0 ro_20 (j := 7) (by decide) (by decide)).trans g175_2
                have mm41 := (th_F_o hf h0 ro_20 (j := 3) (by decide) (by decide)).trans mm36
                replace hF := hF.trans (dv_bn2 (z181_0))
                refine W.eq (g2 := F0 m 184 ls []) rfl ?_
                exact jn184 H181 locs ls hB hR (lv_sub hl [0, 1] rfl) hF mm40
            refine tr_if_eq (tgt := 175) hx hb gX5_readPart_8.2.2.2.2.2.2.1 (by decide) (Eq.refl _) (fun c137 => ?_) (fun c137 => ?_)
            · exfalso; omega
            · replace hF := hF.trans (if_neg c137)
              refine lv_iload_n hx hb gX5_readPart_8.2.2.2.2.2.2.2 rfl (lv_at hl 1 rfl) ?_
              refine lv_sipush (v := 318) hx hb gX5_readPart_9.1 (by decide) ?_
              have jn154 : ∀ (locs : List Loc) (ls : Array Slot) , th_B G Γ Γ [(20, 5), (20, 6), (20, 7), (20, 8), (40, 0), (39, 2)] H0 H130 locs → lv_has ls 4 [(2, .int x30), (0, .ref a0)] → F = f_X5_readPart_154 d (dv_pre (fun _ _ => dv_z) f_X5_readSum d) (dv G Γ H130) (x30.toInt) ((a0 : Int)) → W p l e ({ frames := 6 + 2 * d, cells := 0, slots := 0, locals := 400 + d * 46 } : Room) s m ([.ref a0] : List Value).toArray below meth c H130 locs 0 0 (MQ below (th_Q (fun (v : Option Value) (H1 : Heap) => v = none ∧ th_I G Γ H1 ∧ th_F G Γ [(20, 5), (20, 6), (20, 7), (20, 8), (40, 0), (39, 2)] H0 H1 ∧ th_RD G Γ H1 ∧ (th_sl H1 a0 (G.1.1.2 5 7) = .int bv) ∧ (f_X5_readPart d (dv G Γ H0) (a0 : Int) = (dv G Γ H1, 0))) G) ([.ref a0] : List Value).toArray s 0 0 (fun q => G.1.2.2 ≤ q)) (F0 m 154 ls []) := by
                intro locs ls hB hl hF
                replace hF := hF.trans (f_X5_readPart_154.eq_1 d (dv_pre (fun _ _ => dv_z) f_X5_readSum d) (dv G Γ H130) (x30.toInt) ((a0 : Int)))
                refine lv_aload_n hx hb gX5_readPart_9.2.2.2.2.2.1 rfl (lv_at hl 1 rfl) ?_
                refine lv_iconst (v := 0) hx hb gX5_readPart_9.2.2.2.2.2.2.1 (by decide) ?_
                refine lv_bipush (v := 8) hx hb gX5_readPart_9.2.2.2.2.2.2.2 (by decide) ?_
                refine th_call (th_runV (As := [.int 0, .int 8]) (rest := []) hC mf_X5_takeNumber km_X5_167 im_X5_takeNumber se_X5_takeNumber (c_X5_takeNumber l G Γ H130 hB.1 hR hU a0 h0 0 (by decide) 8) rfl rfl ⟨by dsimp only; omega, by dsimp only; omega⟩ hB.1 h0 ro_20 rfl rfl hl.1 rfl (Nat.le_of_ble_eq_true rfl) gX5_readPart_10.1 ⟨Nat.le_refl _, Nat.le_refl _⟩) hB.2.1 (fun v158 H158 locs hp hz hS => ?_)
                obtain ⟨x42, rfl, lx42, q158_0, hI1, hf, hR, z158_0, z158_1⟩ := hp
                have hB := th_B_c hB hI1 hS hf (by decide)
                have mm43 := (th_F_o hf h0 ro_20 (j := 7) (by decide) (by decide)).trans mm33
                have mm44 := (th_F_o hf h0 ro_20 (j := 3) (by decide) (by decide)).trans mm34
                have mm45 := (th_F_o hf h0 ro_20 (j := 4) (by decide) (by decide)).trans mm35
                have w158_0 := tk_0
                have w158_1 := tk_8
                have zf158 := z158_1
                rw [tk_0, tk_8] at zf158
                replace hF := hF.trans (dv_bn2 (zf158))
                refine W.eq (g2 := F0 m 161 ls [.int x42]) rfl ?_
                refine lv_istore_n (lv' := [(3, .int x42), (2, .int x30), (0, .ref a0)]) hx hb gX5_readPart_10.2.1 rfl hl (by decide) rfl (fun ls hl => ?_)
                refine lv_iload_n hx hb gX5_readPart_10.2.2.1 rfl (lv_at hl 0 rfl) ?_
                refine lv_iconst (v := (-1)) hx hb gX5_readPart_10.2.2.2.1 (by decide) ?_
                refine tr_icmp_ne (tgt := 171) hx hb gX5_readPart_10.2.2.2.2.1 (by decide) (Eq.refl _) tk_m1 (fun c164 => ?_) (fun c164 => ?_)
                · replace hF := hF.trans (if_pos c164)
                  refine lv_iload_n hx hb gX5_readPart_10.2.2.2.2.2.2.2 rfl (lv_at hl 1 rfl) ?_
                  refine lv_iload_n hx hb gX5_readPart_11.1 rfl (lv_at hl 0 rfl) ?_
                  refine tr_iadd hx hb gX5_readPart_11.2.1 (Eq.refl _) (Eq.refl _) (by omega) (by omega) (fun x46 ex46 => ?_)
                  replace hF := hF.trans (dv_bn (ex46.symm))
                  refine lv_istore_n (lv' := [(2, .int x46), (3, .int x42), (0, .ref a0)]) hx hb gX5_readPart_11.2.2.1 rfl hl (by decide) rfl (fun ls hl => ?_)
                  exact jn175 H158 locs ls x46 hB hR (lv_sub hl [2, 0] rfl) hF (by omega) (by omega) mm43
                · replace hF := hF.trans (if_neg (not_not_intro c164))
                  refine lv_iconst (v := (-1)) hx hb gX5_readPart_10.2.2.2.2.2.1 (by decide) ?_
                  refine lv_goto (tgt := 174) hx hb gX5_readPart_10.2.2.2.2.2.2.1 (by decide) ?_
                  refine lv_istore_n (lv' := [(2, .int (-1)), (3, .int x42), (0, .ref a0)]) hx hb gX5_readPart_11.2.2.1 rfl hl (by decide) rfl (fun ls hl => ?_)
                  exact jn175 H158 locs ls (-1) hB hR (lv_sub hl [2, 0] rfl) (by rw [tk_m1]; exact hF) (by decide) (by decide) mm43
              refine tr_icmp_eq (tgt := 154) hx hb gX5_readPart_9.2.1 (by decide) (Eq.refl _) tk_318 (fun c144 => ?_) (fun c144 => ?_)
              · replace hF := hF.trans (if_pos c144)
                exact jn154 locs ls hB (lv_sub hl [0, 2] rfl) hF
              · replace hF := hF.trans (if_neg c144)
                refine lv_iload_n hx hb gX5_readPart_9.2.2.1 rfl (lv_at hl 1 rfl) ?_
                refine lv_sipush (v := 327) hx hb gX5_readPart_9.2.2.2.1 (by decide) ?_
                refine tr_icmp_ne (tgt := 175) hx hb gX5_readPart_9.2.2.2.2.1 (by decide) (Eq.refl _) tk_327 (fun c151 => ?_) (fun c151 => ?_)
                · replace hF := hF.trans (if_pos c151)
                  exact jn175 H130 locs ls x30 hB hR (lv_sub hl [2, 0] rfl) hF (by omega) (by omega) mm33
                · replace hF := hF.trans (if_neg (not_not_intro c151))
                  exact jn154 locs ls hB (lv_sub hl [0, 2] rfl) hF
          · replace hF := hF.trans (if_neg c114)
            refine lv_iload_n hx hb gX5_readPart_7.2.2.2.2.1 rfl (lv_at hl 1 rfl) ?_
            refine lv_sipush (v := 400) hx hb gX5_readPart_7.2.2.2.2.2.1 (by decide) ?_
            refine tr_icmp_ge (tgt := 128) hx hb gX5_readPart_7.2.2.2.2.2.2.1 (by decide) (Eq.refl _) tk_400 (fun c121 => ?_) (fun c121 => ?_)
            · exfalso; omega
            · replace hF := hF.trans (if_neg (Int.not_le.mpr c121))
              refine lv_iconst (v := 1) hx hb gX5_readPart_7.2.2.2.2.2.2.2 (by decide) ?_
              refine lv_goto (tgt := 129) hx hb gX5_readPart_8.1 (by decide) ?_
              refine tr_iadd hx hb gX5_readPart_8.2.2.1 (Eq.refl _) tk_1 (by omega) (by omega) (fun x47 ex47 => ?_)
              replace hF := hF.trans (dv_bn (ex47.symm))
              refine th_put hC cf_X5 hB h0 (Or.inl h0) ro_20 rfl (j := 5) rfl th_sIa (by decide) rfl rfl rfl kf_X5_30 gX5_readPart_8.2.2.2.1 (fun H130 locs hB hf hst130 => ?_)
              have mm48 := (th_F_o hf h0 ro_20 (j := 7) (by decide) (by decide)).trans mm4
              have mm49 := (th_F_o hf h0 ro_20 (j := 3) (by decide) (by decide)).trans mm5
              have mm50 := (th_F_o hf h0 ro_20 (j := 4) (by decide) (by decide)).trans mx7
              replace hF := hF.trans (dv_bn (dv_putI hB.1 h0 ro_20 (j := 5) rfl (th_apart hC cf_X5) hst130 (Eq.refl _) (by decide)))
              have hR := th_RD_st (th_RC_F hB.1 hR.1 hf (th_T_s h0 ro_20 hst130) (by decide)) hR h0 hst130 (th_RD_up (th_apart hC cf_X5 0 5 (by decide) (by decide) (by decide)) (hR.2 _ _ h0) (mc6 (by omega)) h0 mx31 (by have w1 := tk_1; omega) hst130)
              refine lv_aload_n hx hb gX5_readPart_8.2.2.2.2.1 rfl (lv_at hl 2 rfl) ?_
              refine th_getK hC cf_X5 hB.1 h0 ro_20 rfl (j := 4) (by decide) mm50 kf_X5_26 gX5_readPart_8.2.2.2.2.2.1 ?_
              replace hF := hF.trans (dv_bn (dv_getI h0 ro_20 (j := 4) rfl mm50 (by decide)))
              have jn175 : ∀ (H175 : Heap) (locs : List Loc) (ls : Array Slot) (j175_2 : Int32), th_B G Γ Γ [(20, 5), (20, 6), (20, 7), (20, 8), (40, 0), (39, 2)] H0 H175 locs → th_RD G Γ H175 → lv_has ls 4 [(0, .ref a0), (2, .int j175_2)] → F = f_X5_readPart_175x4 d (dv_pre (fun _ _ => dv_z) f_X5_readSum d) (dv G Γ H175) ((a0 : Int)) (j175_2.toInt) → (-1) ≤ j175_2.toInt → j175_2.toInt ≤ 16383 → th_sl H175 a0 (G.1.1.2 5 7) = .int bv → W p l e ({ frames := 6 + 2 * d, cells := 0, slots := 0, locals := 400 + d * 46 } : Room) s m ([.ref a0] : List Value).toArray below meth c H175 locs 0 0 (MQ below (th_Q (fun (v : Option Value) (H1 : Heap) => v = none ∧ th_I G Γ H1 ∧ th_F G Γ [(20, 5), (20, 6), (20, 7), (20, 8), (40, 0), (39, 2)] H0 H1 ∧ th_RD G Γ H1 ∧ (th_sl H1 a0 (G.1.1.2 5 7) = .int bv) ∧ (f_X5_readPart d (dv G Γ H0) (a0 : Int) = (dv G Γ H1, 0))) G) ([.ref a0] : List Value).toArray s 0 0 (fun q => G.1.2.2 ≤ q)) (F0 m 175 ls []) := by
                intro H175 locs ls j175_2 hB hR hl hF g175_0 g175_1 g175_2
                have lj175_2 := ti_lo j175_2; have uj175_2 := ti_hi j175_2
                have mm51 := (th_F_o hB.2.2 h0 ro_20 (j := 3) (by decide) (by decide)).trans mbn3
                replace hF := hF.trans (f_X5_readPart_175x4.eq_1 d (dv_pre (fun _ _ => dv_z) f_X5_readSum d) (dv G Γ H175) ((a0 : Int)) (j175_2.toInt))
                refine lv_iload_n hx hb gX5_readPart_11.2.2.2.1 rfl (lv_at hl 1 rfl) ?_
                refine lv_iconst (v := (-1)) hx hb gX5_readPart_11.2.2.2.2.1 (by decide) ?_
                have jn184 : ∀ (H184 : Heap) (locs : List Loc) (ls : Array Slot) , th_B G Γ Γ [(20, 5), (20, 6), (20, 7), (20, 8), (40, 0), (39, 2)] H0 H184 locs → th_RD G Γ H184 → lv_has ls 4 [(0, .ref a0), (2, .int j175_2)] → F = f_X5_readPart_184x4 d (dv_pre (fun _ _ => dv_z) f_X5_readSum d) (dv G Γ H184) ((a0 : Int)) (j175_2.toInt) → th_sl H184 a0 (G.1.1.2 5 7) = .int bv → W p l e ({ frames := 6 + 2 * d, cells := 0, slots := 0, locals := 400 + d * 46 } : Room) s m ([.ref a0] : List Value).toArray below meth c H184 locs 0 0 (MQ below (th_Q (fun (v : Option Value) (H1 : Heap) => v = none ∧ th_I G Γ H1 ∧ th_F G Γ [(20, 5), (20, 6), (20, 7), (20, 8), (40, 0), (39, 2)] H0 H1 ∧ th_RD G Γ H1 ∧ (th_sl H1 a0 (G.1.1.2 5 7) = .int bv) ∧ (f_X5_readPart d (dv G Γ H0) (a0 : Int) = (dv G Γ H1, 0))) G) ([.ref a0] : List Value).toArray s 0 0 (fun q => G.1.2.2 ≤ q)) (F0 m 184 ls []) := by
                  intro H184 locs ls hB hR hl hF g184_0
                  have mm52 := (th_F_o hB.2.2 h0 ro_20 (j := 3) (by decide) (by decide)).trans mbn3
                  replace hF := hF.trans (f_X5_readPart_184x4.eq_1 d (dv_pre (fun _ _ => dv_z) f_X5_readSum d) (dv G Γ H184) ((a0 : Int)) (j175_2.toInt))
                  refine lv_aload_n hx hb gX5_readPart_12.1 rfl (lv_at hl 0 rfl) ?_
                  refine th_getK hC cf_X5 hB.1 h0 ro_20 rfl (j := 3) (by decide) mm52 kf_X5_22 gX5_readPart_12.2.1 ?_
                  replace hF := hF.trans (dv_bn (dv_getR h0 ro_20 (j := 3) rfl mm52 (by decide)))
                  refine lv_iload_n hx hb gX5_readPart_12.2.2.1 rfl (lv_at hl 1 rfl) ?_
                  refine th_call (th_runV (As := [.int j175_2]) (rest := []) hC mf_X10_add km_X5_199 im_X10_add se_X10_add (c_X10_add l G Γ H184 hB.1 hR.1 hU bn3 hbn3 j175_2 (by omega)) rfl rfl ⟨by dsimp only; omega, by dsimp only; omega⟩ hB.1 hbn3 ro_39 rfl rfl hl.1 rfl (Nat.le_of_ble_eq_true rfl) gX5_readPart_12.2.2.2.1 ⟨Nat.le_refl _, Nat.le_refl _⟩) hB.2.1 (fun v189 H189 locs hp hz hS => ?_)
                  have hRD := hR
                  obtain ⟨rfl, hI1, hf, hR, z189_0⟩ := hp
                  have hR := th_RD_c hR hRD hf (by decide)
                  have hB := th_B_c hB hI1 hS hf (by decide)
                  have mm53 := (th_F_o hf h0 ro_20 (j := 7) (by decide) (by decide)).trans g184_0
                  have mm54 := (th_F_o hf h0 ro_20 (j := 3) (by decide) (by decide)).trans mm52
                  replace hF := hF.trans (dv_bn2 (z189_0))
                  refine W.eq (g2 := F0 m 192 ls []) rfl ?_
                  exact th_vret hC hH hr hlocks hB.2.1 ⟨rfl, hB.1, hB.2.2, hR, mm53, (hF0.symm.trans hF)⟩ gX5_readPart_12.2.2.2.2
                refine tr_icmp_ne (tgt := 184) hx hb gX5_readPart_11.2.2.2.2.2.1 (by decide) (Eq.refl _) tk_m1 (fun c177 => ?_) (fun c177 => ?_)
                · replace hF := hF.trans (if_pos c177)
                  exact jn184 H175 locs ls hB hR (lv_sub hl [0, 1] rfl) hF g175_2
                · replace hF := hF.trans (if_neg (not_not_intro c177))
                  refine lv_aload_n hx hb gX5_readPart_11.2.2.2.2.2.2.1 rfl (lv_at hl 0 rfl) ?_
                  refine th_call (th_runV (As := []) (rest := []) hC mf_X5_fail km_X5_58 im_X5_fail se_X5_fail (c_X5_fail l G Γ H175 hB.1 hR hU a0 h0) rfl rfl ⟨by dsimp only; omega, by dsimp only; omega⟩ hB.1 h0 ro_20 rfl rfl hl.1 rfl (Nat.le_of_ble_eq_true rfl) gX5_readPart_11.2.2.2.2.2.2.2 ⟨Nat.le_refl _, Nat.le_refl _⟩) hB.2.1 (fun v181 H181 locs hp hz hS => ?_)
                  obtain ⟨rfl, hI1, hf, hR, z181_0⟩ := hp
                  have hB := th_B_c hB hI1 hS hf (by decide)
                  have mm55 := (th_F_o hf h0 ro_20 (j := 7) (by decide) (by decide)).trans g175_2
                  have mm56 := (th_F_o hf h0 ro_20 (j := 3) (by decide) (by decide)).trans mm51
                  replace hF := hF.trans (dv_bn2 (z181_0))
                  refine W.eq (g2 := F0 m 184 ls []) rfl ?_
                  exact jn184 H181 locs ls hB hR (lv_sub hl [0, 1] rfl) hF mm55
              refine tr_if_eq (tgt := 175) hx hb gX5_readPart_8.2.2.2.2.2.2.1 (by decide) (Eq.refl _) (fun c137 => ?_) (fun c137 => ?_)
              · exfalso; omega
              · replace hF := hF.trans (if_neg c137)
                refine lv_iload_n hx hb gX5_readPart_8.2.2.2.2.2.2.2 rfl (lv_at hl 1 rfl) ?_
                refine lv_sipush (v := 318) hx hb gX5_readPart_9.1 (by decide) ?_
                have jn154 : ∀ (locs : List Loc) (ls : Array Slot) , th_B G Γ Γ [(20, 5), (20, 6), (20, 7), (20, 8), (40, 0), (39, 2)] H0 H130 locs → lv_has ls 4 [(2, .int x30), (0, .ref a0)] → F = f_X5_readPart_154x2 d (dv_pre (fun _ _ => dv_z) f_X5_readSum d) (dv G Γ H130) (x30.toInt) ((a0 : Int)) → W p l e ({ frames := 6 + 2 * d, cells := 0, slots := 0, locals := 400 + d * 46 } : Room) s m ([.ref a0] : List Value).toArray below meth c H130 locs 0 0 (MQ below (th_Q (fun (v : Option Value) (H1 : Heap) => v = none ∧ th_I G Γ H1 ∧ th_F G Γ [(20, 5), (20, 6), (20, 7), (20, 8), (40, 0), (39, 2)] H0 H1 ∧ th_RD G Γ H1 ∧ (th_sl H1 a0 (G.1.1.2 5 7) = .int bv) ∧ (f_X5_readPart d (dv G Γ H0) (a0 : Int) = (dv G Γ H1, 0))) G) ([.ref a0] : List Value).toArray s 0 0 (fun q => G.1.2.2 ≤ q)) (F0 m 154 ls []) := by
                  intro locs ls hB hl hF
                  replace hF := hF.trans (f_X5_readPart_154x2.eq_1 d (dv_pre (fun _ _ => dv_z) f_X5_readSum d) (dv G Γ H130) (x30.toInt) ((a0 : Int)))
                  refine lv_aload_n hx hb gX5_readPart_9.2.2.2.2.2.1 rfl (lv_at hl 1 rfl) ?_
                  refine lv_iconst (v := 0) hx hb gX5_readPart_9.2.2.2.2.2.2.1 (by decide) ?_
                  refine lv_bipush (v := 8) hx hb gX5_readPart_9.2.2.2.2.2.2.2 (by decide) ?_
                  refine th_call (th_runV (As := [.int 0, .int 8]) (rest := []) hC mf_X5_takeNumber km_X5_167 im_X5_takeNumber se_X5_takeNumber (c_X5_takeNumber l G Γ H130 hB.1 hR hU a0 h0 0 (by decide) 8) rfl rfl ⟨by dsimp only; omega, by dsimp only; omega⟩ hB.1 h0 ro_20 rfl rfl hl.1 rfl (Nat.le_of_ble_eq_true rfl) gX5_readPart_10.1 ⟨Nat.le_refl _, Nat.le_refl _⟩) hB.2.1 (fun v158 H158 locs hp hz hS => ?_)
                  obtain ⟨x57, rfl, lx57, q158_0, hI1, hf, hR, z158_0, z158_1⟩ := hp
                  have hB := th_B_c hB hI1 hS hf (by decide)
                  have mm58 := (th_F_o hf h0 ro_20 (j := 7) (by decide) (by decide)).trans mm48
                  have mm59 := (th_F_o hf h0 ro_20 (j := 3) (by decide) (by decide)).trans mm49
                  have mm60 := (th_F_o hf h0 ro_20 (j := 4) (by decide) (by decide)).trans mm50
                  have w158_0 := tk_0
                  have w158_1 := tk_8
                  have zf158 := z158_1
                  rw [tk_0, tk_8] at zf158
                  replace hF := hF.trans (dv_bn2 (zf158))
                  refine W.eq (g2 := F0 m 161 ls [.int x57]) rfl ?_
                  refine lv_istore_n (lv' := [(3, .int x57), (2, .int x30), (0, .ref a0)]) hx hb gX5_readPart_10.2.1 rfl hl (by decide) rfl (fun ls hl => ?_)
                  refine lv_iload_n hx hb gX5_readPart_10.2.2.1 rfl (lv_at hl 0 rfl) ?_
                  refine lv_iconst (v := (-1)) hx hb gX5_readPart_10.2.2.2.1 (by decide) ?_
                  refine tr_icmp_ne (tgt := 171) hx hb gX5_readPart_10.2.2.2.2.1 (by decide) (Eq.refl _) tk_m1 (fun c164 => ?_) (fun c164 => ?_)
                  · replace hF := hF.trans (if_pos c164)
                    refine lv_iload_n hx hb gX5_readPart_10.2.2.2.2.2.2.2 rfl (lv_at hl 1 rfl) ?_
                    refine lv_iload_n hx hb gX5_readPart_11.1 rfl (lv_at hl 0 rfl) ?_
                    refine tr_iadd hx hb gX5_readPart_11.2.1 (Eq.refl _) (Eq.refl _) (by omega) (by omega) (fun x61 ex61 => ?_)
                    replace hF := hF.trans (dv_bn (ex61.symm))
                    refine lv_istore_n (lv' := [(2, .int x61), (3, .int x57), (0, .ref a0)]) hx hb gX5_readPart_11.2.2.1 rfl hl (by decide) rfl (fun ls hl => ?_)
                    exact jn175 H158 locs ls x61 hB hR (lv_sub hl [2, 0] rfl) hF (by omega) (by omega) mm58
                  · replace hF := hF.trans (if_neg (not_not_intro c164))
                    refine lv_iconst (v := (-1)) hx hb gX5_readPart_10.2.2.2.2.2.1 (by decide) ?_
                    refine lv_goto (tgt := 174) hx hb gX5_readPart_10.2.2.2.2.2.2.1 (by decide) ?_
                    refine lv_istore_n (lv' := [(2, .int (-1)), (3, .int x57), (0, .ref a0)]) hx hb gX5_readPart_11.2.2.1 rfl hl (by decide) rfl (fun ls hl => ?_)
                    exact jn175 H158 locs ls (-1) hB hR (lv_sub hl [2, 0] rfl) (by rw [tk_m1]; exact hF) (by decide) (by decide) mm58
                refine tr_icmp_eq (tgt := 154) hx hb gX5_readPart_9.2.1 (by decide) (Eq.refl _) tk_318 (fun c144 => ?_) (fun c144 => ?_)
                · replace hF := hF.trans (if_pos c144)
                  exact jn154 locs ls hB (lv_sub hl [0, 2] rfl) hF
                · replace hF := hF.trans (if_neg c144)
                  refine lv_iload_n hx hb gX5_readPart_9.2.2.1 rfl (lv_at hl 1 rfl) ?_
                  refine lv_sipush (v := 327) hx hb gX5_readPart_9.2.2.2.1 (by decide) ?_
                  refine tr_icmp_ne (tgt := 175) hx hb gX5_readPart_9.2.2.2.2.1 (by decide) (Eq.refl _) tk_327 (fun c151 => ?_) (fun c151 => ?_)
                  · replace hF := hF.trans (if_pos c151)
                    exact jn175 H130 locs ls x30 hB hR (lv_sub hl [2, 0] rfl) hF (by omega) (by omega) mm48
                  · replace hF := hF.trans (if_neg (not_not_intro c151))
                    exact jn154 locs ls hB (lv_sub hl [0, 2] rfl) hF
      · replace hF := hF.trans (if_neg (Int.not_lt.mpr c74))
        refine lv_aload_n hx hb gX5_readPart_5.1 rfl (lv_at hl 1 rfl) ?_
        refine lv_iconst (v := 0) hx hb gX5_readPart_5.2.1 (by decide) ?_
        refine lv_sipush (v := 1000) hx hb gX5_readPart_5.2.2.1 (by decide) ?_
        refine th_call (th_runV (As := [.int 0, .int 1000]) (rest := []) hC mf_X5_takeNumber km_X5_167 im_X5_takeNumber se_X5_takeNumber (c_X5_takeNumber l G Γ H67 hB.1 hR hU a0 h0 0 (by decide) 1000) rfl rfl ⟨by dsimp only; omega, by dsimp only; omega⟩ hB.1 h0 ro_20 rfl rfl hl.1 rfl (Nat.le_of_ble_eq_true rfl) gX5_readPart_5.2.2.2.1 ⟨Nat.le_refl _, Nat.le_refl _⟩) hB.2.1 (fun v82 H82 locs hp hz hS => ?_)
        obtain ⟨x62, rfl, lx62, q82_0, hI1, hf, hR, z82_0, z82_1⟩ := hp
        have hB := th_B_c hB hI1 hS hf (by decide)
        have mm63 := (th_F_o hf h0 ro_20 (j := 7) (by decide) (by decide)).trans mm4
        have mm64 := (th_F_o hf h0 ro_20 (j := 3) (by decide) (by decide)).trans mm5
        have w82_0 := tk_0
        have w82_1 := tk_1000
        have zf82 := z82_1
        rw [tk_0, tk_1000] at zf82
        replace hF := hF.trans (dv_bn2 (zf82))
        refine W.eq (g2 := F0 m 85 ls [.int x62]) rfl ?_
        refine lv_goto (tgt := 106) hx hb gX5_readPart_5.2.2.2.2.1 (by decide) ?_
        refine lv_istore_n (lv' := [(2, .int x62), (1, .int x1), (0, .ref a0)]) hx hb gX5_readPart_6.2.2.2.2.2.1 rfl hl (by decide) rfl (fun ls hl => ?_)
        refine lv_aload_n hx hb gX5_readPart_6.2.2.2.2.2.2.1 rfl (lv_at hl 2 rfl) ?_
        refine lv_dup hx hb gX5_readPart_6.2.2.2.2.2.2.2 rfl ?_
        refine th_getI (j := 5) hC cf_X5 hB.1 h0 ro_20 rfl rfl kf_X5_30 gX5_readPart_7.1 (fun x65 mx65 lx65 ux65 => ?_)
        obtain ⟨rax65, rbx65⟩ := th_RI_at (hR.2 _ _ h0) mx65
        replace hF := hF.trans (dv_bn (dv_getI h0 ro_20 (j := 5) rfl mx65 (by decide)))
        refine lv_iload_n hx hb gX5_readPart_7.2.1 rfl (lv_at hl 0 rfl) ?_
        refine lv_iconst (v := (-1)) hx hb gX5_readPart_7.2.2.1 (by decide) ?_
        refine tr_icmp_eq (tgt := 128) hx hb gX5_readPart_7.2.2.2.1 (by decide) (Eq.refl _) tk_m1 (fun c114 => ?_) (fun c114 => ?_)
        · replace hF := hF.trans (if_pos c114)
          refine lv_iconst (v := 0) hx hb gX5_readPart_8.2.1 (by decide) ?_
          refine tr_iadd hx hb gX5_readPart_8.2.2.1 (Eq.refl _) tk_0 (by omega) (by omega) (fun x66 ex66 => ?_)
          replace hF := hF.trans (dv_bn (ex66.symm))
          refine th_put hC cf_X5 hB h0 (Or.inl h0) ro_20 rfl (j := 5) rfl th_sIa (by decide) rfl rfl rfl kf_X5_30 gX5_readPart_8.2.2.2.1 (fun H130 locs hB hf hst130 => ?_)
          have mm67 := (th_F_o hf h0 ro_20 (j := 7) (by decide) (by decide)).trans mm63
          have mm68 := (th_F_o hf h0 ro_20 (j := 3) (by decide) (by decide)).trans mm64
          replace hF := hF.trans (dv_bn (dv_putI hB.1 h0 ro_20 (j := 5) rfl (th_apart hC cf_X5) hst130 (Eq.refl _) (by decide)))
          have hR := th_RD_st (th_RC_F hB.1 hR.1 hf (th_T_s h0 ro_20 hst130) (by decide)) hR h0 hst130 (th_RI_same (th_apart hC cf_X5 0 5 (by decide) (by decide) (by decide)) (hR.2 _ _ h0) h0 mx65 (by have w0 := tk_0; omega) hst130)
          refine lv_aload_n hx hb gX5_readPart_8.2.2.2.2.1 rfl (lv_at hl 2 rfl) ?_
          refine th_getI (j := 4) hC cf_X5 hB.1 h0 ro_20 rfl rfl kf_X5_26 gX5_readPart_8.2.2.2.2.2.1 (fun x69 mx69 lx69 ux69 => ?_)
          replace hF := hF.trans (dv_bn (dv_getI h0 ro_20 (j := 4) rfl mx69 (by decide)))
          have jn175 : ∀ (H175 : Heap) (locs : List Loc) (ls : Array Slot) (j175_2 : Int32), th_B G Γ Γ [(20, 5), (20, 6), (20, 7), (20, 8), (40, 0), (39, 2)] H0 H175 locs → th_RD G Γ H175 → lv_has ls 4 [(0, .ref a0), (2, .int j175_2)] → F = f_X5_readPart_175x5 d (dv_pre (fun _ _ => dv_z) f_X5_readSum d) (dv G Γ H175) ((a0 : Int)) (j175_2.toInt) → (-1) ≤ j175_2.toInt → j175_2.toInt ≤ 16383 → th_sl H175 a0 (G.1.1.2 5 7) = .int bv → W p l e ({ frames := 6 + 2 * d, cells := 0, slots := 0, locals := 400 + d * 46 } : Room) s m ([.ref a0] : List Value).toArray below meth c H175 locs 0 0 (MQ below (th_Q (fun (v : Option Value) (H1 : Heap) => v = none ∧ th_I G Γ H1 ∧ th_F G Γ [(20, 5), (20, 6), (20, 7), (20, 8), (40, 0), (39, 2)] H0 H1 ∧ th_RD G Γ H1 ∧ (th_sl H1 a0 (G.1.1.2 5 7) = .int bv) ∧ (f_X5_readPart d (dv G Γ H0) (a0 : Int) = (dv G Γ H1, 0))) G) ([.ref a0] : List Value).toArray s 0 0 (fun q => G.1.2.2 ≤ q)) (F0 m 175 ls []) := by
            intro H175 locs ls j175_2 hB hR hl hF g175_0 g175_1 g175_2
            have lj175_2 := ti_lo j175_2; have uj175_2 := ti_hi j175_2
            have mm70 := (th_F_o hB.2.2 h0 ro_20 (j := 3) (by decide) (by decide)).trans mbn3
            replace hF := hF.trans (f_X5_readPart_175x5.eq_1 d (dv_pre (fun _ _ => dv_z) f_X5_readSum d) (dv G Γ H175) ((a0 : Int)) (j175_2.toInt))
            refine lv_iload_n hx hb gX5_readPart_11.2.2.2.1 rfl (lv_at hl 1 rfl) ?_
            refine lv_iconst (v := (-1)) hx hb gX5_readPart_11.2.2.2.2.1 (by decide) ?_
            have jn184 : ∀ (H184 : Heap) (locs : List Loc) (ls : Array Slot) , th_B G Γ Γ [(20, 5), (20, 6), (20, 7), (20, 8), (40, 0), (39, 2)] H0 H184 locs → th_RD G Γ H184 → lv_has ls 4 [(0, .ref a0), (2, .int j175_2)] → F = f_X5_readPart_184x5 d (dv_pre (fun _ _ => dv_z) f_X5_readSum d) (dv G Γ H184) ((a0 : Int)) (j175_2.toInt) → th_sl H184 a0 (G.1.1.2 5 7) = .int bv → W p l e ({ frames := 6 + 2 * d, cells := 0, slots := 0, locals := 400 + d * 46 } : Room) s m ([.ref a0] : List Value).toArray below meth c H184 locs 0 0 (MQ below (th_Q (fun (v : Option Value) (H1 : Heap) => v = none ∧ th_I G Γ H1 ∧ th_F G Γ [(20, 5), (20, 6), (20, 7), (20, 8), (40, 0), (39, 2)] H0 H1 ∧ th_RD G Γ H1 ∧ (th_sl H1 a0 (G.1.1.2 5 7) = .int bv) ∧ (f_X5_readPart d (dv G Γ H0) (a0 : Int) = (dv G Γ H1, 0))) G) ([.ref a0] : List Value).toArray s 0 0 (fun q => G.1.2.2 ≤ q)) (F0 m 184 ls []) := by
              intro H184 locs ls hB hR hl hF g184_0
              have mm71 := (th_F_o hB.2.2 h0 ro_20 (j := 3) (by decide) (by decide)).trans mbn3
              replace hF := hF.trans (f_X5_readPart_184x5.eq_1 d (dv_pre (fun _ _ => dv_z) f_X5_readSum d) (dv G Γ H184) ((a0 : Int)) (j175_2.toInt))
              refine lv_aload_n hx hb gX5_readPart_12.1 rfl (lv_at hl 0 rfl) ?_
              refine th_getK hC cf_X5 hB.1 h0 ro_20 rfl (j := 3) (by decide) mm71 kf_X5_22 gX5_readPart_12.2.1 ?_
              replace hF := hF.trans (dv_bn (dv_getR h0 ro_20 (j := 3) rfl mm71 (by decide)))
              refine lv_iload_n hx hb gX5_readPart_12.2.2.1 rfl (lv_at hl 1 rfl) ?_
              refine th_call (th_runV (As := [.int j175_2]) (rest := []) hC mf_X10_add km_X5_199 im_X10_add se_X10_add (c_X10_add l G Γ H184 hB.1 hR.1 hU bn3 hbn3 j175_2 (by omega)) rfl rfl ⟨by dsimp only; omega, by dsimp only; omega⟩ hB.1 hbn3 ro_39 rfl rfl hl.1 rfl (Nat.le_of_ble_eq_true rfl) gX5_readPart_12.2.2.2.1 ⟨Nat.le_refl _, Nat.le_refl _⟩) hB.2.1 (fun v189 H189 locs hp hz hS => ?_)
              have hRD := hR
              obtain ⟨rfl, hI1, hf, hR, z189_0⟩ := hp
              have hR := th_RD_c hR hRD hf (by decide)
              have hB := th_B_c hB hI1 hS hf (by decide)
              have mm72 := (th_F_o hf h0 ro_20 (j := 7) (by decide) (by decide)).trans g184_0
              have mm73 := (th_F_o hf h0 ro_20 (j := 3) (by decide) (by decide)).trans mm71
              replace hF := hF.trans (dv_bn2 (z189_0))
              refine W.eq (g2 := F0 m 192 ls []) rfl ?_
              exact th_vret hC hH hr hlocks hB.2.1 ⟨rfl, hB.1, hB.2.2, hR, mm72, (hF0.symm.trans hF)⟩ gX5_readPart_12.2.2.2.2
            refine tr_icmp_ne (tgt := 184) hx hb gX5_readPart_11.2.2.2.2.2.1 (by decide) (Eq.refl _) tk_m1 (fun c177 => ?_) (fun c177 => ?_)
            · replace hF := hF.trans (if_pos c177)
              exact jn184 H175 locs ls hB hR (lv_sub hl [0, 1] rfl) hF g175_2
            · replace hF := hF.trans (if_neg (not_not_intro c177))
              refine lv_aload_n hx hb gX5_readPart_11.2.2.2.2.2.2.1 rfl (lv_at hl 0 rfl) ?_
              refine th_call (th_runV (As := []) (rest := []) hC mf_X5_fail km_X5_58 im_X5_fail se_X5_fail (c_X5_fail l G Γ H175 hB.1 hR hU a0 h0) rfl rfl ⟨by dsimp only; omega, by dsimp only; omega⟩ hB.1 h0 ro_20 rfl rfl hl.1 rfl (Nat.le_of_ble_eq_true rfl) gX5_readPart_11.2.2.2.2.2.2.2 ⟨Nat.le_refl _, Nat.le_refl _⟩) hB.2.1 (fun v181 H181 locs hp hz hS => ?_)
              obtain ⟨rfl, hI1, hf, hR, z181_0⟩ := hp
              have hB := th_B_c hB hI1 hS hf (by decide)
              have mm74 := (th_F_o hf h0 ro_20 (j := 7) (by decide) (by decide)).trans g175_2
              have mm75 := (th_F_o hf h0 ro_20 (j := 3) (by decide) (by decide)).trans mm70
              replace hF := hF.trans (dv_bn2 (z181_0))
              refine W.eq (g2 := F0 m 184 ls []) rfl ?_
              exact jn184 H181 locs ls hB hR (lv_sub hl [0, 1] rfl) hF mm74
          refine tr_if_eq (tgt := 175) hx hb gX5_readPart_8.2.2.2.2.2.2.1 (by decide) (Eq.refl _) (fun c137 => ?_) (fun c137 => ?_)
          · replace hF := hF.trans (if_pos c137)
            exact jn175 H130 locs ls x62 hB hR (lv_sub hl [2, 0] rfl) hF (by omega) (by omega) mm67
          · replace hF := hF.trans (if_neg c137)
            refine lv_iload_n hx hb gX5_readPart_8.2.2.2.2.2.2.2 rfl (lv_at hl 1 rfl) ?_
            refine lv_sipush (v := 318) hx hb gX5_readPart_9.1 (by decide) ?_
            have jn154 : ∀ (locs : List Loc) (ls : Array Slot) , th_B G Γ Γ [(20, 5), (20, 6), (20, 7), (20, 8), (40, 0), (39, 2)] H0 H130 locs → lv_has ls 4 [(2, .int x62), (0, .ref a0)] → F = f_X5_readPart_154x3 d (dv_pre (fun _ _ => dv_z) f_X5_readSum d) (dv G Γ H130) (x62.toInt) ((a0 : Int)) → W p l e ({ frames := 6 + 2 * d, cells := 0, slots := 0, locals := 400 + d * 46 } : Room) s m ([.ref a0] : List Value).toArray below meth c H130 locs 0 0 (MQ below (th_Q (fun (v : Option Value) (H1 : Heap) => v = none ∧ th_I G Γ H1 ∧ th_F G Γ [(20, 5), (20, 6), (20, 7), (20, 8), (40, 0), (39, 2)] H0 H1 ∧ th_RD G Γ H1 ∧ (th_sl H1 a0 (G.1.1.2 5 7) = .int bv) ∧ (f_X5_readPart d (dv G Γ H0) (a0 : Int) = (dv G Γ H1, 0))) G) ([.ref a0] : List Value).toArray s 0 0 (fun q => G.1.2.2 ≤ q)) (F0 m 154 ls []) := by
              intro locs ls hB hl hF
              replace hF := hF.trans (f_X5_readPart_154x3.eq_1 d (dv_pre (fun _ _ => dv_z) f_X5_readSum d) (dv G Γ H130) (x62.toInt) ((a0 : Int)))
              refine lv_aload_n hx hb gX5_readPart_9.2.2.2.2.2.1 rfl (lv_at hl 1 rfl) ?_
              refine lv_iconst (v := 0) hx hb gX5_readPart_9.2.2.2.2.2.2.1 (by decide) ?_
              refine lv_bipush (v := 8) hx hb gX5_readPart_9.2.2.2.2.2.2.2 (by decide) ?_
              refine th_call (th_runV (As := [.int 0, .int 8]) (rest := []) hC mf_X5_takeNumber km_X5_167 im_X5_takeNumber se_X5_takeNumber (c_X5_takeNumber l G Γ H130 hB.1 hR hU a0 h0 0 (by decide) 8) rfl rfl ⟨by dsimp only; omega, by dsimp only; omega⟩ hB.1 h0 ro_20 rfl rfl hl.1 rfl (Nat.le_of_ble_eq_true rfl) gX5_readPart_10.1 ⟨Nat.le_refl _, Nat.le_refl _⟩) hB.2.1 (fun v158 H158 locs hp hz hS => ?_)
              obtain ⟨x76, rfl, lx76, q158_0, hI1, hf, hR, z158_0, z158_1⟩ := hp
              have hB := th_B_c hB hI1 hS hf (by decide)
              have mm77 := (th_F_o hf h0 ro_20 (j := 7) (by decide) (by decide)).trans mm67
              have mm78 := (th_F_o hf h0 ro_20 (j := 3) (by decide) (by decide)).trans mm68
              have w158_0 := tk_0
              have w158_1 := tk_8
              have zf158 := z158_1
              rw [tk_0, tk_8] at zf158
              replace hF := hF.trans (dv_bn2 (zf158))
              refine W.eq (g2 := F0 m 161 ls [.int x76]) rfl ?_
              refine lv_istore_n (lv' := [(3, .int x76), (2, .int x62), (0, .ref a0)]) hx hb gX5_readPart_10.2.1 rfl hl (by decide) rfl (fun ls hl => ?_)
              refine lv_iload_n hx hb gX5_readPart_10.2.2.1 rfl (lv_at hl 0 rfl) ?_
              refine lv_iconst (v := (-1)) hx hb gX5_readPart_10.2.2.2.1 (by decide) ?_
              refine tr_icmp_ne (tgt := 171) hx hb gX5_readPart_10.2.2.2.2.1 (by decide) (Eq.refl _) tk_m1 (fun c164 => ?_) (fun c164 => ?_)
              · replace hF := hF.trans (if_pos c164)
                refine lv_iload_n hx hb gX5_readPart_10.2.2.2.2.2.2.2 rfl (lv_at hl 1 rfl) ?_
                refine lv_iload_n hx hb gX5_readPart_11.1 rfl (lv_at hl 0 rfl) ?_
                refine tr_iadd hx hb gX5_readPart_11.2.1 (Eq.refl _) (Eq.refl _) (by omega) (by omega) (fun x79 ex79 => ?_)
                replace hF := hF.trans (dv_bn (ex79.symm))
                refine lv_istore_n (lv' := [(2, .int x79), (3, .int x76), (0, .ref a0)]) hx hb gX5_readPart_11.2.2.1 rfl hl (by decide) rfl (fun ls hl => ?_)
                exact jn175 H158 locs ls x79 hB hR (lv_sub hl [2, 0] rfl) hF (by omega) (by omega) mm77
              · replace hF := hF.trans (if_neg (not_not_intro c164))
                refine lv_iconst (v := (-1)) hx hb gX5_readPart_10.2.2.2.2.2.1 (by decide) ?_
                refine lv_goto (tgt := 174) hx hb gX5_readPart_10.2.2.2.2.2.2.1 (by decide) ?_
                refine lv_istore_n (lv' := [(2, .int (-1)), (3, .int x76), (0, .ref a0)]) hx hb gX5_readPart_11.2.2.1 rfl hl (by decide) rfl (fun ls hl => ?_)
                exact jn175 H158 locs ls (-1) hB hR (lv_sub hl [2, 0] rfl) (by rw [tk_m1]; exact hF) (by decide) (by decide) mm77
            refine tr_icmp_eq (tgt := 154) hx hb gX5_readPart_9.2.1 (by decide) (Eq.refl _) tk_318 (fun c144 => ?_) (fun c144 => ?_)
            · exfalso; omega
            · replace hF := hF.trans (if_neg c144)
              refine lv_iload_n hx hb gX5_readPart_9.2.2.1 rfl (lv_at hl 1 rfl) ?_
              refine lv_sipush (v := 327) hx hb gX5_readPart_9.2.2.2.1 (by decide) ?_
              refine tr_icmp_ne (tgt := 175) hx hb gX5_readPart_9.2.2.2.2.1 (by decide) (Eq.refl _) tk_327 (fun c151 => ?_) (fun c151 => ?_)
              · replace hF := hF.trans (if_pos c151)
                exact jn175 H130 locs ls x62 hB hR (lv_sub hl [2, 0] rfl) hF (by omega) (by omega) mm67
              · exfalso; omega
        · replace hF := hF.trans (if_neg c114)
          refine lv_iload_n hx hb gX5_readPart_7.2.2.2.2.1 rfl (lv_at hl 1 rfl) ?_
          refine lv_sipush (v := 400) hx hb gX5_readPart_7.2.2.2.2.2.1 (by decide) ?_
          refine tr_icmp_ge (tgt := 128) hx hb gX5_readPart_7.2.2.2.2.2.2.1 (by decide) (Eq.refl _) tk_400 (fun c121 => ?_) (fun c121 => ?_)
          · replace hF := hF.trans (if_pos c121)
            refine lv_iconst (v := 0) hx hb gX5_readPart_8.2.1 (by decide) ?_
            refine tr_iadd hx hb gX5_readPart_8.2.2.1 (Eq.refl _) tk_0 (by omega) (by omega) (fun x80 ex80 => ?_)
            replace hF := hF.trans (dv_bn (ex80.symm))
            refine th_put hC cf_X5 hB h0 (Or.inl h0) ro_20 rfl (j := 5) rfl th_sIa (by decide) rfl rfl rfl kf_X5_30 gX5_readPart_8.2.2.2.1 (fun H130 locs hB hf hst130 => ?_)
            have mm81 := (th_F_o hf h0 ro_20 (j := 7) (by decide) (by decide)).trans mm63
            have mm82 := (th_F_o hf h0 ro_20 (j := 3) (by decide) (by decide)).trans mm64
            replace hF := hF.trans (dv_bn (dv_putI hB.1 h0 ro_20 (j := 5) rfl (th_apart hC cf_X5) hst130 (Eq.refl _) (by decide)))
            have hR := th_RD_st (th_RC_F hB.1 hR.1 hf (th_T_s h0 ro_20 hst130) (by decide)) hR h0 hst130 (th_RI_same (th_apart hC cf_X5 0 5 (by decide) (by decide) (by decide)) (hR.2 _ _ h0) h0 mx65 (by have w0 := tk_0; omega) hst130)
            refine lv_aload_n hx hb gX5_readPart_8.2.2.2.2.1 rfl (lv_at hl 2 rfl) ?_
            refine th_getI (j := 4) hC cf_X5 hB.1 h0 ro_20 rfl rfl kf_X5_26 gX5_readPart_8.2.2.2.2.2.1 (fun x83 mx83 lx83 ux83 => ?_)
            replace hF := hF.trans (dv_bn (dv_getI h0 ro_20 (j := 4) rfl mx83 (by decide)))
            have jn175 : ∀ (H175 : Heap) (locs : List Loc) (ls : Array Slot) (j175_2 : Int32), th_B G Γ Γ [(20, 5), (20, 6), (20, 7), (20, 8), (40, 0), (39, 2)] H0 H175 locs → th_RD G Γ H175 → lv_has ls 4 [(0, .ref a0), (2, .int j175_2)] → F = f_X5_readPart_175x6 d (dv_pre (fun _ _ => dv_z) f_X5_readSum d) (dv G Γ H175) ((a0 : Int)) (j175_2.toInt) → (-1) ≤ j175_2.toInt → j175_2.toInt ≤ 16383 → th_sl H175 a0 (G.1.1.2 5 7) = .int bv → W p l e ({ frames := 6 + 2 * d, cells := 0, slots := 0, locals := 400 + d * 46 } : Room) s m ([.ref a0] : List Value).toArray below meth c H175 locs 0 0 (MQ below (th_Q (fun (v : Option Value) (H1 : Heap) => v = none ∧ th_I G Γ H1 ∧ th_F G Γ [(20, 5), (20, 6), (20, 7), (20, 8), (40, 0), (39, 2)] H0 H1 ∧ th_RD G Γ H1 ∧ (th_sl H1 a0 (G.1.1.2 5 7) = .int bv) ∧ (f_X5_readPart d (dv G Γ H0) (a0 : Int) = (dv G Γ H1, 0))) G) ([.ref a0] : List Value).toArray s 0 0 (fun q => G.1.2.2 ≤ q)) (F0 m 175 ls []) := by
              intro H175 locs ls j175_2 hB hR hl hF g175_0 g175_1 g175_2
              have lj175_2 := ti_lo j175_2; have uj175_2 := ti_hi j175_2
              have mm84 := (th_F_o hB.2.2 h0 ro_20 (j := 3) (by decide) (by decide)).trans mbn3
              replace hF := hF.trans (f_X5_readPart_175x6.eq_1 d (dv_pre (fun _ _ => dv_z) f_X5_readSum d) (dv G Γ H175) ((a0 : Int)) (j175_2.toInt))
              refine lv_iload_n hx hb gX5_readPart_11.2.2.2.1 rfl (lv_at hl 1 rfl) ?_
              refine lv_iconst (v := (-1)) hx hb gX5_readPart_11.2.2.2.2.1 (by decide) ?_
              have jn184 : ∀ (H184 : Heap) (locs : List Loc) (ls : Array Slot) , th_B G Γ Γ [(20, 5), (20, 6), (20, 7), (20, 8), (40, 0), (39, 2)] H0 H184 locs → th_RD G Γ H184 → lv_has ls 4 [(0, .ref a0), (2, .int j175_2)] → F = f_X5_readPart_184x6 d (dv_pre (fun _ _ => dv_z) f_X5_readSum d) (dv G Γ H184) ((a0 : Int)) (j175_2.toInt) → th_sl H184 a0 (G.1.1.2 5 7) = .int bv → W p l e ({ frames := 6 + 2 * d, cells := 0, slots := 0, locals := 400 + d * 46 } : Room) s m ([.ref a0] : List Value).toArray below meth c H184 locs 0 0 (MQ below (th_Q (fun (v : Option Value) (H1 : Heap) => v = none ∧ th_I G Γ H1 ∧ th_F G Γ [(20, 5), (20, 6), (20, 7), (20, 8), (40, 0), (39, 2)] H0 H1 ∧ th_RD G Γ H1 ∧ (th_sl H1 a0 (G.1.1.2 5 7) = .int bv) ∧ (f_X5_readPart d (dv G Γ H0) (a0 : Int) = (dv G Γ H1, 0))) G) ([.ref a0] : List Value).toArray s 0 0 (fun q => G.1.2.2 ≤ q)) (F0 m 184 ls []) := by
                intro H184 locs ls hB hR hl hF g184_0
                have mm85 := (th_F_o hB.2.2 h0 ro_20 (j := 3) (by decide) (by decide)).trans mbn3
                replace hF := hF.trans (f_X5_readPart_184x6.eq_1 d (dv_pre (fun _ _ => dv_z) f_X5_readSum d) (dv G Γ H184) ((a0 : Int)) (j175_2.toInt))
                refine lv_aload_n hx hb gX5_readPart_12.1 rfl (lv_at hl 0 rfl) ?_
                refine th_getK hC cf_X5 hB.1 h0 ro_20 rfl (j := 3) (by decide) mm85 kf_X5_22 gX5_readPart_12.2.1 ?_
                replace hF := hF.trans (dv_bn (dv_getR h0 ro_20 (j := 3) rfl mm85 (by decide)))
                refine lv_iload_n hx hb gX5_readPart_12.2.2.1 rfl (lv_at hl 1 rfl) ?_
                refine th_call (th_runV (As := [.int j175_2]) (rest := []) hC mf_X10_add km_X5_199 im_X10_add se_X10_add (c_X10_add l G Γ H184 hB.1 hR.1 hU bn3 hbn3 j175_2 (by omega)) rfl rfl ⟨by dsimp only; omega, by dsimp only; omega⟩ hB.1 hbn3 ro_39 rfl rfl hl.1 rfl (Nat.le_of_ble_eq_true rfl) gX5_readPart_12.2.2.2.1 ⟨Nat.le_refl _, Nat.le_refl _⟩) hB.2.1 (fun v189 H189 locs hp hz hS => ?_)
                have hRD := hR
                obtain ⟨rfl, hI1, hf, hR, z189_0⟩ := hp
                have hR := th_RD_c hR hRD hf (by decide)
                have hB := th_B_c hB hI1 hS hf (by decide)
                have mm86 := (th_F_o hf h0 ro_20 (j := 7) (by decide) (by decide)).trans g184_0
                have mm87 := (th_F_o hf h0 ro_20 (j := 3) (by decide) (by decide)).trans mm85
                replace hF := hF.trans (dv_bn2 (z189_0))
                refine W.eq (g2 := F0 m 192 ls []) rfl ?_
                exact th_vret hC hH hr hlocks hB.2.1 ⟨rfl, hB.1, hB.2.2, hR, mm86, (hF0.symm.trans hF)⟩ gX5_readPart_12.2.2.2.2
              refine tr_icmp_ne (tgt := 184) hx hb gX5_readPart_11.2.2.2.2.2.1 (by decide) (Eq.refl _) tk_m1 (fun c177 => ?_) (fun c177 => ?_)
              · replace hF := hF.trans (if_pos c177)
                exact jn184 H175 locs ls hB hR (lv_sub hl [0, 1] rfl) hF g175_2
              · replace hF := hF.trans (if_neg (not_not_intro c177))
                refine lv_aload_n hx hb gX5_readPart_11.2.2.2.2.2.2.1 rfl (lv_at hl 0 rfl) ?_
                refine th_call (th_runV (As := []) (rest := []) hC mf_X5_fail km_X5_58 im_X5_fail se_X5_fail (c_X5_fail l G Γ H175 hB.1 hR hU a0 h0) rfl rfl ⟨by dsimp only; omega, by dsimp only; omega⟩ hB.1 h0 ro_20 rfl rfl hl.1 rfl (Nat.le_of_ble_eq_true rfl) gX5_readPart_11.2.2.2.2.2.2.2 ⟨Nat.le_refl _, Nat.le_refl _⟩) hB.2.1 (fun v181 H181 locs hp hz hS => ?_)
                obtain ⟨rfl, hI1, hf, hR, z181_0⟩ := hp
                have hB := th_B_c hB hI1 hS hf (by decide)
                have mm88 := (th_F_o hf h0 ro_20 (j := 7) (by decide) (by decide)).trans g175_2
                have mm89 := (th_F_o hf h0 ro_20 (j := 3) (by decide) (by decide)).trans mm84
                replace hF := hF.trans (dv_bn2 (z181_0))
                refine W.eq (g2 := F0 m 184 ls []) rfl ?_
                exact jn184 H181 locs ls hB hR (lv_sub hl [0, 1] rfl) hF mm88
            refine tr_if_eq (tgt := 175) hx hb gX5_readPart_8.2.2.2.2.2.2.1 (by decide) (Eq.refl _) (fun c137 => ?_) (fun c137 => ?_)
            · replace hF := hF.trans (if_pos c137)
              exact jn175 H130 locs ls x62 hB hR (lv_sub hl [2, 0] rfl) hF (by omega) (by omega) mm81
            · replace hF := hF.trans (if_neg c137)
              refine lv_iload_n hx hb gX5_readPart_8.2.2.2.2.2.2.2 rfl (lv_at hl 1 rfl) ?_
              refine lv_sipush (v := 318) hx hb gX5_readPart_9.1 (by decide) ?_
              have jn154 : ∀ (locs : List Loc) (ls : Array Slot) , th_B G Γ Γ [(20, 5), (20, 6), (20, 7), (20, 8), (40, 0), (39, 2)] H0 H130 locs → lv_has ls 4 [(2, .int x62), (0, .ref a0)] → F = f_X5_readPart_154x4 d (dv_pre (fun _ _ => dv_z) f_X5_readSum d) (dv G Γ H130) (x62.toInt) ((a0 : Int)) → W p l e ({ frames := 6 + 2 * d, cells := 0, slots := 0, locals := 400 + d * 46 } : Room) s m ([.ref a0] : List Value).toArray below meth c H130 locs 0 0 (MQ below (th_Q (fun (v : Option Value) (H1 : Heap) => v = none ∧ th_I G Γ H1 ∧ th_F G Γ [(20, 5), (20, 6), (20, 7), (20, 8), (40, 0), (39, 2)] H0 H1 ∧ th_RD G Γ H1 ∧ (th_sl H1 a0 (G.1.1.2 5 7) = .int bv) ∧ (f_X5_readPart d (dv G Γ H0) (a0 : Int) = (dv G Γ H1, 0))) G) ([.ref a0] : List Value).toArray s 0 0 (fun q => G.1.2.2 ≤ q)) (F0 m 154 ls []) := by
                intro locs ls hB hl hF
                replace hF := hF.trans (f_X5_readPart_154x4.eq_1 d (dv_pre (fun _ _ => dv_z) f_X5_readSum d) (dv G Γ H130) (x62.toInt) ((a0 : Int)))
                refine lv_aload_n hx hb gX5_readPart_9.2.2.2.2.2.1 rfl (lv_at hl 1 rfl) ?_
                refine lv_iconst (v := 0) hx hb gX5_readPart_9.2.2.2.2.2.2.1 (by decide) ?_
                refine lv_bipush (v := 8) hx hb gX5_readPart_9.2.2.2.2.2.2.2 (by decide) ?_
                refine th_call (th_runV (As := [.int 0, .int 8]) (rest := []) hC mf_X5_takeNumber km_X5_167 im_X5_takeNumber se_X5_takeNumber (c_X5_takeNumber l G Γ H130 hB.1 hR hU a0 h0 0 (by decide) 8) rfl rfl ⟨by dsimp only; omega, by dsimp only; omega⟩ hB.1 h0 ro_20 rfl rfl hl.1 rfl (Nat.le_of_ble_eq_true rfl) gX5_readPart_10.1 ⟨Nat.le_refl _, Nat.le_refl _⟩) hB.2.1 (fun v158 H158 locs hp hz hS => ?_)
                obtain ⟨x90, rfl, lx90, q158_0, hI1, hf, hR, z158_0, z158_1⟩ := hp
                have hB := th_B_c hB hI1 hS hf (by decide)
                have mm91 := (th_F_o hf h0 ro_20 (j := 7) (by decide) (by decide)).trans mm81
                have mm92 := (th_F_o hf h0 ro_20 (j := 3) (by decide) (by decide)).trans mm82
                have w158_0 := tk_0
                have w158_1 := tk_8
                have zf158 := z158_1
                rw [tk_0, tk_8] at zf158
                replace hF := hF.trans (dv_bn2 (zf158))
                refine W.eq (g2 := F0 m 161 ls [.int x90]) rfl ?_
                refine lv_istore_n (lv' := [(3, .int x90), (2, .int x62), (0, .ref a0)]) hx hb gX5_readPart_10.2.1 rfl hl (by decide) rfl (fun ls hl => ?_)
                refine lv_iload_n hx hb gX5_readPart_10.2.2.1 rfl (lv_at hl 0 rfl) ?_
                refine lv_iconst (v := (-1)) hx hb gX5_readPart_10.2.2.2.1 (by decide) ?_
                refine tr_icmp_ne (tgt := 171) hx hb gX5_readPart_10.2.2.2.2.1 (by decide) (Eq.refl _) tk_m1 (fun c164 => ?_) (fun c164 => ?_)
                · replace hF := hF.trans (if_pos c164)
                  refine lv_iload_n hx hb gX5_readPart_10.2.2.2.2.2.2.2 rfl (lv_at hl 1 rfl) ?_
                  refine lv_iload_n hx hb gX5_readPart_11.1 rfl (lv_at hl 0 rfl) ?_
                  refine tr_iadd hx hb gX5_readPart_11.2.1 (Eq.refl _) (Eq.refl _) (by omega) (by omega) (fun x93 ex93 => ?_)
                  replace hF := hF.trans (dv_bn (ex93.symm))
                  refine lv_istore_n (lv' := [(2, .int x93), (3, .int x90), (0, .ref a0)]) hx hb gX5_readPart_11.2.2.1 rfl hl (by decide) rfl (fun ls hl => ?_)
                  exact jn175 H158 locs ls x93 hB hR (lv_sub hl [2, 0] rfl) hF (by omega) (by omega) mm91
                · replace hF := hF.trans (if_neg (not_not_intro c164))
                  refine lv_iconst (v := (-1)) hx hb gX5_readPart_10.2.2.2.2.2.1 (by decide) ?_
                  refine lv_goto (tgt := 174) hx hb gX5_readPart_10.2.2.2.2.2.2.1 (by decide) ?_
                  refine lv_istore_n (lv' := [(2, .int (-1)), (3, .int x90), (0, .ref a0)]) hx hb gX5_readPart_11.2.2.1 rfl hl (by decide) rfl (fun ls hl => ?_)
                  exact jn175 H158 locs ls (-1) hB hR (lv_sub hl [2, 0] rfl) (by rw [tk_m1]; exact hF) (by decide) (by decide) mm91
              refine tr_icmp_eq (tgt := 154) hx hb gX5_readPart_9.2.1 (by decide) (Eq.refl _) tk_318 (fun c144 => ?_) (fun c144 => ?_)
              · exfalso; omega
              · replace hF := hF.trans (if_neg c144)
                refine lv_iload_n hx hb gX5_readPart_9.2.2.1 rfl (lv_at hl 1 rfl) ?_
                refine lv_sipush (v := 327) hx hb gX5_readPart_9.2.2.2.1 (by decide) ?_
                refine tr_icmp_ne (tgt := 175) hx hb gX5_readPart_9.2.2.2.2.1 (by decide) (Eq.refl _) tk_327 (fun c151 => ?_) (fun c151 => ?_)
                · replace hF := hF.trans (if_pos c151)
                  exact jn175 H130 locs ls x62 hB hR (lv_sub hl [2, 0] rfl) hF (by omega) (by omega) mm81
                · exfalso; omega
          · exfalso; omega
    · replace hF := hF.trans (if_neg (Int.not_lt.mpr c52))
      refine lv_aload_n hx hb gX5_readPart_3.2.2.2.2.1 rfl (lv_at hl 1 rfl) ?_
      refine th_call (th_runV (As := []) (rest := []) hC mf_X5_fail km_X5_58 im_X5_fail se_X5_fail (c_X5_fail l G Γ H0 hB.1 hR hU a0 h0) rfl rfl ⟨by dsimp only; omega, by dsimp only; omega⟩ hB.1 h0 ro_20 rfl rfl hl.1 rfl (Nat.le_of_ble_eq_true rfl) gX5_readPart_3.2.2.2.2.2.1 ⟨Nat.le_refl _, Nat.le_refl _⟩) hB.2.1 (fun v56 H56 locs hp hz hS => ?_)
      obtain ⟨rfl, hI1, hf, hR, z56_0⟩ := hp
      have hB := th_B_c hB hI1 hS hf (by decide)
      have mm94 := (th_F_o hf h0 ro_20 (j := 7) (by decide) (by decide)).trans mbv
      have mm95 := (th_F_o hf h0 ro_20 (j := 3) (by decide) (by decide)).trans mbn3
      have mm96 := (th_F_o hf h0 ro_20 (j := 6) (by decide) (by decide)).trans mx2
      have mc97 := th_TKi_F q1_0 h0 hf (by decide)
      replace hF := hF.trans (dv_bn2 (z56_0))
      refine W.eq (g2 := F0 m 59 ls []) rfl ?_
      exact th_vret hC hH hr hlocks hB.2.1 ⟨rfl, hB.1, hB.2.2, hR, mm94, (hF0.symm.trans hF)⟩ gX5_readPart_3.2.2.2.2.2.2.1
  · replace hF := hF.trans (if_neg (not_not_intro c8))
    refine lv_aload_n hx hb gX5_readPart_0.2.2.2.2.2.2.1 rfl (lv_at hl 1 rfl) ?_
    have tk0 := q1_0 (by omega)
    refine th_call (th_runV (As := []) (rest := []) hC mf_X5_openBracket km_X5_195 im_X5_openBracket se_X5_openBracket (c_X5_openBracket l G Γ H0 hB.1 hR hU a0 h0 tk0 bv mbv) rfl rfl ⟨by dsimp only; omega, by dsimp only; omega⟩ hB.1 h0 ro_20 rfl rfl hl.1 rfl (Nat.le_of_ble_eq_true rfl) gX5_readPart_0.2.2.2.2.2.2.2 ⟨Nat.le_refl _, Nat.le_refl _⟩) hB.2.1 (fun v12 H12 locs hp hz hS => ?_)
    obtain ⟨x98, rfl, lx98, ux98, hI1, hf, hR, z12_0, z12_1, z12_2⟩ := hp
    have hB := th_B_c hB hI1 hS hf (by decide)
    have mm99 := (th_F_o hf h0 ro_20 (j := 3) (by decide) (by decide)).trans mbn3
    replace hF := hF.trans (dv_bn2 (z12_2))
    refine W.eq (g2 := F0 m 15 ls [.int x98]) rfl ?_
    refine tr_if_eq (tgt := 32) hx hb gX5_readPart_1.1 (by decide) (Eq.refl _) (fun c15 => ?_) (fun c15 => ?_)
    · replace hF := hF.trans (if_pos c15)
      refine lv_aload_n hx hb gX5_readPart_2.2.1 rfl (lv_at hl 1 rfl) ?_
      have mb2x : th_sl H12 a0 (G.1.1.2 5 7) = .int bv := by rw [z12_1 (by omega)]; exact mbv
      refine lv_bipush (v := 93) hx hb gX5_readPart_2.2.2.1 (by decide) ?_
      refine th_call (th_runV (As := [.int 93]) (rest := []) hC mf_X5_take km_X5_54 im_X5_take se_X5_take (c_X5_take l G Γ H12 hB.1 hR hU a0 h0 93 (by decide)) rfl rfl ⟨by dsimp only; omega, by dsimp only; omega⟩ hB.1 h0 ro_20 rfl rfl hl.1 rfl (Nat.le_of_ble_eq_true rfl) gX5_readPart_2.2.2.2.1 ⟨Nat.le_refl _, Nat.le_refl _⟩) hB.2.1 (fun v35 H35 locs hp hz hS => ?_)
      obtain ⟨x100, rfl, lx100, ux100, hI1, hf, hR, z35_0, z35_1⟩ := hp
      have hB := th_B_c hB hI1 hS hf (by decide)
      have mm101 := (th_F_o hf h0 ro_20 (j := 3) (by decide) (by decide)).trans mm99
      have mm102 := (th_F_o hf h0 ro_20 (j := 7) (by decide) (by decide)).trans mb2x
      have zf35 := z35_1
      rw [tk_93] at zf35
      replace hF := hF.trans (dv_bn2 (zf35))
      refine W.eq (g2 := F0 m 38 ls [.int x100]) rfl ?_
      refine tr_if_ne (tgt := 45) hx hb gX5_readPart_2.2.2.2.2.1 (by decide) (Eq.refl _) (fun c38 => ?_) (fun c38 => ?_)
      · replace hF := hF.trans (if_pos c38)
        exact th_vret hC hH hr hlocks hB.2.1 ⟨rfl, hB.1, hB.2.2, hR, mm102, (hF0.symm.trans hF)⟩ gX5_readPart_2.2.2.2.2.2.2.2
      · replace hF := hF.trans (if_neg (not_not_intro c38))
        refine lv_aload_n hx hb gX5_readPart_2.2.2.2.2.2.1 rfl (lv_at hl 1 rfl) ?_
        refine th_call (th_runV (As := []) (rest := []) hC mf_X5_fail km_X5_58 im_X5_fail se_X5_fail (c_X5_fail l G Γ H35 hB.1 hR hU a0 h0) rfl rfl ⟨by dsimp only; omega, by dsimp only; omega⟩ hB.1 h0 ro_20 rfl rfl hl.1 rfl (Nat.le_of_ble_eq_true rfl) gX5_readPart_2.2.2.2.2.2.2.1 ⟨Nat.le_refl _, Nat.le_refl _⟩) hB.2.1 (fun v42 H42 locs hp hz hS => ?_)
        obtain ⟨rfl, hI1, hf, hR, z42_0⟩ := hp
        have hB := th_B_c hB hI1 hS hf (by decide)
        have mm103 := (th_F_o hf h0 ro_20 (j := 3) (by decide) (by decide)).trans mm101
        have mm104 := (th_F_o hf h0 ro_20 (j := 7) (by decide) (by decide)).trans mm102
        replace hF := hF.trans (dv_bn2 (z42_0))
        refine W.eq (g2 := F0 m 45 ls []) rfl ?_
        exact th_vret hC hH hr hlocks hB.2.1 ⟨rfl, hB.1, hB.2.2, hR, mm104, (hF0.symm.trans hF)⟩ gX5_readPart_2.2.2.2.2.2.2.2
    · replace hF := hF.trans (if_neg c15)
      refine lv_aload_n hx hb gX5_readPart_1.2.1 rfl (lv_at hl 1 rfl) ?_
      obtain ⟨ob1, b1x, mb1x, eb1⟩ := z12_0 (by omega)
      have lb1x := ti_lo b1x; have ub1x := ti_hi b1x
      obtain ⟨d', hd'⟩ : ∃ d', d = d' + 1 := ⟨d - 1, by omega⟩
      refine th_call (th_runV (As := []) (rest := []) hC mf_X5_readSum km_X5_180 im_X5_readSum se_X5_readSum (ihd d' hd' l G Γ H12 hB.1 hR hU a0 h0 ⟨_, mm99, hbn3⟩ b1x mb1x (by omega)) rfl rfl ⟨by dsimp only; omega, by dsimp only; omega⟩ hB.1 h0 ro_20 rfl rfl hl.1 rfl (Nat.le_of_ble_eq_true rfl) gX5_readPart_1.2.2.1 ⟨Nat.le_refl _, Nat.le_refl _⟩) hB.2.1 (fun v19 H19 locs hp hz hS => ?_)
      obtain ⟨rfl, hI1, hf, hR, z19_0, z19_1⟩ := hp
      have hB := th_B_c hB hI1 hS hf (by decide)
      have mm105 := (th_F_o hf h0 ro_20 (j := 3) (by decide) (by decide)).trans mm99
      have zf19 := z19_1
      rw [← dv_pre_s (z := (fun _ _ => dv_z)) (f := f_X5_readSum) hd'] at zf19
      replace hF := hF.trans (dv_bn2 (zf19))
      refine W.eq (g2 := F0 m 22 ls []) rfl ?_
      refine lv_aload_n hx hb gX5_readPart_1.2.2.2.1 rfl (lv_at hl 1 rfl) ?_
      refine lv_dup hx hb gX5_readPart_1.2.2.2.2.1 rfl ?_
      refine th_getK hC cf_X5 hB.1 h0 ro_20 rfl (j := 7) (by decide) z19_0 kf_X5_37 gX5_readPart_1.2.2.2.2.2.1 ?_
      replace hF := hF.trans (dv_bn (dv_getI h0 ro_20 (j := 7) rfl z19_0 (by decide)))
      refine lv_iconst (v := 1) hx hb gX5_readPart_1.2.2.2.2.2.2.1 (by decide) ?_
      refine tr_isub hx hb gX5_readPart_1.2.2.2.2.2.2.2 (Eq.refl _) tk_1 (by omega) (by omega) (fun x106 ex106 => ?_)
      replace hF := hF.trans (dv_bn (ex106.symm))
      refine th_put hC cf_X5 hB h0 (Or.inl h0) ro_20 rfl (j := 7) rfl th_sIa (by decide) rfl rfl rfl kf_X5_37 gX5_readPart_2.1 (fun H29 locs hB hf hst29 => ?_)
      have mm107 := (th_F_o hf h0 ro_20 (j := 3) (by decide) (by decide)).trans mm105
      have hR := th_RD_F hB.1 hR hf (th_T_s h0 ro_20 hst29) (by decide)
      replace hF := hF.trans (dv_bn (dv_putI hB.1 h0 ro_20 (j := 7) rfl (th_apart hC cf_X5) hst29 (Eq.refl _) (by decide)))
      have mm108 := hst29.2.1
      have e29 : x106 = bv := Int32.toInt_inj.mp (by omega)
      have mb3x : th_sl H29 a0 (G.1.1.2 5 7) = .int bv := by rw [← e29]; exact mm108
      refine lv_aload_n hx hb gX5_readPart_2.2.1 rfl (lv_at hl 1 rfl) ?_
      refine lv_bipush (v := 93) hx hb gX5_readPart_2.2.2.1 (by decide) ?_
      refine th_call (th_runV (As := [.int 93]) (rest := []) hC mf_X5_take km_X5_54 im_X5_take se_X5_take (c_X5_take l G Γ H29 hB.1 hR hU a0 h0 93 (by decide)) rfl rfl ⟨by dsimp only; omega, by dsimp only; omega⟩ hB.1 h0 ro_20 rfl rfl hl.1 rfl (Nat.le_of_ble_eq_true rfl) gX5_readPart_2.2.2.2.1 ⟨Nat.le_refl _, Nat.le_refl _⟩) hB.2.1 (fun v35 H35 locs hp hz hS => ?_)
      obtain ⟨x109, rfl, lx109, ux109, hI1, hf, hR, z35_0, z35_1⟩ := hp
      have hB := th_B_c hB hI1 hS hf (by decide)
      have mm110 := (th_F_o hf h0 ro_20 (j := 3) (by decide) (by decide)).trans mm107
      have mm111 := (th_F_o hf h0 ro_20 (j := 7) (by decide) (by decide)).trans mb3x
      have zf35 := z35_1
      rw [tk_93] at zf35
      replace hF := hF.trans (dv_bn2 (zf35))
      refine W.eq (g2 := F0 m 38 ls [.int x109]) rfl ?_
      refine tr_if_ne (tgt := 45) hx hb gX5_readPart_2.2.2.2.2.1 (by decide) (Eq.refl _) (fun c38 => ?_) (fun c38 => ?_)
      · replace hF := hF.trans (if_pos c38)
        exact th_vret hC hH hr hlocks hB.2.1 ⟨rfl, hB.1, hB.2.2, hR, mm111, (hF0.symm.trans hF)⟩ gX5_readPart_2.2.2.2.2.2.2.2
      · replace hF := hF.trans (if_neg (not_not_intro c38))
        refine lv_aload_n hx hb gX5_readPart_2.2.2.2.2.2.1 rfl (lv_at hl 1 rfl) ?_
        refine th_call (th_runV (As := []) (rest := []) hC mf_X5_fail km_X5_58 im_X5_fail se_X5_fail (c_X5_fail l G Γ H35 hB.1 hR hU a0 h0) rfl rfl ⟨by dsimp only; omega, by dsimp only; omega⟩ hB.1 h0 ro_20 rfl rfl hl.1 rfl (Nat.le_of_ble_eq_true rfl) gX5_readPart_2.2.2.2.2.2.2.1 ⟨Nat.le_refl _, Nat.le_refl _⟩) hB.2.1 (fun v42 H42 locs hp hz hS => ?_)
        obtain ⟨rfl, hI1, hf, hR, z42_0⟩ := hp
        have hB := th_B_c hB hI1 hS hf (by decide)
        have mm112 := (th_F_o hf h0 ro_20 (j := 3) (by decide) (by decide)).trans mm110
        have mm113 := (th_F_o hf h0 ro_20 (j := 7) (by decide) (by decide)).trans mm111
        replace hF := hF.trans (dv_bn2 (z42_0))
        refine W.eq (g2 := F0 m 45 ls []) rfl ?_
        exact th_vret hC hH hr hlocks hB.2.1 ⟨rfl, hB.1, hB.2.2, hR, mm113, (hF0.symm.trans hF)⟩ gX5_readPart_2.2.2.2.2.2.2.2

set_option maxHeartbeats 4000000 in
set_option maxRecDepth 100000 in
theorem c_X5_readSum_s (d : Nat) (ihp : s_X5_readPart d) : s_X5_readSum d := by
  intro l G Γ H0 hI hR hU a0 h0 nn3 bv mbv hdm
  refine th_met RX5 (by decide) rfl (Nat.le_of_ble_eq_true rfl) ?_
  intro p e s m below meth c hC hH hr hlocks hnm ls hl
  have hx := hC.1
  have hb := hC.2.1
  have hB : th_B G Γ Γ [(20, 5), (20, 6), (20, 7), (20, 8), (40, 0), (39, 2)] H0 H0 [] := ⟨hI, va_S.rf, th_F_rf⟩
  have hl : lv_has ls 4 [(0, .ref a0)] := hl
  have lbv := ti_lo bv; have ubv := ti_hi bv
  obtain ⟨bn3, mbn3, hbn3⟩ := nn3
  obtain ⟨F, hF0⟩ : ∃ F, F = f_X5_readSum d (dv G Γ H0) ((a0 : Int)) := ⟨_, rfl⟩
  have hF := hF0.trans ((f_X5_readSum_d d (dv G Γ H0) ((a0 : Int))).trans (f_X5_readSum_B.eq_1 d (f_X5_readPart d) (dv G Γ H0) ((a0 : Int))))
  refine lv_aload_n hx hb gX5_readSum_0.1 rfl (lv_at hl 0 rfl) ?_
  refine th_call (th_runV (As := []) (rest := []) hC mf_X5_readPart km_X5_202 im_X5_readPart se_X5_readPart (ihp l G Γ H0 hB.1 hR hU a0 h0 ⟨_, mbn3, hbn3⟩ bv mbv (by omega)) rfl rfl ⟨by dsimp only; omega, by dsimp only; omega⟩ hB.1 h0 ro_20 rfl rfl hl.1 rfl (Nat.le_of_ble_eq_true rfl) gX5_readSum_0.2.1 ⟨Nat.le_refl _, Nat.le_refl _⟩) hB.2.1 (fun v1 H1 locs hp hz hS => ?_)
  obtain ⟨rfl, hI1, hf, hR, z1_0, z1_1⟩ := hp
  have hB := th_B_c hB hI1 hS hf (by decide)
  have mm1 := (th_F_o hf h0 ro_20 (j := 3) (by decide) (by decide)).trans mbn3
  replace hF := hF.trans (dv_bn2 (z1_1))
  refine W.eq (g2 := F0 m 4 ls []) rfl ?_
  refine lv_iconst (v := (-1)) hx hb gX5_readSum_0.2.2.1 (by decide) ?_
  refine lv_istore_n (lv' := [(1, .int (-1)), (0, .ref a0)]) hx hb gX5_readSum_0.2.2.2.1 rfl hl (by decide) rfl (fun ls hl => ?_)
  refine lv_iconst (v := 0) hx hb gX5_readSum_0.2.2.2.2.1 (by decide) ?_
  refine lv_istore_n (lv' := [(2, .int 0), (1, .int (-1)), (0, .ref a0)]) hx hb gX5_readSum_0.2.2.2.2.2.1 rfl hl (by decide) rfl (fun ls hl => ?_)
  have lp8 : ∀ (n8 : Nat) (H8 : Heap) (locs : List Loc) (ls : Array Slot) (j8_1 : Int32) (j8_2 : Int32), th_B G Γ Γ [(20, 5), (20, 6), (20, 7), (20, 8), (40, 0), (39, 2)] H0 H8 locs → th_RD G Γ H8 → lv_has ls 4 [(0, .ref a0), (1, .int j8_1), (2, .int j8_2)] → F = dv_lp (f_X5_readSum_8b d (f_X5_readPart d)) (dv G Γ H8, (a0 : Int), j8_1.toInt, j8_2.toInt) → (-1) ≤ j8_1.toInt → j8_1.toInt ≤ 3001 → 0 ≤ j8_2.toInt → j8_2.toInt ≤ 400 → th_sl H8 a0 (G.1.1.2 5 7) = .int bv → (2147483648 : Int) - j8_2.toInt ≤ (n8 : Int) → W p l e ({ frames := 7 + 2 * d, cells := 0, slots := 0, locals := 423 + d * 46 } : Room) s m ([.ref a0] : List Value).toArray below meth c H8 locs 0 0 (MQ below (th_Q (fun (v : Option Value) (H1 : Heap) => v = none ∧ th_I G Γ H1 ∧ th_F G Γ [(20, 5), (20, 6), (20, 7), (20, 8), (40, 0), (39, 2)] H0 H1 ∧ th_RD G Γ H1 ∧ (th_sl H1 a0 (G.1.1.2 5 7) = .int bv) ∧ (f_X5_readSum d (dv G Γ H0) (a0 : Int) = (dv G Γ H1, 0))) G) ([.ref a0] : List Value).toArray s 0 0 (fun q => G.1.2.2 ≤ q)) (F0 m 8 ls []) := by
    intro n8
    induction n8 with
    | zero => intro H8 locs ls j8_1 j8_2 hB hR hl hF g8_0 g8_1 g8_2 g8_3 g8_4 hm8; exact absurd hm8 (by have := ti_hi j8_2; omega)
    | succ n8 ih8 =>
      intro H8 locs ls j8_1 j8_2 hB hR hl hF g8_0 g8_1 g8_2 g8_3 g8_4 hm8
      have lj8_1 := ti_lo j8_1; have uj8_1 := ti_hi j8_1
      have lj8_2 := ti_lo j8_2; have uj8_2 := ti_hi j8_2
      have mm2 := (th_F_o hB.2.2 h0 ro_20 (j := 3) (by decide) (by decide)).trans mbn3
      have hm8 : (2147483648 : Int) - j8_2.toInt ≤ (n8 : Int) + 1 := by omega
      replace hF := hF.trans (dv_lp_eq)
      replace hF := hF.trans (congrArg (dv_k (f_X5_readSum_8b d (f_X5_readPart d))) (f_X5_readSum_8c.eq_1 d (f_X5_readPart d) (dv G Γ H8) ((a0 : Int)) (j8_1.toInt) (j8_2.toInt)))
      refine lv_iload_n hx hb gX5_readSum_0.2.2.2.2.2.2.1 rfl (lv_at hl 2 rfl) ?_
      refine lv_sipush (v := 400) hx hb gX5_readSum_0.2.2.2.2.2.2.2 (by decide) ?_
      have jn90 : ∀ (locs : List Loc) (ls : Array Slot) , th_B G Γ Γ [(20, 5), (20, 6), (20, 7), (20, 8), (40, 0), (39, 2)] H0 H8 locs → lv_has ls 4 [(0, .ref a0), (1, .int j8_1)] → F = dv_k (f_X5_readSum_8b d (f_X5_readPart d)) (f_X5_readSum_90 d (f_X5_readPart d) (dv G Γ H8) ((a0 : Int)) (j8_1.toInt)) → W p l e ({ frames := 7 + 2 * d, cells := 0, slots := 0, locals := 423 + d * 46 } : Room) s m ([.ref a0] : List Value).toArray below meth c H8 locs 0 0 (MQ below (th_Q (fun (v : Option Value) (H1 : Heap) => v = none ∧ th_I G Γ H1 ∧ th_F G Γ [(20, 5), (20, 6), (20, 7), (20, 8), (40, 0), (39, 2)] H0 H1 ∧ th_RD G Γ H1 ∧ (th_sl H1 a0 (G.1.1.2 5 7) = .int bv) ∧ (f_X5_readSum d (dv G Γ H0) (a0 : Int) = (dv G Γ H1, 0))) G) ([.ref a0] : List Value).toArray s 0 0 (fun q => G.1.2.2 ≤ q)) (F0 m 90 ls []) := by
        intro locs ls hB hl hF
        replace hF := hF.trans (congrArg (dv_k (f_X5_readSum_8b d (f_X5_readPart d))) (f_X5_readSum_90.eq_1 d (f_X5_readPart d) (dv G Γ H8) ((a0 : Int)) (j8_1.toInt)))
        refine lv_aload_n hx hb gX5_readSum_5.2.2.2.2.2.2.1 rfl (lv_at hl 0 rfl) ?_
        refine th_getK hC cf_X5 hB.1 h0 ro_20 rfl (j := 3) (by decide) mm2 kf_X5_22 gX5_readSum_5.2.2.2.2.2.2.2 ?_
        replace hF := hF.trans (congrArg (dv_k (f_X5_readSum_8b d (f_X5_readPart d))) (dv_bn (dv_getR h0 ro_20 (j := 3) rfl mm2 (by decide))))
        refine lv_iload_n hx hb gX5_readSum_6.1 rfl (lv_at hl 1 rfl) ?_
        refine th_call (th_runV (As := [.int j8_1]) (rest := []) hC mf_X10_add km_X5_199 im_X10_add se_X10_add (c_X10_add l G Γ H8 hB.1 hR.1 hU bn3 hbn3 j8_1 (by omega)) rfl rfl ⟨by dsimp only; omega, by dsimp only; omega⟩ hB.1 hbn3 ro_39 rfl rfl hl.1 rfl (Nat.le_of_ble_eq_true rfl) gX5_readSum_6.2.1 ⟨Nat.le_refl _, Nat.le_refl _⟩) hB.2.1 (fun v95 H95 locs hp hz hS => ?_)
        have hRD := hR
        obtain ⟨rfl, hI1, hf, hR, z95_0⟩ := hp
        have hR := th_RD_c hR hRD hf (by decide)
        have hB := th_B_c hB hI1 hS hf (by decide)
        have mm3 := (th_F_o hf h0 ro_20 (j := 7) (by decide) (by decide)).trans g8_4
        have mm4 := (th_F_o hf h0 ro_20 (j := 3) (by decide) (by decide)).trans mm2
        replace hF := hF.trans (congrArg (dv_k (f_X5_readSum_8b d (f_X5_readPart d))) (dv_bn2 (z95_0)))
        refine W.eq (g2 := F0 m 98 ls []) rfl ?_
        replace hF := hF.trans (dv_kr)
        exact th_vret hC hH hr hlocks hB.2.1 ⟨rfl, hB.1, hB.2.2, hR, mm3, (hF0.symm.trans hF)⟩ gX5_readSum_6.2.2
      refine tr_icmp_ge (tgt := 90) hx hb gX5_readSum_1.1 (by decide) (Eq.refl _) tk_400 (fun c12 => ?_) (fun c12 => ?_)
      · replace hF := hF.trans (congrArg (dv_k (f_X5_readSum_8b d (f_X5_readPart d))) (if_pos c12))
        exact jn90 locs ls hB (lv_sub hl [0, 1] rfl) hF
      · replace hF := hF.trans (congrArg (dv_k (f_X5_readSum_8b d (f_X5_readPart d))) (if_neg (Int.not_le.mpr c12)))
        refine lv_aload_n hx hb gX5_readSum_1.2.1 rfl (lv_at hl 0 rfl) ?_
        refine th_call (th_runV (As := []) (rest := []) hC mf_X5_seenToken km_X5_186 im_X5_seenToken se_X5_seenToken (c_X5_seenToken l G Γ H8 hB.1 hR hU a0 h0) rfl rfl ⟨by dsimp only; omega, by dsimp only; omega⟩ hB.1 h0 ro_20 rfl rfl hl.1 rfl (Nat.le_of_ble_eq_true rfl) gX5_readSum_1.2.2.1 ⟨Nat.le_refl _, Nat.le_refl _⟩) hB.2.1 (fun v16 H16 locs hp hz hS => ?_)
        obtain ⟨x5, rfl, q16_0, q16_1, rfl⟩ := hp
        have hB := th_B_s hB hS
        replace hF := hF.trans (congrArg (dv_k (f_X5_readSum_8b d (f_X5_readPart d))) (dv_bn2 (q16_1)))
        refine W.eq (g2 := F0 m 19 ls [.int x5]) rfl ?_
        refine th_call (th_runS (As := [.int x5]) (rest := []) hC mf_X5_codeOf km_X5_205 st_X5_codeOf (c_X5_codeOf l G Γ H8 hB.1 hU x5) rfl rfl ⟨by dsimp only; omega, by dsimp only; omega⟩ rfl hl.1 rfl (Nat.le_of_ble_eq_true rfl) gX5_readSum_1.2.2.2.1 ⟨Nat.le_refl _, Nat.le_refl _⟩) hB.2.1 (fun v19 H19 locs hp hz hS => ?_)
        obtain ⟨x6, rfl, lx6, ux6, q19_0, q19_1, rfl⟩ := hp
        have hB := th_B_s hB hS
        replace hF := hF.trans (congrArg (dv_k (f_X5_readSum_8b d (f_X5_readPart d))) (dv_bn2 (q19_1)))
        refine W.eq (g2 := F0 m 22 ls [.int x6]) rfl ?_
        refine lv_istore_n (lv' := [(3, .int x6), (0, .ref a0), (1, .int j8_1), (2, .int j8_2)]) hx hb gX5_readSum_1.2.2.2.2.1 rfl hl (by decide) rfl (fun ls hl => ?_)
        refine lv_iload_n hx hb gX5_readSum_1.2.2.2.2.2.1 rfl (lv_at hl 0 rfl) ?_
        refine lv_iconst (v := (-1)) hx hb gX5_readSum_1.2.2.2.2.2.2.1 (by decide) ?_
        refine tr_icmp_ne (tgt := 31) hx hb gX5_readSum_1.2.2.2.2.2.2.2 (by decide) (Eq.refl _) tk_m1 (fun c25 => ?_) (fun c25 => ?_)
        · replace hF := hF.trans (congrArg (dv_k (f_X5_readSum_8b d (f_X5_readPart d))) (if_pos c25))
          refine lv_aload_n hx hb gX5_readSum_2.2.1 rfl (lv_at hl 1 rfl) ?_
          have tk := q16_0 (by omega)
          refine lv_dup hx hb gX5_readSum_2.2.2.1 rfl ?_
          refine th_getI (j := 5) hC cf_X5 hB.1 h0 ro_20 rfl rfl kf_X5_30 gX5_readSum_2.2.2.2.1 (fun x7 mx7 lx7 ux7 => ?_)
          obtain ⟨rax7, rbx7⟩ := th_RI_at (hR.2 _ _ h0) mx7
          replace hF := hF.trans (congrArg (dv_k (f_X5_readSum_8b d (f_X5_readPart d))) (dv_bn (dv_getI h0 ro_20 (j := 5) rfl mx7 (by decide))))
          refine lv_iconst (v := 1) hx hb gX5_readSum_2.2.2.2.2.1 (by decide) ?_
          refine tr_iadd hx hb gX5_readSum_2.2.2.2.2.2.1 (Eq.refl _) tk_1 (by omega) (by omega) (fun x8 ex8 => ?_)
          replace hF := hF.trans (congrArg (dv_k (f_X5_readSum_8b d (f_X5_readPart d))) (dv_bn (ex8.symm)))
          refine th_put hC cf_X5 hB h0 (Or.inl h0) ro_20 rfl (j := 5) rfl th_sIa (by decide) rfl rfl rfl kf_X5_30 gX5_readSum_2.2.2.2.2.2.2.1 (fun H38 locs hB hf hst38 => ?_)
          have mm9 := (th_F_o hf h0 ro_20 (j := 7) (by decide) (by decide)).trans g8_4
          have mm10 := (th_F_o hf h0 ro_20 (j := 3) (by decide) (by decide)).trans mm2
          replace hF := hF.trans (congrArg (dv_k (f_X5_readSum_8b d (f_X5_readPart d))) (dv_bn (dv_putI hB.1 h0 ro_20 (j := 5) rfl (th_apart hC cf_X5) hst38 (Eq.refl _) (by decide))))
          have mm11 := hst38.2.1
          have hR := th_RD_st (th_RC_F hB.1 hR.1 hf (th_T_s h0 ro_20 hst38) (by decide)) hR h0 hst38 (th_RD_up (th_apart hC cf_X5 0 5 (by decide) (by decide) (by decide)) (hR.2 _ _ h0) tk h0 mx7 (by have w1 := tk_1; omega) hst38)
          refine lv_iload_n hx hb gX5_readSum_2.2.2.2.2.2.2.2 rfl (lv_at hl 0 rfl) ?_
          refine lv_sipush (v := 3000) hx hb gX5_readSum_3.1 (by decide) ?_
          have jn84 : ∀ (H84 : Heap) (locs : List Loc) (ls : Array Slot) (j84_1 : Int32), th_B G Γ Γ [(20, 5), (20, 6), (20, 7), (20, 8), (40, 0), (39, 2)] H0 H84 locs → th_RD G Γ H84 → lv_has ls 4 [(0, .ref a0), (2, .int j8_2), (1, .int j84_1)] → F = dv_k (f_X5_readSum_8b d (f_X5_readPart d)) (f_X5_readSum_84 d (f_X5_readPart d) (dv G Γ H84) ((a0 : Int)) (j8_2.toInt) (j84_1.toInt)) → (-1) ≤ j84_1.toInt → j84_1.toInt ≤ 3001 → th_sl H84 a0 (G.1.1.2 5 7) = .int bv → W p l e ({ frames := 7 + 2 * d, cells := 0, slots := 0, locals := 423 + d * 46 } : Room) s m ([.ref a0] : List Value).toArray below meth c H84 locs 0 0 (MQ below (th_Q (fun (v : Option Value) (H1 : Heap) => v = none ∧ th_I G Γ H1 ∧ th_F G Γ [(20, 5), (20, 6), (20, 7), (20, 8), (40, 0), (39, 2)] H0 H1 ∧ th_RD G Γ H1 ∧ (th_sl H1 a0 (G.1.1.2 5 7) = .int bv) ∧ (f_X5_readSum d (dv G Γ H0) (a0 : Int) = (dv G Γ H1, 0))) G) ([.ref a0] : List Value).toArray s 0 0 (fun q => G.1.2.2 ≤ q)) (F0 m 84 ls []) := by
            intro H84 locs ls j84_1 hB hR hl hF g84_0 g84_1 g84_2
            have lj84_1 := ti_lo j84_1; have uj84_1 := ti_hi j84_1
            have mm12 := (th_F_o hB.2.2 h0 ro_20 (j := 3) (by decide) (by decide)).trans mbn3
            replace hF := hF.trans (congrArg (dv_k (f_X5_readSum_8b d (f_X5_readPart d))) (f_X5_readSum_84.eq_1 d (f_X5_readPart d) (dv G Γ H84) ((a0 : Int)) (j8_2.toInt) (j84_1.toInt)))
            refine tr_iinc (fun x13 => [(2, .int x13), (0, .ref a0), (1, .int j84_1)]) hx hb gX5_readSum_5.2.2.2.2.1 hl (k := 1) rfl (Eq.refl _) tk_1 (by omega) (by omega) (by decide) (fun _ => rfl) (fun x13 ls ex13 hl => ?_)
            replace hF := hF.trans (congrArg (dv_k (f_X5_readSum_8b d (f_X5_readPart d))) (dv_bn (ex13.symm)))
            refine lv_goto (tgt := 8) hx hb gX5_readSum_5.2.2.2.2.2.1 (by decide) ?_
            replace hF := hF.trans (dv_kl)
            exact ih8 H84 locs ls j84_1 x13 hB hR (lv_sub hl [1, 2, 0] rfl) hF (by omega) (by omega) (by omega) (by omega) g84_2 (by omega)
          refine tr_icmp_eq (tgt := 55) hx hb gX5_readSum_3.2.1 (by decide) (Eq.refl _) tk_3000 (fun c45 => ?_) (fun c45 => ?_)
          · replace hF := hF.trans (congrArg (dv_k (f_X5_readSum_8b d (f_X5_readPart d))) (if_pos c45))
            refine lv_aload_n hx hb gX5_readSum_3.2.2.2.2.2.1 rfl (lv_at hl 1 rfl) ?_
            refine th_getK hC cf_X5 hB.1 h0 ro_20 rfl (j := 3) (by decide) mm10 kf_X5_22 gX5_readSum_3.2.2.2.2.2.2.1 ?_
            replace hF := hF.trans (congrArg (dv_k (f_X5_readSum_8b d (f_X5_readPart d))) (dv_bn (dv_getR h0 ro_20 (j := 3) rfl mm10 (by decide))))
            refine lv_iload_n hx hb gX5_readSum_3.2.2.2.2.2.2.2 rfl (lv_at hl 2 rfl) ?_
            refine th_call (th_runV (As := [.int j8_1]) (rest := []) hC mf_X10_add km_X5_199 im_X10_add se_X10_add (c_X10_add l G Γ H38 hB.1 hR.1 hU bn3 hbn3 j8_1 (by omega)) rfl rfl ⟨by dsimp only; omega, by dsimp only; omega⟩ hB.1 hbn3 ro_39 rfl rfl hl.1 rfl (Nat.le_of_ble_eq_true rfl) gX5_readSum_4.1 ⟨Nat.le_refl _, Nat.le_refl _⟩) hB.2.1 (fun v60 H60 locs hp hz hS => ?_)
            have hRD := hR
            obtain ⟨rfl, hI1, hf, hR, z60_0⟩ := hp
            have hR := th_RD_c hR hRD hf (by decide)
            have hB := th_B_c hB hI1 hS hf (by decide)
            have mm14 := (th_F_o hf h0 ro_20 (j := 7) (by decide) (by decide)).trans mm9
            have mm15 := (th_F_o hf h0 ro_20 (j := 3) (by decide) (by decide)).trans mm10
            have mm16 := (th_F_o hf h0 ro_20 (j := 5) (by decide) (by decide)).trans mm11
            replace hF := hF.trans (congrArg (dv_k (f_X5_readSum_8b d (f_X5_readPart d))) (dv_bn2 (z60_0)))
            refine W.eq (g2 := F0 m 63 ls []) rfl ?_
            refine lv_iload_n hx hb gX5_readSum_4.2.1 rfl (lv_at hl 0 rfl) ?_
            refine lv_istore_n (lv' := [(1, .int x6), (3, .int x6), (0, .ref a0), (2, .int j8_2)]) hx hb gX5_readSum_4.2.2.1 rfl hl (by decide) rfl (fun ls hl => ?_)
            refine lv_aload_n hx hb gX5_readSum_4.2.2.2.1 rfl (lv_at hl 2 rfl) ?_
            refine th_call (th_runV (As := []) (rest := []) hC mf_X5_readPart km_X5_202 im_X5_readPart se_X5_readPart (ihp l G Γ H60 hB.1 hR hU a0 h0 ⟨_, mm15, hbn3⟩ bv mm14 (by omega)) rfl rfl ⟨by dsimp only; omega, by dsimp only; omega⟩ hB.1 h0 ro_20 rfl rfl hl.1 rfl (Nat.le_of_ble_eq_true rfl) gX5_readSum_4.2.2.2.2.1 ⟨Nat.le_refl _, Nat.le_refl _⟩) hB.2.1 (fun v66 H66 locs hp hz hS => ?_)
            obtain ⟨rfl, hI1, hf, hR, z66_0, z66_1⟩ := hp
            have hB := th_B_c hB hI1 hS hf (by decide)
            have mm17 := (th_F_o hf h0 ro_20 (j := 3) (by decide) (by decide)).trans mm15
            replace hF := hF.trans (congrArg (dv_k (f_X5_readSum_8b d (f_X5_readPart d))) (dv_bn2 (z66_1)))
            refine W.eq (g2 := F0 m 69 ls []) rfl ?_
            refine lv_goto (tgt := 84) hx hb gX5_readSum_4.2.2.2.2.2.1 (by decide) ?_
            exact jn84 H66 locs ls x6 hB hR (lv_sub hl [2, 3, 0] rfl) hF (by omega) (by omega) z66_0
          · replace hF := hF.trans (congrArg (dv_k (f_X5_readSum_8b d (f_X5_readPart d))) (if_neg c45))
            refine lv_iload_n hx hb gX5_readSum_3.2.2.1 rfl (lv_at hl 0 rfl) ?_
            refine lv_sipush (v := 3001) hx hb gX5_readSum_3.2.2.2.1 (by decide) ?_
            refine tr_icmp_ne (tgt := 72) hx hb gX5_readSum_3.2.2.2.2.1 (by decide) (Eq.refl _) tk_3001 (fun c52 => ?_) (fun c52 => ?_)
            · replace hF := hF.trans (congrArg (dv_k (f_X5_readSum_8b d (f_X5_readPart d))) (if_pos c52))
              refine lv_aload_n hx hb gX5_readSum_4.2.2.2.2.2.2.1 rfl (lv_at hl 1 rfl) ?_
              refine th_call (th_runV (As := []) (rest := []) hC mf_X5_readPart km_X5_202 im_X5_readPart se_X5_readPart (ihp l G Γ H38 hB.1 hR hU a0 h0 ⟨_, mm10, hbn3⟩ bv mm9 (by omega)) rfl rfl ⟨by dsimp only; omega, by dsimp only; omega⟩ hB.1 h0 ro_20 rfl rfl hl.1 rfl (Nat.le_of_ble_eq_true rfl) gX5_readSum_4.2.2.2.2.2.2.2 ⟨Nat.le_refl _, Nat.le_refl _⟩) hB.2.1 (fun v73 H73 locs hp hz hS => ?_)
              obtain ⟨rfl, hI1, hf, hR, z73_0, z73_1⟩ := hp
              have hB := th_B_c hB hI1 hS hf (by decide)
              have mm18 := (th_F_o hf h0 ro_20 (j := 3) (by decide) (by decide)).trans mm10
              replace hF := hF.trans (congrArg (dv_k (f_X5_readSum_8b d (f_X5_readPart d))) (dv_bn2 (z73_1)))
              refine W.eq (g2 := F0 m 76 ls []) rfl ?_
              refine lv_aload_n hx hb gX5_readSum_5.1 rfl (lv_at hl 1 rfl) ?_
              refine th_getK hC cf_X5 hB.1 h0 ro_20 rfl (j := 3) (by decide) mm18 kf_X5_22 gX5_readSum_5.2.1 ?_
              replace hF := hF.trans (congrArg (dv_k (f_X5_readSum_8b d (f_X5_readPart d))) (dv_bn (dv_getR h0 ro_20 (j := 3) rfl mm18 (by decide))))
              refine lv_iload_n hx hb gX5_readSum_5.2.2.1 rfl (lv_at hl 0 rfl) ?_
              refine th_call (th_runV (As := [.int x6]) (rest := []) hC mf_X10_add km_X5_199 im_X10_add se_X10_add (c_X10_add l G Γ H73 hB.1 hR.1 hU bn3 hbn3 x6 (by omega)) rfl rfl ⟨by dsimp only; omega, by dsimp only; omega⟩ hB.1 hbn3 ro_39 rfl rfl hl.1 rfl (Nat.le_of_ble_eq_true rfl) gX5_readSum_5.2.2.2.1 ⟨Nat.le_refl _, Nat.le_refl _⟩) hB.2.1 (fun v81 H81 locs hp hz hS => ?_)
              have hRD := hR
              obtain ⟨rfl, hI1, hf, hR, z81_0⟩ := hp
              have hR := th_RD_c hR hRD hf (by decide)
              have hB := th_B_c hB hI1 hS hf (by decide)
              have mm19 := (th_F_o hf h0 ro_20 (j := 3) (by decide) (by decide)).trans mm18
              have mm20 := (th_F_o hf h0 ro_20 (j := 7) (by decide) (by decide)).trans z73_0
              replace hF := hF.trans (congrArg (dv_k (f_X5_readSum_8b d (f_X5_readPart d))) (dv_bn2 (z81_0)))
              refine W.eq (g2 := F0 m 84 ls []) rfl ?_
              exact jn84 H81 locs ls j8_1 hB hR (lv_sub hl [1, 3, 2] rfl) hF (by omega) (by omega) mm20
            · replace hF := hF.trans (congrArg (dv_k (f_X5_readSum_8b d (f_X5_readPart d))) (if_neg (not_not_intro c52)))
              refine lv_aload_n hx hb gX5_readSum_3.2.2.2.2.2.1 rfl (lv_at hl 1 rfl) ?_
              refine th_getK hC cf_X5 hB.1 h0 ro_20 rfl (j := 3) (by decide) mm10 kf_X5_22 gX5_readSum_3.2.2.2.2.2.2.1 ?_
              replace hF := hF.trans (congrArg (dv_k (f_X5_readSum_8b d (f_X5_readPart d))) (dv_bn (dv_getR h0 ro_20 (j := 3) rfl mm10 (by decide))))
              refine lv_iload_n hx hb gX5_readSum_3.2.2.2.2.2.2.2 rfl (lv_at hl 2 rfl) ?_
              refine th_call (th_runV (As := [.int j8_1]) (rest := []) hC mf_X10_add km_X5_199 im_X10_add se_X10_add (c_X10_add l G Γ H38 hB.1 hR.1 hU bn3 hbn3 j8_1 (by omega)) rfl rfl ⟨by dsimp only; omega, by dsimp only; omega⟩ hB.1 hbn3 ro_39 rfl rfl hl.1 rfl (Nat.le_of_ble_eq_true rfl) gX5_readSum_4.1 ⟨Nat.le_refl _, Nat.le_refl _⟩) hB.2.1 (fun v60 H60 locs hp hz hS => ?_)
              have hRD := hR
              obtain ⟨rfl, hI1, hf, hR, z60_0⟩ := hp
              have hR := th_RD_c hR hRD hf (by decide)
              have hB := th_B_c hB hI1 hS hf (by decide)
              have mm21 := (th_F_o hf h0 ro_20 (j := 7) (by decide) (by decide)).trans mm9
              have mm22 := (th_F_o hf h0 ro_20 (j := 3) (by decide) (by decide)).trans mm10
              have mm23 := (th_F_o hf h0 ro_20 (j := 5) (by decide) (by decide)).trans mm11
              replace hF := hF.trans (congrArg (dv_k (f_X5_readSum_8b d (f_X5_readPart d))) (dv_bn2 (z60_0)))
              refine W.eq (g2 := F0 m 63 ls []) rfl ?_
              refine lv_iload_n hx hb gX5_readSum_4.2.1 rfl (lv_at hl 0 rfl) ?_
              refine lv_istore_n (lv' := [(1, .int x6), (3, .int x6), (0, .ref a0), (2, .int j8_2)]) hx hb gX5_readSum_4.2.2.1 rfl hl (by decide) rfl (fun ls hl => ?_)
              refine lv_aload_n hx hb gX5_readSum_4.2.2.2.1 rfl (lv_at hl 2 rfl) ?_
              refine th_call (th_runV (As := []) (rest := []) hC mf_X5_readPart km_X5_202 im_X5_readPart se_X5_readPart (ihp l G Γ H60 hB.1 hR hU a0 h0 ⟨_, mm22, hbn3⟩ bv mm21 (by omega)) rfl rfl ⟨by dsimp only; omega, by dsimp only; omega⟩ hB.1 h0 ro_20 rfl rfl hl.1 rfl (Nat.le_of_ble_eq_true rfl) gX5_readSum_4.2.2.2.2.1 ⟨Nat.le_refl _, Nat.le_refl _⟩) hB.2.1 (fun v66 H66 locs hp hz hS => ?_)
              obtain ⟨rfl, hI1, hf, hR, z66_0, z66_1⟩ := hp
              have hB := th_B_c hB hI1 hS hf (by decide)
              have mm24 := (th_F_o hf h0 ro_20 (j := 3) (by decide) (by decide)).trans mm22
              replace hF := hF.trans (congrArg (dv_k (f_X5_readSum_8b d (f_X5_readPart d))) (dv_bn2 (z66_1)))
              refine W.eq (g2 := F0 m 69 ls []) rfl ?_
              refine lv_goto (tgt := 84) hx hb gX5_readSum_4.2.2.2.2.2.1 (by decide) ?_
              exact jn84 H66 locs ls x6 hB hR (lv_sub hl [2, 3, 0] rfl) hF (by omega) (by omega) z66_0
        · replace hF := hF.trans (congrArg (dv_k (f_X5_readSum_8b d (f_X5_readPart d))) (if_neg (not_not_intro c25)))
          refine lv_goto (tgt := 90) hx hb gX5_readSum_2.1 (by decide) ?_
          exact jn90 locs ls hB (lv_sub hl [1, 2] rfl) hF
  exact lp8 ((2147483648 : Int) - (0)).toNat H1 locs ls (-1) 0 hB hR (lv_sub hl [2, 1, 0] rfl) (by rw [tk_m1, tk_0]; exact hF) (by decide) (by decide) (by decide) (by decide) z1_0 (by have w0 := tk_0; have w1 := tk_m1; omega)

theorem c_X5_readSum_d (d : Nat) : s_X5_readSum d := by
  induction d with
  | zero => exact c_X5_readSum_s 0 (c_X5_readPart_s 0 (fun d' h => absurd h (by omega)))
  | succ d ih => exact c_X5_readSum_s (d + 1) (c_X5_readPart_s (d + 1) (fun d' h => by cases h; exact ih))
theorem c_X5_readPart_d (d : Nat) : s_X5_readPart d := c_X5_readPart_s d (fun d' _ => c_X5_readSum_d d')

theorem c_X5_readPart (l : Launch) (G : th_G) (Γ : th_Ga) (H0 : Heap) (hI : th_I G Γ H0) (hR : th_RD G Γ H0) (hU : dv_U Γ) (a0 : Nat) (h0 : Γ a0 = (20, 0)) (nn3 : ∃ b : Nat, th_sl H0 a0 (G.1.1.2 5 3) = .ref b ∧ Γ b = (39, 0)) (bv : Int32) (mbv : th_sl H0 a0 (G.1.1.2 5 7) = .int bv) (hlo : 0 ≤ bv.toInt) : Met l yX5_readPart (.code yX5_readPart cX5_readPart 4 (none) :: th_tb) ({ frames := 22, cells := 0, slots := 0, locals := 768 } : Room) (th_P [.ref a0] G H0) (th_Q (fun (v : Option Value) (H1 : Heap) => v = none ∧ th_I G Γ H1 ∧ th_F G Γ [(20, 5), (20, 6), (20, 7), (20, 8), (40, 0), (39, 2)] H0 H1 ∧ th_RD G Γ H1 ∧ (th_sl H1 a0 (G.1.1.2 5 7) = .int bv) ∧ (f_X5_readPart 8 (dv G Γ H0) (a0 : Int) = (dv G Γ H1, 0))) G) 0 0 (fun q => G.1.2.2 ≤ q) := c_X5_readPart_d 8 l G Γ H0 hI hR hU a0 h0 nn3 bv mbv (by omega)

theorem c_X5_readSum (l : Launch) (G : th_G) (Γ : th_Ga) (H0 : Heap) (hI : th_I G Γ H0) (hR : th_RD G Γ H0) (hU : dv_U Γ) (a0 : Nat) (h0 : Γ a0 = (20, 0)) (nn3 : ∃ b : Nat, th_sl H0 a0 (G.1.1.2 5 3) = .ref b ∧ Γ b = (39, 0)) (bv : Int32) (mbv : th_sl H0 a0 (G.1.1.2 5 7) = .int bv) (hlo : 0 ≤ bv.toInt) : Met l yX5_readSum (.code yX5_readSum cX5_readSum 4 (none) :: th_tb) ({ frames := 23, cells := 0, slots := 0, locals := 791 } : Room) (th_P [.ref a0] G H0) (th_Q (fun (v : Option Value) (H1 : Heap) => v = none ∧ th_I G Γ H1 ∧ th_F G Γ [(20, 5), (20, 6), (20, 7), (20, 8), (40, 0), (39, 2)] H0 H1 ∧ th_RD G Γ H1 ∧ (th_sl H1 a0 (G.1.1.2 5 7) = .int bv) ∧ (f_X5_readSum 8 (dv G Γ H0) (a0 : Int) = (dv G Γ H1, 0))) G) 0 0 (fun q => G.1.2.2 ≤ q) := c_X5_readSum_d 8 l G Γ H0 hI hR hU a0 h0 nn3 bv mbv (by omega)
end
