set_option maxHeartbeats 4000000 in
set_option maxRecDepth 100000 in
theorem c_X1_copyFrom (l : Launch) (G : th_G) (Γ : th_Ga) (H0 : Heap) (hI : th_I G Γ H0) (hR : th_RC G Γ H0) (hU : dv_U Γ) (a0 : Nat) (h0 : Γ a0 = (3, 0)) (p1 : Nat) (h1 : Γ p1 = (3, 0)) : Met l yX1_copyFrom (.code yX1_copyFrom cX1_copyFrom 2 (none) :: th_tb) ({ frames := 1, cells := 0, slots := 0, locals := 40 } : Room) (th_P [.ref a0, .ref p1] G H0) (th_Q (fun (v : Option Value) (H1 : Heap) => v = none ∧ th_I G Γ H1 ∧ th_F G Γ [(4, 0), (5, 0), (6, 0), (9, 0), (3, 7), (3, 8), (3, 9), (3, 10), (7, 0), (8, 0)] H0 H1 ∧ th_RC G Γ H1 ∧ (f_X1_copyFrom (dv G Γ H0) (a0 : Int) (p1 : Int) = (dv G Γ H1, 0))) G) 0 0 (fun q => G.2.2 ≤ q) := by
  refine th_met RX1 (by decide) rfl (Nat.le_of_ble_eq_true rfl) ?_
  intro p e s m below meth c hC hH hr hlocks hnm ls hl
  have hx := hC.1
  have hb := hC.2.1
  have hB : th_B G Γ Γ [(4, 0), (5, 0), (6, 0), (9, 0), (3, 7), (3, 8), (3, 9), (3, 10), (7, 0), (8, 0)] H0 H0 [] := ⟨hI, va_S.rf, th_F_rf⟩
  have hl : lv_has ls 2 [(0, .ref a0), (1, .ref p1)] := hl
  obtain ⟨F, hF0⟩ : ∃ F, F = f_X1_copyFrom (dv G Γ H0) ((a0 : Int)) ((p1 : Int)) := ⟨_, rfl⟩
  have hF := hF0.trans (f_X1_copyFrom.eq_1 (dv G Γ H0) ((a0 : Int)) ((p1 : Int)))
  refine lv_aload_n hx hb dX1_copyFrom_0 rfl (lv_at hl 1 rfl) ?_
  refine th_getO (j := 0) (r2 := 4) hC cf_X1 hB.1 h1 ro_3 rfl rfl kf_X1_9 dX1_copyFrom_1 (fun b1 mb1 hb1 => ?_)
  refine lv_iconst (v := 0) hx hb dX1_copyFrom_4 (by decide) ?_
  refine lv_aload_n hx hb dX1_copyFrom_5 rfl (lv_at hl 0 rfl) ?_
  refine th_getO (j := 0) (r2 := 4) hC cf_X1 hB.1 h0 ro_3 rfl rfl kf_X1_9 dX1_copyFrom_6 (fun b2 mb2 hb2 => ?_)
  refine lv_iconst (v := 0) hx hb dX1_copyFrom_9 (by decide) ?_
  refine lv_bipush (v := 9) hx hb dX1_copyFrom_10 (by decide) ?_
  have hIo := hB.1
  refine tr_acopy hC kac_X1_46 kw_nat kw_sta kw_sys hl.1 hB hb1 hb2 (Or.inl hb2) ro_4 ro_4 (by decide) tk_0 tk_0 tk_9 (by omega) (by omega) (by omega) (by omega) (by omega) (fun _ _ => rfl) (fun _ _ _ hv => hv) (Nat.le_of_ble_eq_true rfl) (Nat.le_of_ble_eq_true rfl) dX1_copyFrom_12 (fun H12 locs hB hf12 hcp12 => ?_)
  have hf := hf12
  have mm3 := (th_F_o hf h1 ro_3 (j := 0) (by decide) (by decide)).trans mb1
  have hR := th_RC_F hB.1 hR hf (th_T_c hb2 ro_4 hcp12) (by decide)
  replace hF := hF.trans (dv_bn (dv_cpy hIo hB.1 hU hb1 ow_4 hb2 ow_4 (x := 0) (y := 0) (n := 9) hcp12 (by omega) (by omega) (by omega)))
  refine lv_aload_n hx hb dX1_copyFrom_15 rfl (lv_at hl 1 rfl) ?_
  refine th_getO (j := 1) (r2 := 5) hC cf_X1 hB.1 h1 ro_3 rfl rfl kf_X1_15 dX1_copyFrom_16 (fun b4 mb4 hb4 => ?_)
  have sb4 := (th_F_o hB.2.2 h1 ro_3 (j := 1) (by decide) (by decide)).symm.trans mb4
  refine lv_iconst (v := 0) hx hb dX1_copyFrom_19 (by decide) ?_
  refine lv_aload_n hx hb dX1_copyFrom_20 rfl (lv_at hl 0 rfl) ?_
  refine th_getO (j := 1) (r2 := 5) hC cf_X1 hB.1 h0 ro_3 rfl rfl kf_X1_15 dX1_copyFrom_21 (fun b5 mb5 hb5 => ?_)
  refine lv_iconst (v := 0) hx hb dX1_copyFrom_24 (by decide) ?_
  refine lv_bipush (v := 9) hx hb dX1_copyFrom_25 (by decide) ?_
  have hIo := hB.1
  refine tr_acopy hC kac_X1_46 kw_nat kw_sta kw_sys hl.1 hB hb4 hb5 (Or.inl hb5) ro_5 ro_5 (by decide) tk_0 tk_0 tk_9 (by omega) (by omega) (by omega) (by omega) (by omega) (fun _ _ => rfl) (fun _ _ _ hv => hv) (Nat.le_of_ble_eq_true rfl) (Nat.le_of_ble_eq_true rfl) dX1_copyFrom_27 (fun H27 locs hB hf27 hcp27 => ?_)
  have hf := hf27
  have mm6 := (th_F_o hf h1 ro_3 (j := 0) (by decide) (by decide)).trans mm3
  have mm7 := (th_F_o hf h1 ro_3 (j := 1) (by decide) (by decide)).trans mb4
  have hR := th_RC_F hB.1 hR hf (th_T_c hb5 ro_5 hcp27) (by decide)
  replace hF := hF.trans (dv_bn (dv_cpy hIo hB.1 hU hb4 ow_5 hb5 ow_5 (x := 0) (y := 0) (n := 9) hcp27 (by omega) (by omega) (by omega)))
  refine lv_aload_n hx hb dX1_copyFrom_30 rfl (lv_at hl 1 rfl) ?_
  refine th_getO (j := 2) (r2 := 6) hC cf_X1 hB.1 h1 ro_3 rfl rfl kf_X1_18 dX1_copyFrom_31 (fun b8 mb8 hb8 => ?_)
  have sb8 := (th_F_o hB.2.2 h1 ro_3 (j := 2) (by decide) (by decide)).symm.trans mb8
  refine lv_iconst (v := 0) hx hb dX1_copyFrom_34 (by decide) ?_
  refine lv_aload_n hx hb dX1_copyFrom_35 rfl (lv_at hl 0 rfl) ?_
  refine th_getO (j := 2) (r2 := 6) hC cf_X1 hB.1 h0 ro_3 rfl rfl kf_X1_18 dX1_copyFrom_36 (fun b9 mb9 hb9 => ?_)
  refine lv_iconst (v := 0) hx hb dX1_copyFrom_39 (by decide) ?_
  refine lv_bipush (v := 9) hx hb dX1_copyFrom_40 (by decide) ?_
  have hIo := hB.1
  refine tr_acopy hC kac_X1_46 kw_nat kw_sta kw_sys hl.1 hB hb8 hb9 (Or.inl hb9) ro_6 ro_6 (by decide) tk_0 tk_0 tk_9 (by omega) (by omega) (by omega) (by omega) (by omega) (fun _ _ => rfl) (fun _ _ _ hv => hv) (Nat.le_of_ble_eq_true rfl) (Nat.le_of_ble_eq_true rfl) dX1_copyFrom_42 (fun H42 locs hB hf42 hcp42 => ?_)
  have hf := hf42
  have mm10 := (th_F_o hf h1 ro_3 (j := 0) (by decide) (by decide)).trans mm6
  have mm11 := (th_F_o hf h1 ro_3 (j := 1) (by decide) (by decide)).trans mm7
  have mm12 := (th_F_o hf h1 ro_3 (j := 2) (by decide) (by decide)).trans mb8
  have hR := th_RC_F hB.1 hR hf (th_T_c hb9 ro_6 hcp42) (by decide)
  replace hF := hF.trans (dv_bn (dv_cpy hIo hB.1 hU hb8 ow_6 hb9 ow_6 (x := 0) (y := 0) (n := 9) hcp42 (by omega) (by omega) (by omega)))
  refine lv_aload_n hx hb dX1_copyFrom_45 rfl (lv_at hl 1 rfl) ?_
  refine th_getO (j := 3) (r2 := 7) hC cf_X1 hB.1 h1 ro_3 rfl rfl kf_X1_21 dX1_copyFrom_46 (fun b13 mb13 hb13 => ?_)
  have sb13 := (th_F_o hB.2.2 h1 ro_3 (j := 3) (by decide) (by decide)).symm.trans mb13
  refine lv_iconst (v := 0) hx hb dX1_copyFrom_49 (by decide) ?_
  refine lv_aload_n hx hb dX1_copyFrom_50 rfl (lv_at hl 0 rfl) ?_
  refine th_getO (j := 3) (r2 := 7) hC cf_X1 hB.1 h0 ro_3 rfl rfl kf_X1_21 dX1_copyFrom_51 (fun b14 mb14 hb14 => ?_)
  refine lv_iconst (v := 0) hx hb dX1_copyFrom_54 (by decide) ?_
  refine lv_bipush (v := 9) hx hb dX1_copyFrom_55 (by decide) ?_
  have hIo := hB.1
  refine tr_acopy hC kac_X1_46 kw_nat kw_sta kw_sys hl.1 hB hb13 hb14 (Or.inl hb14) ro_7 ro_7 (by decide) tk_0 tk_0 tk_9 (by omega) (by omega) (by omega) (by omega) (by omega) (fun _ _ => rfl) (fun _ _ _ hv => hv) (Nat.le_of_ble_eq_true rfl) (Nat.le_of_ble_eq_true rfl) dX1_copyFrom_57 (fun H57 locs hB hf57 hcp57 => ?_)
  have hf := hf57
  have mm15 := (th_F_o hf h1 ro_3 (j := 0) (by decide) (by decide)).trans mm10
  have mm16 := (th_F_o hf h1 ro_3 (j := 1) (by decide) (by decide)).trans mm11
  have mm17 := (th_F_o hf h1 ro_3 (j := 2) (by decide) (by decide)).trans mm12
  have mm18 := (th_F_o hf h1 ro_3 (j := 3) (by decide) (by decide)).trans mb13
  replace hF := hF.trans (dv_bn (dv_cpy hIo hB.1 hU hb13 ow_7 hb14 ow_7 (x := 0) (y := 0) (n := 9) hcp57 (by omega) (by omega) (by omega)))
  refine lv_aload_n hx hb dX1_copyFrom_60 rfl (lv_at hl 1 rfl) ?_
  refine th_getO (j := 4) (r2 := 8) hC cf_X1 hB.1 h1 ro_3 rfl rfl kf_X1_24 dX1_copyFrom_61 (fun b19 mb19 hb19 => ?_)
  have sb19 := (th_F_o hB.2.2 h1 ro_3 (j := 4) (by decide) (by decide)).symm.trans mb19
  refine lv_iconst (v := 0) hx hb dX1_copyFrom_64 (by decide) ?_
  refine lv_aload_n hx hb dX1_copyFrom_65 rfl (lv_at hl 0 rfl) ?_
  refine th_getO (j := 4) (r2 := 8) hC cf_X1 hB.1 h0 ro_3 rfl rfl kf_X1_24 dX1_copyFrom_66 (fun b20 mb20 hb20 => ?_)
  refine lv_iconst (v := 0) hx hb dX1_copyFrom_69 (by decide) ?_
  refine lv_bipush (v := 9) hx hb dX1_copyFrom_70 (by decide) ?_
  have hIo := hB.1
  refine tr_acopy hC kac_X1_46 kw_nat kw_sta kw_sys hl.1 hB hb19 hb20 (Or.inl hb20) ro_8 ro_8 (by decide) tk_0 tk_0 tk_9 (by omega) (by omega) (by omega) (by omega) (by omega) (fun _ _ => rfl) (fun _ _ _ hv => hv) (Nat.le_of_ble_eq_true rfl) (Nat.le_of_ble_eq_true rfl) dX1_copyFrom_72 (fun H72 locs hB hf72 hcp72 => ?_)
  have hf := hf72
  have mm21 := (th_F_o hf h1 ro_3 (j := 0) (by decide) (by decide)).trans mm15
  have mm22 := (th_F_o hf h1 ro_3 (j := 1) (by decide) (by decide)).trans mm16
  have mm23 := (th_F_o hf h1 ro_3 (j := 2) (by decide) (by decide)).trans mm17
  have mm24 := (th_F_o hf h1 ro_3 (j := 3) (by decide) (by decide)).trans mm18
  have mm25 := (th_F_o hf h1 ro_3 (j := 4) (by decide) (by decide)).trans mb19
  replace hF := hF.trans (dv_bn (dv_cpy hIo hB.1 hU hb19 ow_8 hb20 ow_8 (x := 0) (y := 0) (n := 9) hcp72 (by omega) (by omega) (by omega)))
  have hR := th_RC_cp hB.1 hR h0 h1 hb14 hb20 hb13 hb19 mb14 mb20 mb13 mb19 hcp57 hcp72 hf57 hf72
  refine lv_aload_n hx hb dX1_copyFrom_75 rfl (lv_at hl 1 rfl) ?_
  refine th_getO (j := 5) (r2 := 9) hC cf_X1 hB.1 h1 ro_3 rfl rfl kf_X1_27 dX1_copyFrom_76 (fun b26 mb26 hb26 => ?_)
  have sb26 := (th_F_o hB.2.2 h1 ro_3 (j := 5) (by decide) (by decide)).symm.trans mb26
  refine lv_iconst (v := 0) hx hb dX1_copyFrom_79 (by decide) ?_
  refine lv_aload_n hx hb dX1_copyFrom_80 rfl (lv_at hl 0 rfl) ?_
  refine th_getO (j := 5) (r2 := 9) hC cf_X1 hB.1 h0 ro_3 rfl rfl kf_X1_27 dX1_copyFrom_81 (fun b27 mb27 hb27 => ?_)
  refine lv_iconst (v := 0) hx hb dX1_copyFrom_84 (by decide) ?_
  refine lv_iconst (v := 3) hx hb dX1_copyFrom_85 (by decide) ?_
  have hIo := hB.1
  refine tr_acopy hC kac_X1_46 kw_nat kw_sta kw_sys hl.1 hB hb26 hb27 (Or.inl hb27) ro_9 ro_9 (by decide) tk_0 tk_0 tk_3 (by omega) (by omega) (by omega) (by omega) (by omega) (fun _ _ => rfl) (fun _ _ _ hv => hv) (Nat.le_of_ble_eq_true rfl) (Nat.le_of_ble_eq_true rfl) dX1_copyFrom_86 (fun H86 locs hB hf86 hcp86 => ?_)
  have hf := hf86
  have mm28 := (th_F_o hf h1 ro_3 (j := 0) (by decide) (by decide)).trans mm21
  have mm29 := (th_F_o hf h1 ro_3 (j := 1) (by decide) (by decide)).trans mm22
  have mm30 := (th_F_o hf h1 ro_3 (j := 2) (by decide) (by decide)).trans mm23
  have mm31 := (th_F_o hf h1 ro_3 (j := 3) (by decide) (by decide)).trans mm24
  have mm32 := (th_F_o hf h1 ro_3 (j := 4) (by decide) (by decide)).trans mm25
  have mm33 := (th_F_o hf h1 ro_3 (j := 5) (by decide) (by decide)).trans mb26
  have hR := th_RC_F hB.1 hR hf (th_T_c hb27 ro_9 hcp86) (by decide)
  replace hF := hF.trans (dv_bn (dv_cpy hIo hB.1 hU hb26 ow_9 hb27 ow_9 (x := 0) (y := 0) (n := 3) hcp86 (by omega) (by omega) (by omega)))
  refine lv_aload_n hx hb dX1_copyFrom_89 rfl (lv_at hl 0 rfl) ?_
  refine lv_aload_n hx hb dX1_copyFrom_90 rfl (lv_at hl 1 rfl) ?_
  refine th_getI (j := 7) hC cf_X1 hB.1 h1 ro_3 rfl rfl kf_X1_33 dX1_copyFrom_91 (fun x34 mx34 lx34 ux34 => ?_)
  replace hF := hF.trans (dv_bn (dv_getI h1 ro_3 (j := 7) rfl mx34 (by decide)))
  refine th_put hC cf_X1 hB h0 (Or.inl h0) ro_3 rfl (j := 7) rfl (th_sI (by omega) (by omega)) (by decide) rfl rfl rfl kf_X1_33 dX1_copyFrom_94 (fun H94 locs hB hf hst94 => ?_)
  have mm35 := (th_F_o hf h1 ro_3 (j := 0) (by decide) (by decide)).trans mm28
  have mm36 := (th_F_o hf h1 ro_3 (j := 1) (by decide) (by decide)).trans mm29
  have mm37 := (th_F_o hf h1 ro_3 (j := 2) (by decide) (by decide)).trans mm30
  have mm38 := (th_F_o hf h1 ro_3 (j := 3) (by decide) (by decide)).trans mm31
  have mm39 := (th_F_o hf h1 ro_3 (j := 4) (by decide) (by decide)).trans mm32
  have mm40 := (th_F_o hf h1 ro_3 (j := 5) (by decide) (by decide)).trans mm33
  have hR := th_RC_F hB.1 hR hf (th_T_s h0 ro_3 hst94) (by decide)
  replace hF := hF.trans (dv_bn (dv_putI hB.1 h0 ro_3 (j := 7) rfl (th_apart hC cf_X1) hst94 (Eq.refl _) (by decide)))
  refine lv_aload_n hx hb dX1_copyFrom_97 rfl (lv_at hl 0 rfl) ?_
  refine lv_aload_n hx hb dX1_copyFrom_98 rfl (lv_at hl 1 rfl) ?_
  refine th_getI (j := 8) hC cf_X1 hB.1 h1 ro_3 rfl rfl kf_X1_37 dX1_copyFrom_99 (fun x41 mx41 lx41 ux41 => ?_)
  replace hF := hF.trans (dv_bn (dv_getI h1 ro_3 (j := 8) rfl mx41 (by decide)))
  refine th_put hC cf_X1 hB h0 (Or.inl h0) ro_3 rfl (j := 8) rfl (th_sI (by omega) (by omega)) (by decide) rfl rfl rfl kf_X1_37 dX1_copyFrom_102 (fun H102 locs hB hf hst102 => ?_)
  have mm42 := (th_F_o hf h1 ro_3 (j := 0) (by decide) (by decide)).trans mm35
  have mm43 := (th_F_o hf h1 ro_3 (j := 1) (by decide) (by decide)).trans mm36
  have mm44 := (th_F_o hf h1 ro_3 (j := 2) (by decide) (by decide)).trans mm37
  have mm45 := (th_F_o hf h1 ro_3 (j := 3) (by decide) (by decide)).trans mm38
  have mm46 := (th_F_o hf h1 ro_3 (j := 4) (by decide) (by decide)).trans mm39
  have mm47 := (th_F_o hf h1 ro_3 (j := 5) (by decide) (by decide)).trans mm40
  have hR := th_RC_F hB.1 hR hf (th_T_s h0 ro_3 hst102) (by decide)
  replace hF := hF.trans (dv_bn (dv_putI hB.1 h0 ro_3 (j := 8) rfl (th_apart hC cf_X1) hst102 (Eq.refl _) (by decide)))
  refine lv_aload_n hx hb dX1_copyFrom_105 rfl (lv_at hl 0 rfl) ?_
  refine lv_aload_n hx hb dX1_copyFrom_106 rfl (lv_at hl 1 rfl) ?_
  refine th_getI (j := 9) hC cf_X1 hB.1 h1 ro_3 rfl rfl kf_X1_40 dX1_copyFrom_107 (fun x48 mx48 lx48 ux48 => ?_)
  replace hF := hF.trans (dv_bn (dv_getI h1 ro_3 (j := 9) rfl mx48 (by decide)))
  refine th_put hC cf_X1 hB h0 (Or.inl h0) ro_3 rfl (j := 9) rfl (th_sI (by omega) (by omega)) (by decide) rfl rfl rfl kf_X1_40 dX1_copyFrom_110 (fun H110 locs hB hf hst110 => ?_)
  have mm49 := (th_F_o hf h1 ro_3 (j := 0) (by decide) (by decide)).trans mm42
  have mm50 := (th_F_o hf h1 ro_3 (j := 1) (by decide) (by decide)).trans mm43
  have mm51 := (th_F_o hf h1 ro_3 (j := 2) (by decide) (by decide)).trans mm44
  have mm52 := (th_F_o hf h1 ro_3 (j := 3) (by decide) (by decide)).trans mm45
  have mm53 := (th_F_o hf h1 ro_3 (j := 4) (by decide) (by decide)).trans mm46
  have mm54 := (th_F_o hf h1 ro_3 (j := 5) (by decide) (by decide)).trans mm47
  have hR := th_RC_F hB.1 hR hf (th_T_s h0 ro_3 hst110) (by decide)
  replace hF := hF.trans (dv_bn (dv_putI hB.1 h0 ro_3 (j := 9) rfl (th_apart hC cf_X1) hst110 (Eq.refl _) (by decide)))
  refine lv_aload_n hx hb dX1_copyFrom_113 rfl (lv_at hl 0 rfl) ?_
  refine lv_aload_n hx hb dX1_copyFrom_114 rfl (lv_at hl 1 rfl) ?_
  refine th_getI (j := 10) hC cf_X1 hB.1 h1 ro_3 rfl rfl kf_X1_43 dX1_copyFrom_115 (fun x55 mx55 lx55 ux55 => ?_)
  replace hF := hF.trans (dv_bn (dv_getI h1 ro_3 (j := 10) rfl mx55 (by decide)))
  refine th_put hC cf_X1 hB h0 (Or.inl h0) ro_3 rfl (j := 10) rfl th_sIa (by decide) rfl rfl rfl kf_X1_43 dX1_copyFrom_118 (fun H118 locs hB hf hst118 => ?_)
  have mm56 := (th_F_o hf h1 ro_3 (j := 0) (by decide) (by decide)).trans mm49
  have mm57 := (th_F_o hf h1 ro_3 (j := 1) (by decide) (by decide)).trans mm50
  have mm58 := (th_F_o hf h1 ro_3 (j := 2) (by decide) (by decide)).trans mm51
  have mm59 := (th_F_o hf h1 ro_3 (j := 3) (by decide) (by decide)).trans mm52
  have mm60 := (th_F_o hf h1 ro_3 (j := 4) (by decide) (by decide)).trans mm53
  have mm61 := (th_F_o hf h1 ro_3 (j := 5) (by decide) (by decide)).trans mm54
  have hR := th_RC_F hB.1 hR hf (th_T_s h0 ro_3 hst118) (by decide)
  replace hF := hF.trans (dv_bn (dv_putI hB.1 h0 ro_3 (j := 10) rfl (th_apart hC cf_X1) hst118 (Eq.refl _) (by decide)))
  exact th_vret hC hH hr hlocks hB.2.1 ⟨rfl, hB.1, hB.2.2, hR, (hF0.symm.trans hF)⟩ dX1_copyFrom_121

set_option maxHeartbeats 4000000 in
set_option maxRecDepth 100000 in
theorem c_X1_wearAYear (l : Launch) (G : th_G) (Γ : th_Ga) (H0 : Heap) (hI : th_I G Γ H0) (hR : th_RC G Γ H0) (hU : dv_U Γ) (a0 : Nat) (h0 : Γ a0 = (3, 0)) (p1 : Nat) (h1 : Γ p1 = (11, 0)) (p2 : Value) (h2 : p2 = .null ∨ ∃ b : Nat, p2 = .ref b ∧ Γ b = (39, 0)) : Met l yX1_wearAYear (.code yX1_wearAYear cX1_wearAYear 5 (some FieldType.int) :: th_tb) ({ frames := 4, cells := 0, slots := 0, locals := 103 } : Room) (th_P [.ref a0, .ref p1, p2] G H0) (th_Q (fun (v : Option Value) (H1 : Heap) => ∃ r : Int32, v = some (.int r) ∧ th_I G Γ H1 ∧ th_F G Γ [(6, 0), (9, 0), (7, 0), (8, 0), (24, 0), (23, 3), (26, 0), (25, 0)] H0 H1 ∧ th_RC G Γ H1 ∧ (f_X1_wearAYear (dv G Γ H0) (a0 : Int) (p1 : Int) (dv_iv p2) = (dv G Γ H1, r.toInt))) G) 0 0 (fun q => G.2.2 ≤ q) := by
  rcases h2 with rfl | ⟨b2, rfl, hb2⟩
  · refine th_met RX1 (by decide) rfl (Nat.le_of_ble_eq_true rfl) ?_
    intro p e s m below meth c hC hH hr hlocks hnm ls hl
    have hx := hC.1
    have hb := hC.2.1
    have hB : th_B G Γ Γ [(6, 0), (9, 0), (7, 0), (8, 0), (24, 0), (23, 3), (26, 0), (25, 0)] H0 H0 [] := ⟨hI, va_S.rf, th_F_rf⟩
    have hl : lv_has ls 5 [(0, .ref a0), (1, .ref p1), (2, .null)] := hl
    obtain ⟨F, hF0⟩ : ∃ F, F = f_X1_wearAYear (dv G Γ H0) ((a0 : Int)) ((p1 : Int)) (-1) := ⟨_, rfl⟩
    have hF := hF0.trans ((f_X1_wearAYear.eq_1 (dv G Γ H0) ((a0 : Int)) ((p1 : Int)) (-1)).trans ((if_pos (rfl : dv_iv Value.null = -1)).trans (f_X1_wearAYear_0.eq_1 (dv G Γ H0) ((a0 : Int)) ((p1 : Int)) (-1))))
    refine lv_iconst (v := 0) hx hb dX1_wearAYear_0 (by decide) ?_
    refine lv_istore_n (lv' := [(3, .int 0), (0, .ref a0), (1, .ref p1), (2, .null)]) hx hb dX1_wearAYear_1 rfl hl (by decide) rfl (fun ls hl => ?_)
    refine lv_iconst (v := 0) hx hb dX1_wearAYear_2 (by decide) ?_
    refine lv_istore (lv' := [(4, .int 0), (3, .int 0), (0, .ref a0), (1, .ref p1), (2, .null)]) hx hb dX1_wearAYear_3 hl (by decide) rfl (fun ls hl => ?_)
    have lp5 : ∀ (n5 : Nat) (H5 : Heap) (locs : List Loc) (ls : Array Slot) (j5_3 : Int32) (j5_4 : Int32), th_B G Γ Γ [(6, 0), (9, 0), (7, 0), (8, 0), (24, 0), (23, 3), (26, 0), (25, 0)] H0 H5 locs → th_RC G Γ H5 → lv_has ls 5 [(0, .ref a0), (1, .ref p1), (2, .null), (3, .int j5_3), (4, .int j5_4)] → F = dv_lp f_X1_wearAYear_0_5b (dv G Γ H5, (a0 : Int), (p1 : Int), j5_3.toInt, j5_4.toInt) → 0 ≤ j5_4.toInt → j5_4.toInt ≤ 9 → (2147483648 : Int) - j5_4.toInt ≤ (n5 : Int) → W p l e ({ frames := 4, cells := 0, slots := 0, locals := 103 } : Room) s m ([.ref a0, .ref p1, .null] : List Value).toArray below meth c H5 locs 0 0 (MQ below (th_Q (fun (v : Option Value) (H1 : Heap) => ∃ r : Int32, v = some (.int r) ∧ th_I G Γ H1 ∧ th_F G Γ [(6, 0), (9, 0), (7, 0), (8, 0), (24, 0), (23, 3), (26, 0), (25, 0)] H0 H1 ∧ th_RC G Γ H1 ∧ (f_X1_wearAYear (dv G Γ H0) (a0 : Int) (p1 : Int) (dv_iv Value.null) = (dv G Γ H1, r.toInt))) G) ([.ref a0, .ref p1, .null] : List Value).toArray s 0 0 (fun q => G.2.2 ≤ q)) (F0 m 5 ls []) := by
      intro n5
      induction n5 with
      | zero => intro H5 locs ls j5_3 j5_4 hB hR hl hF g5_0 g5_1 hm5; exact absurd hm5 (by have := ti_hi j5_4; omega)
      | succ n5 ih5 =>
        intro H5 locs ls j5_3 j5_4 hB hR hl hF g5_0 g5_1 hm5
        have lj5_3 := ti_lo j5_3; have uj5_3 := ti_hi j5_3
        have lj5_4 := ti_lo j5_4; have uj5_4 := ti_hi j5_4
        have hm5 : (2147483648 : Int) - j5_4.toInt ≤ (n5 : Int) + 1 := by omega
        replace hF := hF.trans (dv_lp_eq)
        replace hF := hF.trans (congrArg (dv_k f_X1_wearAYear_0_5b) (f_X1_wearAYear_0_5c.eq_1 (dv G Γ H5) ((a0 : Int)) ((p1 : Int)) (j5_3.toInt) (j5_4.toInt)))
        refine lv_iload hx hb dX1_wearAYear_5 (lv_at hl 4 rfl) ?_
        refine lv_aload_n hx hb dX1_wearAYear_7 rfl (lv_at hl 0 rfl) ?_
        refine th_getI (j := 7) hC cf_X1 hB.1 h0 ro_3 rfl rfl kf_X1_33 dX1_wearAYear_8 (fun x894 mx894 lx894 ux894 => ?_)
        replace hF := hF.trans (congrArg (dv_k f_X1_wearAYear_0_5b) (dv_bn (dv_getI h0 ro_3 (j := 7) rfl mx894 (by decide))))
        have sx894 := (th_F_o hB.2.2 h0 ro_3 (j := 7) (by decide) (by decide)).symm.trans mx894
        refine tr_icmp_ge (tgt := 78) hx hb dX1_wearAYear_11 (by decide) (Eq.refl _) (Eq.refl _) (fun c11 => ?_) (fun c11 => ?_)
        · replace hF := hF.trans (congrArg (dv_k f_X1_wearAYear_0_5b) (if_pos c11))
          refine lv_aload_n hx hb dX1_wearAYear_78 rfl (lv_at hl 0 rfl) ?_
          refine th_getO (j := 5) (r2 := 9) hC cf_X1 hB.1 h0 ro_3 rfl rfl kf_X1_27 dX1_wearAYear_79 (fun b895 mb895 hb895 => ?_)
          refine lv_iconst (v := 0) hx hb dX1_wearAYear_82 (by decide) ?_
          refine lv_dup2_11 hx hb dX1_wearAYear_83 rfl rfl ?_
          refine th_ialdF hC hB.1 hb895 ro_9 rfl tk_0 (by omega) (by omega) rfl dX1_wearAYear_84 (fun x896 mx896 lx896 ux896 => ?_)
          replace hF := hF.trans (congrArg (dv_k f_X1_wearAYear_0_5b) (dv_bn (dv_aldI hB.1 hU hb895 ow_9 (z := 0) mx896 (by omega))))
          refine lv_iconst (v := 1) hx hb dX1_wearAYear_85 (by decide) ?_
          refine lv_iadd hx hb dX1_wearAYear_86 ?_
          refine lv_topi (fun x897 ex897 => ?_)
          have lx897 := ti_lo x897; have ux897 := ti_hi x897
          replace hF := hF.trans (congrArg (dv_k f_X1_wearAYear_0_5b) (dv_bn (dv_add_e (Eq.refl _) tk_1 ex897)))
          have hIo := hB.1
          refine th_iastF hC hB hb895 (Or.inl hb895) ro_9 rfl (by decide) tk_0 (by omega) (by omega) th_sIa dX1_wearAYear_87 (fun H87 locs hB hf87 hst87 => ?_)
          have hf := hf87
          have mm898 := (th_F_o hf h0 ro_3 (j := 7) (by decide) (by decide)).trans mx894
          have hR := th_RC_F hB.1 hR hf (th_T_s hb895 ro_9 hst87) (by decide)
          replace hF := hF.trans (congrArg (dv_k f_X1_wearAYear_0_5b) (dv_bn (dv_stoI hIo hB.1 hU hb895 ow_9 (i := 0) hst87 (Eq.refl _) (by omega))))
          refine lv_iload_n hx hb dX1_wearAYear_88 rfl (lv_at hl 3 rfl) ?_
          replace hF := hF.trans (dv_kr)
          exact th_iret hC hH hr hlocks rfl hB.2.1 ⟨_, rfl, hB.1, hB.2.2, hR, (hF0.symm.trans hF)⟩ dX1_wearAYear_89
        · replace hF := hF.trans (congrArg (dv_k f_X1_wearAYear_0_5b) (if_neg (Int.not_le.mpr c11)))
          refine lv_aload_n hx hb dX1_wearAYear_14 rfl (lv_at hl 0 rfl) ?_
          refine lv_iload hx hb dX1_wearAYear_15 (lv_at hl 4 rfl) ?_
          refine th_call (th_runV (As := [.int j5_4]) (rest := []) hC mf_X1_isLaid km_X1_56 im_X1_isLaid se_X1_isLaid (c_X1_isLaid l G Γ H5 hB.1 hU a0 h0 j5_4) rfl rfl ⟨Nat.le_of_ble_eq_true rfl, Nat.le_of_ble_eq_true rfl⟩ hB.1 h0 ro_3 rfl rfl hl.1 rfl (Nat.le_of_ble_eq_true rfl) dX1_wearAYear_17 ⟨Nat.le_refl _, Nat.le_refl _⟩) hB.2.1 (fun v17 H17 locs hp hz hS => ?_)
          obtain ⟨x899, rfl, lx899, ux899, q17_0, q17_1, q17_2, rfl⟩ := hp
          have hB := th_B_s hB hS
          replace hF := hF.trans (congrArg (dv_k f_X1_wearAYear_0_5b) (dv_bn2 (q17_2)))
          refine W.eq (g2 := F0 m 20 ls [.int x899]) rfl ?_
          have jn72 : ∀ (H72 : Heap) (locs : List Loc) (ls : Array Slot) (j72_3 : Int32), th_B G Γ Γ [(6, 0), (9, 0), (7, 0), (8, 0), (24, 0), (23, 3), (26, 0), (25, 0)] H0 H72 locs → th_RC G Γ H72 → lv_has ls 5 [(0, .ref a0), (1, .ref p1), (2, .null), (4, .int j5_4), (3, .int j72_3)] → F = dv_k f_X1_wearAYear_0_5b (f_X1_wearAYear_0_72 (dv G Γ H72) ((a0 : Int)) ((p1 : Int)) (j5_4.toInt) (j72_3.toInt)) → W p l e ({ frames := 4, cells := 0, slots := 0, locals := 103 } : Room) s m ([.ref a0, .ref p1, .null] : List Value).toArray below meth c H72 locs 0 0 (MQ below (th_Q (fun (v : Option Value) (H1 : Heap) => ∃ r : Int32, v = some (.int r) ∧ th_I G Γ H1 ∧ th_F G Γ [(6, 0), (9, 0), (7, 0), (8, 0), (24, 0), (23, 3), (26, 0), (25, 0)] H0 H1 ∧ th_RC G Γ H1 ∧ (f_X1_wearAYear (dv G Γ H0) (a0 : Int) (p1 : Int) (dv_iv Value.null) = (dv G Γ H1, r.toInt))) G) ([.ref a0, .ref p1, .null] : List Value).toArray s 0 0 (fun q => G.2.2 ≤ q)) (F0 m 72 ls []) := by
            intro H72 locs ls j72_3 hB hR hl hF
            have lj72_3 := ti_lo j72_3; have uj72_3 := ti_hi j72_3
            have mm900 := (th_F_o hB.2.2 h0 ro_3 (j := 7) (by decide) (by decide)).trans sx894
            replace hF := hF.trans (congrArg (dv_k f_X1_wearAYear_0_5b) (f_X1_wearAYear_0_72.eq_1 (dv G Γ H72) ((a0 : Int)) ((p1 : Int)) (j5_4.toInt) (j72_3.toInt)))
            refine tr_iinc (fun x901 => [(4, .int x901), (0, .ref a0), (1, .ref p1), (2, .null), (3, .int j72_3)]) hx hb dX1_wearAYear_72 hl (k := 3) rfl (Eq.refl _) tk_1 (by omega) (by omega) (by decide) (fun _ => rfl) (fun x901 ls ex901 hl => ?_)
            replace hF := hF.trans (congrArg (dv_k f_X1_wearAYear_0_5b) (dv_bn (ex901.symm)))
            refine lv_goto (tgt := 5) hx hb dX1_wearAYear_75 (by decide) ?_
            replace hF := hF.trans (dv_kl)
            exact ih5 H72 locs ls j72_3 x901 hB hR (lv_sub hl [1, 2, 3, 4, 0] rfl) hF (by omega) (by omega) (by omega)
          refine tr_if_ne (tgt := 26) hx hb dX1_wearAYear_20 (by decide) (Eq.refl _) (fun c20 => ?_) (fun c20 => ?_)
          · replace hF := hF.trans (congrArg (dv_k f_X1_wearAYear_0_5b) (if_pos c20))
            refine lv_aload_n hx hb dX1_wearAYear_26 rfl (lv_at hl 0 rfl) ?_
            refine th_getO (j := 2) (r2 := 6) hC cf_X1 hB.1 h0 ro_3 rfl rfl kf_X1_18 dX1_wearAYear_27 (fun b902 mb902 hb902 => ?_)
            have sb902 := (th_F_o hB.2.2 h0 ro_3 (j := 2) (by decide) (by decide)).symm.trans mb902
            refine lv_iload hx hb dX1_wearAYear_30 (lv_at hl 4 rfl) ?_
            refine lv_iconst (v := 0) hx hb dX1_wearAYear_32 (by decide) ?_
            refine lv_aload_n hx hb dX1_wearAYear_33 rfl (lv_at hl 0 rfl) ?_
            refine th_getK hC cf_X1 hB.1 h0 ro_3 rfl (j := 2) (by decide) mb902 kf_X1_18 dX1_wearAYear_34 ?_
            refine lv_iload hx hb dX1_wearAYear_37 (lv_at hl 4 rfl) ?_
            refine th_ialdF hC hB.1 hb902 ro_6 rfl (Eq.refl _) (by omega) (by omega) rfl dX1_wearAYear_39 (fun x903 mx903 lx903 ux903 => ?_)
            replace hF := hF.trans (congrArg (dv_k f_X1_wearAYear_0_5b) (dv_bn (dv_aldI hB.1 hU hb902 ow_6 (z := j5_4.toInt) mx903 (by omega))))
            refine lv_aload_n hx hb dX1_wearAYear_40 rfl (lv_at hl 1 rfl) ?_
            refine lv_aload_nN hx hb dX1_wearAYear_41 rfl (lv_at hl 2 rfl) ?_
            refine lv_aload_n hx hb dX1_wearAYear_42 rfl (lv_at hl 0 rfl) ?_
            refine lv_iload hx hb dX1_wearAYear_43 (lv_at hl 4 rfl) ?_
            refine th_call (th_runV (As := [.null, .ref a0, .int j5_4]) (rest := [.int x903, .int 0, .int j5_4, .ref b902]) hC mf_X2_wearOf km_X1_66 im_X2_wearOf se_X2_wearOf (c_X2_wearOf l G Γ H5 hB.1 hR hU p1 h1 .null (Or.inl rfl) a0 h0 j5_4 (by omega) (by omega)) rfl rfl ⟨Nat.le_of_ble_eq_true rfl, Nat.le_of_ble_eq_true rfl⟩ hB.1 h1 ro_11 rfl rfl hl.1 rfl (Nat.le_of_ble_eq_true rfl) dX1_wearAYear_45 ⟨Nat.le_refl _, Nat.le_refl _⟩) hB.2.1 (fun v45 H45 locs hp hz hS => ?_)
            obtain ⟨x904, rfl, lx904, ux904, hI1, hf, hR, z45_0⟩ := hp
            have hB := th_B_c hB hI1 hS hf (by decide)
            have mm905 := (th_F_o hf h0 ro_3 (j := 7) (by decide) (by decide)).trans mx894
            have mm906 := (th_F_o hf h0 ro_3 (j := 2) (by decide) (by decide)).trans mb902
            replace hF := hF.trans (congrArg (dv_k f_X1_wearAYear_0_5b) (dv_bn2 (z45_0)))
            refine W.eq (g2 := F0 m 48 ls [.int x904, .int x903, .int 0, .int j5_4, .ref b902]) rfl ?_
            refine lv_isub hx hb dX1_wearAYear_48 ?_
            refine lv_topi (fun x907 ex907 => ?_)
            have lx907 := ti_lo x907; have ux907 := ti_hi x907
            replace hF := hF.trans (congrArg (dv_k f_X1_wearAYear_0_5b) (dv_bn (dv_sub_e (Eq.refl _) (Eq.refl _) ex907)))
            refine tr_mmax hC kma_X1_72 hl.1 tk_0 (Eq.refl _) (Nat.le_of_ble_eq_true rfl) (Nat.le_of_ble_eq_true rfl) (Nat.le_of_ble_eq_true rfl) (Nat.le_of_ble_eq_true rfl) dX1_wearAYear_49 (fun x908 ex908 => ?_)
            replace hF := hF.trans (congrArg (dv_k f_X1_wearAYear_0_5b) (dv_bn (dv_max_e ex908)))
            have hIo := hB.1
            refine th_iastF hC hB hb902 (Or.inl hb902) ro_6 rfl (by decide) (Eq.refl _) (by omega) (by omega) th_sIa dX1_wearAYear_52 (fun H52 locs hB hf52 hst52 => ?_)
            have hf := hf52
            have mm909 := (th_F_o hf h0 ro_3 (j := 7) (by decide) (by decide)).trans mm905
            have mm910 := (th_F_o hf h0 ro_3 (j := 2) (by decide) (by decide)).trans mm906
            have hR := th_RC_F hB.1 hR hf (th_T_s hb902 ro_6 hst52) (by decide)
            replace hF := hF.trans (congrArg (dv_k f_X1_wearAYear_0_5b) (dv_bn (dv_stoI hIo hB.1 hU hb902 ow_6 (i := j5_4.toInt) hst52 (Eq.refl _) (by omega))))
            refine lv_aload_n hx hb dX1_wearAYear_53 rfl (lv_at hl 0 rfl) ?_
            refine th_getK hC cf_X1 hB.1 h0 ro_3 rfl (j := 2) (by decide) mm910 kf_X1_18 dX1_wearAYear_54 ?_
            refine lv_iload hx hb dX1_wearAYear_57 (lv_at hl 4 rfl) ?_
            refine th_ialdF hC hB.1 hb902 ro_6 rfl (Eq.refl _) (by omega) (by omega) rfl dX1_wearAYear_59 (fun x911 mx911 lx911 ux911 => ?_)
            replace hF := hF.trans (congrArg (dv_k f_X1_wearAYear_0_5b) (dv_bn (dv_aldI hB.1 hU hb902 ow_6 (z := j5_4.toInt) mx911 (by omega))))
            refine tr_if_ne (tgt := 72) hx hb dX1_wearAYear_60 (by decide) (Eq.refl _) (fun c60 => ?_) (fun c60 => ?_)
            · replace hF := hF.trans (congrArg (dv_k f_X1_wearAYear_0_5b) (if_pos c60))
              exact jn72 H52 locs ls j5_3 hB hR (lv_sub hl [0, 1, 2, 4, 3] rfl) hF
            · replace hF := hF.trans (congrArg (dv_k f_X1_wearAYear_0_5b) (if_neg (not_not_intro c60)))
              refine lv_aload_n hx hb dX1_wearAYear_63 rfl (lv_at hl 0 rfl) ?_
              refine lv_iload hx hb dX1_wearAYear_64 (lv_at hl 4 rfl) ?_
              refine th_call (th_runV (As := [.int j5_4]) (rest := []) hC mf_X1_rollUp km_X1_62 im_X1_rollUp se_X1_rollUp (c_X1_rollUp l G Γ H52 hB.1 hR hU a0 h0 j5_4) rfl rfl ⟨Nat.le_of_ble_eq_true rfl, Nat.le_of_ble_eq_true rfl⟩ hB.1 h0 ro_3 rfl rfl hl.1 rfl (Nat.le_of_ble_eq_true rfl) dX1_wearAYear_66 ⟨Nat.le_refl _, Nat.le_refl _⟩) hB.2.1 (fun v66 H66 locs hp hz hS => ?_)
              obtain ⟨rfl, hI1, hf, hR, z66_0⟩ := hp
              have hB := th_B_c hB hI1 hS hf (by decide)
              have mm912 := (th_F_o hf h0 ro_3 (j := 7) (by decide) (by decide)).trans mm909
              have mm913 := (th_F_o hf h0 ro_3 (j := 2) (by decide) (by decide)).trans mm910
              replace hF := hF.trans (congrArg (dv_k f_X1_wearAYear_0_5b) (dv_bn2 (z66_0)))
              refine W.eq (g2 := F0 m 69 ls []) rfl ?_
              refine tr_iincE (fun x914 => [(3, .int x914), (0, .ref a0), (1, .ref p1), (2, .null), (4, .int j5_4)]) hx hb dX1_wearAYear_69 hl (k := 3) rfl (Eq.refl _) (by decide) (fun _ => rfl) (fun x914 ls ex914 hl => ?_)
              have lx914 := ti_lo x914; have ux914 := ti_hi x914
              replace hF := hF.trans (congrArg (dv_k f_X1_wearAYear_0_5b) (dv_bn (ex914)))
              exact jn72 H66 locs ls x914 hB hR (lv_sub hl [1, 2, 3, 4, 0] rfl) hF
          · replace hF := hF.trans (congrArg (dv_k f_X1_wearAYear_0_5b) (if_neg (not_not_intro c20)))
            refine lv_goto (tgt := 72) hx hb dX1_wearAYear_23 (by decide) ?_
            exact jn72 H5 locs ls j5_3 hB hR (lv_sub hl [0, 1, 2, 4, 3] rfl) hF
    exact lp5 ((2147483648 : Int) - (0)).toNat H0 [] ls 0 0 hB hR (lv_sub hl [2, 3, 4, 1, 0] rfl) (by rw [tk_0]; exact hF) (by decide) (by decide) (by have w0 := tk_0; omega)
  · refine th_met RX1 (by decide) rfl (Nat.le_of_ble_eq_true rfl) ?_
    intro p e s m below meth c hC hH hr hlocks hnm ls hl
    have hx := hC.1
    have hb := hC.2.1
    have hB : th_B G Γ Γ [(6, 0), (9, 0), (7, 0), (8, 0), (24, 0), (23, 3), (26, 0), (25, 0)] H0 H0 [] := ⟨hI, va_S.rf, th_F_rf⟩
    have hl : lv_has ls 5 [(0, .ref a0), (1, .ref p1), (2, .ref b2)] := hl
    obtain ⟨F, hF0⟩ : ∃ F, F = f_X1_wearAYear (dv G Γ H0) ((a0 : Int)) ((p1 : Int)) ((b2 : Int)) := ⟨_, rfl⟩
    have hF := hF0.trans ((f_X1_wearAYear.eq_1 (dv G Γ H0) ((a0 : Int)) ((p1 : Int)) ((b2 : Int))).trans ((if_neg (show ¬ (dv_iv (Value.ref b2) = -1) from by show ¬ ((b2 : Int) = -1); omega)).trans (f_X1_wearAYear_1.eq_1 (dv G Γ H0) ((a0 : Int)) ((p1 : Int)) ((b2 : Int)))))
    refine lv_iconst (v := 0) hx hb dX1_wearAYear_0 (by decide) ?_
    refine lv_istore_n (lv' := [(3, .int 0), (0, .ref a0), (1, .ref p1), (2, .ref b2)]) hx hb dX1_wearAYear_1 rfl hl (by decide) rfl (fun ls hl => ?_)
    refine lv_iconst (v := 0) hx hb dX1_wearAYear_2 (by decide) ?_
    refine lv_istore (lv' := [(4, .int 0), (3, .int 0), (0, .ref a0), (1, .ref p1), (2, .ref b2)]) hx hb dX1_wearAYear_3 hl (by decide) rfl (fun ls hl => ?_)
    have lp5 : ∀ (n5 : Nat) (H5 : Heap) (locs : List Loc) (ls : Array Slot) (j5_3 : Int32) (j5_4 : Int32), th_B G Γ Γ [(6, 0), (9, 0), (7, 0), (8, 0), (24, 0), (23, 3), (26, 0), (25, 0)] H0 H5 locs → th_RC G Γ H5 → lv_has ls 5 [(0, .ref a0), (1, .ref p1), (2, .ref b2), (3, .int j5_3), (4, .int j5_4)] → F = dv_lp f_X1_wearAYear_1_5b (dv G Γ H5, (a0 : Int), (p1 : Int), (b2 : Int), j5_3.toInt, j5_4.toInt) → 0 ≤ j5_4.toInt → j5_4.toInt ≤ 9 → (2147483648 : Int) - j5_4.toInt ≤ (n5 : Int) → W p l e ({ frames := 4, cells := 0, slots := 0, locals := 103 } : Room) s m ([.ref a0, .ref p1, .ref b2] : List Value).toArray below meth c H5 locs 0 0 (MQ below (th_Q (fun (v : Option Value) (H1 : Heap) => ∃ r : Int32, v = some (.int r) ∧ th_I G Γ H1 ∧ th_F G Γ [(6, 0), (9, 0), (7, 0), (8, 0), (24, 0), (23, 3), (26, 0), (25, 0)] H0 H1 ∧ th_RC G Γ H1 ∧ (f_X1_wearAYear (dv G Γ H0) (a0 : Int) (p1 : Int) (dv_iv (Value.ref b2)) = (dv G Γ H1, r.toInt))) G) ([.ref a0, .ref p1, .ref b2] : List Value).toArray s 0 0 (fun q => G.2.2 ≤ q)) (F0 m 5 ls []) := by
      intro n5
      induction n5 with
      | zero => intro H5 locs ls j5_3 j5_4 hB hR hl hF g5_0 g5_1 hm5; exact absurd hm5 (by have := ti_hi j5_4; omega)
      | succ n5 ih5 =>
        intro H5 locs ls j5_3 j5_4 hB hR hl hF g5_0 g5_1 hm5
        have lj5_3 := ti_lo j5_3; have uj5_3 := ti_hi j5_3
        have lj5_4 := ti_lo j5_4; have uj5_4 := ti_hi j5_4
        have hm5 : (2147483648 : Int) - j5_4.toInt ≤ (n5 : Int) + 1 := by omega
        replace hF := hF.trans (dv_lp_eq)
        replace hF := hF.trans (congrArg (dv_k f_X1_wearAYear_1_5b) (f_X1_wearAYear_1_5c.eq_1 (dv G Γ H5) ((a0 : Int)) ((p1 : Int)) ((b2 : Int)) (j5_3.toInt) (j5_4.toInt)))
        refine lv_iload hx hb dX1_wearAYear_5 (lv_at hl 4 rfl) ?_
        refine lv_aload_n hx hb dX1_wearAYear_7 rfl (lv_at hl 0 rfl) ?_
        refine th_getI (j := 7) hC cf_X1 hB.1 h0 ro_3 rfl rfl kf_X1_33 dX1_wearAYear_8 (fun x1808 mx1808 lx1808 ux1808 => ?_)
        replace hF := hF.trans (congrArg (dv_k f_X1_wearAYear_1_5b) (dv_bn (dv_getI h0 ro_3 (j := 7) rfl mx1808 (by decide))))
        have sx1808 := (th_F_o hB.2.2 h0 ro_3 (j := 7) (by decide) (by decide)).symm.trans mx1808
        refine tr_icmp_ge (tgt := 78) hx hb dX1_wearAYear_11 (by decide) (Eq.refl _) (Eq.refl _) (fun c11 => ?_) (fun c11 => ?_)
        · replace hF := hF.trans (congrArg (dv_k f_X1_wearAYear_1_5b) (if_pos c11))
          refine lv_aload_n hx hb dX1_wearAYear_78 rfl (lv_at hl 0 rfl) ?_
          refine th_getO (j := 5) (r2 := 9) hC cf_X1 hB.1 h0 ro_3 rfl rfl kf_X1_27 dX1_wearAYear_79 (fun b1809 mb1809 hb1809 => ?_)
          refine lv_iconst (v := 0) hx hb dX1_wearAYear_82 (by decide) ?_
          refine lv_dup2_11 hx hb dX1_wearAYear_83 rfl rfl ?_
          refine th_ialdF hC hB.1 hb1809 ro_9 rfl tk_0 (by omega) (by omega) rfl dX1_wearAYear_84 (fun x1810 mx1810 lx1810 ux1810 => ?_)
          replace hF := hF.trans (congrArg (dv_k f_X1_wearAYear_1_5b) (dv_bn (dv_aldI hB.1 hU hb1809 ow_9 (z := 0) mx1810 (by omega))))
          refine lv_iconst (v := 1) hx hb dX1_wearAYear_85 (by decide) ?_
          refine lv_iadd hx hb dX1_wearAYear_86 ?_
          refine lv_topi (fun x1811 ex1811 => ?_)
          have lx1811 := ti_lo x1811; have ux1811 := ti_hi x1811
          replace hF := hF.trans (congrArg (dv_k f_X1_wearAYear_1_5b) (dv_bn (dv_add_e (Eq.refl _) tk_1 ex1811)))
          have hIo := hB.1
          refine th_iastF hC hB hb1809 (Or.inl hb1809) ro_9 rfl (by decide) tk_0 (by omega) (by omega) th_sIa dX1_wearAYear_87 (fun H87 locs hB hf87 hst87 => ?_)
          have hf := hf87
          have mm1812 := (th_F_o hf h0 ro_3 (j := 7) (by decide) (by decide)).trans mx1808
          have hR := th_RC_F hB.1 hR hf (th_T_s hb1809 ro_9 hst87) (by decide)
          replace hF := hF.trans (congrArg (dv_k f_X1_wearAYear_1_5b) (dv_bn (dv_stoI hIo hB.1 hU hb1809 ow_9 (i := 0) hst87 (Eq.refl _) (by omega))))
          refine lv_iload_n hx hb dX1_wearAYear_88 rfl (lv_at hl 3 rfl) ?_
          replace hF := hF.trans (dv_kr)
          exact th_iret hC hH hr hlocks rfl hB.2.1 ⟨_, rfl, hB.1, hB.2.2, hR, (hF0.symm.trans hF)⟩ dX1_wearAYear_89
        · replace hF := hF.trans (congrArg (dv_k f_X1_wearAYear_1_5b) (if_neg (Int.not_le.mpr c11)))
          refine lv_aload_n hx hb dX1_wearAYear_14 rfl (lv_at hl 0 rfl) ?_
          refine lv_iload hx hb dX1_wearAYear_15 (lv_at hl 4 rfl) ?_
          refine th_call (th_runV (As := [.int j5_4]) (rest := []) hC mf_X1_isLaid km_X1_56 im_X1_isLaid se_X1_isLaid (c_X1_isLaid l G Γ H5 hB.1 hU a0 h0 j5_4) rfl rfl ⟨Nat.le_of_ble_eq_true rfl, Nat.le_of_ble_eq_true rfl⟩ hB.1 h0 ro_3 rfl rfl hl.1 rfl (Nat.le_of_ble_eq_true rfl) dX1_wearAYear_17 ⟨Nat.le_refl _, Nat.le_refl _⟩) hB.2.1 (fun v17 H17 locs hp hz hS => ?_)
          obtain ⟨x1813, rfl, lx1813, ux1813, q17_0, q17_1, q17_2, rfl⟩ := hp
          have hB := th_B_s hB hS
          replace hF := hF.trans (congrArg (dv_k f_X1_wearAYear_1_5b) (dv_bn2 (q17_2)))
          refine W.eq (g2 := F0 m 20 ls [.int x1813]) rfl ?_
          have jn72 : ∀ (H72 : Heap) (locs : List Loc) (ls : Array Slot) (j72_3 : Int32), th_B G Γ Γ [(6, 0), (9, 0), (7, 0), (8, 0), (24, 0), (23, 3), (26, 0), (25, 0)] H0 H72 locs → th_RC G Γ H72 → lv_has ls 5 [(0, .ref a0), (1, .ref p1), (2, .ref b2), (4, .int j5_4), (3, .int j72_3)] → F = dv_k f_X1_wearAYear_1_5b (f_X1_wearAYear_1_72 (dv G Γ H72) ((a0 : Int)) ((p1 : Int)) ((b2 : Int)) (j5_4.toInt) (j72_3.toInt)) → W p l e ({ frames := 4, cells := 0, slots := 0, locals := 103 } : Room) s m ([.ref a0, .ref p1, .ref b2] : List Value).toArray below meth c H72 locs 0 0 (MQ below (th_Q (fun (v : Option Value) (H1 : Heap) => ∃ r : Int32, v = some (.int r) ∧ th_I G Γ H1 ∧ th_F G Γ [(6, 0), (9, 0), (7, 0), (8, 0), (24, 0), (23, 3), (26, 0), (25, 0)] H0 H1 ∧ th_RC G Γ H1 ∧ (f_X1_wearAYear (dv G Γ H0) (a0 : Int) (p1 : Int) (dv_iv (Value.ref b2)) = (dv G Γ H1, r.toInt))) G) ([.ref a0, .ref p1, .ref b2] : List Value).toArray s 0 0 (fun q => G.2.2 ≤ q)) (F0 m 72 ls []) := by
            intro H72 locs ls j72_3 hB hR hl hF
            have lj72_3 := ti_lo j72_3; have uj72_3 := ti_hi j72_3
            have mm1814 := (th_F_o hB.2.2 h0 ro_3 (j := 7) (by decide) (by decide)).trans sx1808
            replace hF := hF.trans (congrArg (dv_k f_X1_wearAYear_1_5b) (f_X1_wearAYear_1_72.eq_1 (dv G Γ H72) ((a0 : Int)) ((p1 : Int)) ((b2 : Int)) (j5_4.toInt) (j72_3.toInt)))
            refine tr_iinc (fun x1815 => [(4, .int x1815), (0, .ref a0), (1, .ref p1), (2, .ref b2), (3, .int j72_3)]) hx hb dX1_wearAYear_72 hl (k := 3) rfl (Eq.refl _) tk_1 (by omega) (by omega) (by decide) (fun _ => rfl) (fun x1815 ls ex1815 hl => ?_)
            replace hF := hF.trans (congrArg (dv_k f_X1_wearAYear_1_5b) (dv_bn (ex1815.symm)))
            refine lv_goto (tgt := 5) hx hb dX1_wearAYear_75 (by decide) ?_
            replace hF := hF.trans (dv_kl)
            exact ih5 H72 locs ls j72_3 x1815 hB hR (lv_sub hl [1, 2, 3, 4, 0] rfl) hF (by omega) (by omega) (by omega)
          refine tr_if_ne (tgt := 26) hx hb dX1_wearAYear_20 (by decide) (Eq.refl _) (fun c20 => ?_) (fun c20 => ?_)
          · replace hF := hF.trans (congrArg (dv_k f_X1_wearAYear_1_5b) (if_pos c20))
            refine lv_aload_n hx hb dX1_wearAYear_26 rfl (lv_at hl 0 rfl) ?_
            refine th_getO (j := 2) (r2 := 6) hC cf_X1 hB.1 h0 ro_3 rfl rfl kf_X1_18 dX1_wearAYear_27 (fun b1816 mb1816 hb1816 => ?_)
            have sb1816 := (th_F_o hB.2.2 h0 ro_3 (j := 2) (by decide) (by decide)).symm.trans mb1816
            refine lv_iload hx hb dX1_wearAYear_30 (lv_at hl 4 rfl) ?_
            refine lv_iconst (v := 0) hx hb dX1_wearAYear_32 (by decide) ?_
            refine lv_aload_n hx hb dX1_wearAYear_33 rfl (lv_at hl 0 rfl) ?_
            refine th_getK hC cf_X1 hB.1 h0 ro_3 rfl (j := 2) (by decide) mb1816 kf_X1_18 dX1_wearAYear_34 ?_
            refine lv_iload hx hb dX1_wearAYear_37 (lv_at hl 4 rfl) ?_
            refine th_ialdF hC hB.1 hb1816 ro_6 rfl (Eq.refl _) (by omega) (by omega) rfl dX1_wearAYear_39 (fun x1817 mx1817 lx1817 ux1817 => ?_)
            replace hF := hF.trans (congrArg (dv_k f_X1_wearAYear_1_5b) (dv_bn (dv_aldI hB.1 hU hb1816 ow_6 (z := j5_4.toInt) mx1817 (by omega))))
            refine lv_aload_n hx hb dX1_wearAYear_40 rfl (lv_at hl 1 rfl) ?_
            refine lv_aload_n hx hb dX1_wearAYear_41 rfl (lv_at hl 2 rfl) ?_
            refine lv_aload_n hx hb dX1_wearAYear_42 rfl (lv_at hl 0 rfl) ?_
            refine lv_iload hx hb dX1_wearAYear_43 (lv_at hl 4 rfl) ?_
            refine th_call (th_runV (As := [.ref b2, .ref a0, .int j5_4]) (rest := [.int x1817, .int 0, .int j5_4, .ref b1816]) hC mf_X2_wearOf km_X1_66 im_X2_wearOf se_X2_wearOf (c_X2_wearOf l G Γ H5 hB.1 hR hU p1 h1 (.ref b2) (Or.inr ⟨_, rfl, hb2⟩) a0 h0 j5_4 (by omega) (by omega)) rfl rfl ⟨Nat.le_of_ble_eq_true rfl, Nat.le_of_ble_eq_true rfl⟩ hB.1 h1 ro_11 rfl rfl hl.1 rfl (Nat.le_of_ble_eq_true rfl) dX1_wearAYear_45 ⟨Nat.le_refl _, Nat.le_refl _⟩) hB.2.1 (fun v45 H45 locs hp hz hS => ?_)
            obtain ⟨x1818, rfl, lx1818, ux1818, hI1, hf, hR, z45_0⟩ := hp
            have hB := th_B_c hB hI1 hS hf (by decide)
            have mm1819 := (th_F_o hf h0 ro_3 (j := 7) (by decide) (by decide)).trans mx1808
            have mm1820 := (th_F_o hf h0 ro_3 (j := 2) (by decide) (by decide)).trans mb1816
            replace hF := hF.trans (congrArg (dv_k f_X1_wearAYear_1_5b) (dv_bn2 (z45_0)))
            refine W.eq (g2 := F0 m 48 ls [.int x1818, .int x1817, .int 0, .int j5_4, .ref b1816]) rfl ?_
            refine lv_isub hx hb dX1_wearAYear_48 ?_
            refine lv_topi (fun x1821 ex1821 => ?_)
            have lx1821 := ti_lo x1821; have ux1821 := ti_hi x1821
            replace hF := hF.trans (congrArg (dv_k f_X1_wearAYear_1_5b) (dv_bn (dv_sub_e (Eq.refl _) (Eq.refl _) ex1821)))
            refine tr_mmax hC kma_X1_72 hl.1 tk_0 (Eq.refl _) (Nat.le_of_ble_eq_true rfl) (Nat.le_of_ble_eq_true rfl) (Nat.le_of_ble_eq_true rfl) (Nat.le_of_ble_eq_true rfl) dX1_wearAYear_49 (fun x1822 ex1822 => ?_)
            replace hF := hF.trans (congrArg (dv_k f_X1_wearAYear_1_5b) (dv_bn (dv_max_e ex1822)))
            have hIo := hB.1
            refine th_iastF hC hB hb1816 (Or.inl hb1816) ro_6 rfl (by decide) (Eq.refl _) (by omega) (by omega) th_sIa dX1_wearAYear_52 (fun H52 locs hB hf52 hst52 => ?_)
            have hf := hf52
            have mm1823 := (th_F_o hf h0 ro_3 (j := 7) (by decide) (by decide)).trans mm1819
            have mm1824 := (th_F_o hf h0 ro_3 (j := 2) (by decide) (by decide)).trans mm1820
            have hR := th_RC_F hB.1 hR hf (th_T_s hb1816 ro_6 hst52) (by decide)
            replace hF := hF.trans (congrArg (dv_k f_X1_wearAYear_1_5b) (dv_bn (dv_stoI hIo hB.1 hU hb1816 ow_6 (i := j5_4.toInt) hst52 (Eq.refl _) (by omega))))
            refine lv_aload_n hx hb dX1_wearAYear_53 rfl (lv_at hl 0 rfl) ?_
            refine th_getK hC cf_X1 hB.1 h0 ro_3 rfl (j := 2) (by decide) mm1824 kf_X1_18 dX1_wearAYear_54 ?_
            refine lv_iload hx hb dX1_wearAYear_57 (lv_at hl 4 rfl) ?_
            refine th_ialdF hC hB.1 hb1816 ro_6 rfl (Eq.refl _) (by omega) (by omega) rfl dX1_wearAYear_59 (fun x1825 mx1825 lx1825 ux1825 => ?_)
            replace hF := hF.trans (congrArg (dv_k f_X1_wearAYear_1_5b) (dv_bn (dv_aldI hB.1 hU hb1816 ow_6 (z := j5_4.toInt) mx1825 (by omega))))
            refine tr_if_ne (tgt := 72) hx hb dX1_wearAYear_60 (by decide) (Eq.refl _) (fun c60 => ?_) (fun c60 => ?_)
            · replace hF := hF.trans (congrArg (dv_k f_X1_wearAYear_1_5b) (if_pos c60))
              exact jn72 H52 locs ls j5_3 hB hR (lv_sub hl [0, 1, 2, 4, 3] rfl) hF
            · replace hF := hF.trans (congrArg (dv_k f_X1_wearAYear_1_5b) (if_neg (not_not_intro c60)))
              refine lv_aload_n hx hb dX1_wearAYear_63 rfl (lv_at hl 0 rfl) ?_
              refine lv_iload hx hb dX1_wearAYear_64 (lv_at hl 4 rfl) ?_
              refine th_call (th_runV (As := [.int j5_4]) (rest := []) hC mf_X1_rollUp km_X1_62 im_X1_rollUp se_X1_rollUp (c_X1_rollUp l G Γ H52 hB.1 hR hU a0 h0 j5_4) rfl rfl ⟨Nat.le_of_ble_eq_true rfl, Nat.le_of_ble_eq_true rfl⟩ hB.1 h0 ro_3 rfl rfl hl.1 rfl (Nat.le_of_ble_eq_true rfl) dX1_wearAYear_66 ⟨Nat.le_refl _, Nat.le_refl _⟩) hB.2.1 (fun v66 H66 locs hp hz hS => ?_)
              obtain ⟨rfl, hI1, hf, hR, z66_0⟩ := hp
              have hB := th_B_c hB hI1 hS hf (by decide)
              have mm1826 := (th_F_o hf h0 ro_3 (j := 7) (by decide) (by decide)).trans mm1823
              have mm1827 := (th_F_o hf h0 ro_3 (j := 2) (by decide) (by decide)).trans mm1824
              replace hF := hF.trans (congrArg (dv_k f_X1_wearAYear_1_5b) (dv_bn2 (z66_0)))
              refine W.eq (g2 := F0 m 69 ls []) rfl ?_
              refine tr_iincE (fun x1828 => [(3, .int x1828), (0, .ref a0), (1, .ref p1), (2, .ref b2), (4, .int j5_4)]) hx hb dX1_wearAYear_69 hl (k := 3) rfl (Eq.refl _) (by decide) (fun _ => rfl) (fun x1828 ls ex1828 hl => ?_)
              have lx1828 := ti_lo x1828; have ux1828 := ti_hi x1828
              replace hF := hF.trans (congrArg (dv_k f_X1_wearAYear_1_5b) (dv_bn (ex1828)))
              exact jn72 H66 locs ls x1828 hB hR (lv_sub hl [1, 2, 3, 4, 0] rfl) hF
          · replace hF := hF.trans (congrArg (dv_k f_X1_wearAYear_1_5b) (if_neg (not_not_intro c20)))
            refine lv_goto (tgt := 72) hx hb dX1_wearAYear_23 (by decide) ?_
            exact jn72 H5 locs ls j5_3 hB hR (lv_sub hl [0, 1, 2, 4, 3] rfl) hF
    exact lp5 ((2147483648 : Int) - (0)).toNat H0 [] ls 0 0 hB hR (lv_sub hl [2, 3, 4, 1, 0] rfl) (by rw [tk_0]; exact hF) (by decide) (by decide) (by have w0 := tk_0; omega)

set_option maxHeartbeats 4000000 in
set_option maxRecDepth 100000 in
theorem c_X4_note (l : Launch) (G : th_G) (Γ : th_Ga) (H0 : Heap) (hI : th_I G Γ H0) (hR : th_RC G Γ H0) (hU : dv_U Γ) (a0 : Nat) (h0 : Γ a0 = (17, 0)) (p1 : Int32) (p2 : Nat) (h2 : Γ p2 = (3, 0)) : Met l yX4_note (.code yX4_note cX4_note 4 (none) :: th_tb) ({ frames := 1, cells := 0, slots := 0, locals := 40 } : Room) (th_P [.ref a0, .int p1, .ref p2] G H0) (th_Q (fun (v : Option Value) (H1 : Heap) => v = none ∧ th_I G Γ H1 ∧ th_F G Γ [(18, 0), (17, 4)] H0 H1 ∧ th_RC G Γ H1 ∧ (f_X4_note (dv G Γ H0) (a0 : Int) p1.toInt (p2 : Int) = (dv G Γ H1, 0))) G) 0 0 (fun q => G.2.2 ≤ q) := by
  refine th_met RX4 (by decide) rfl (Nat.le_of_ble_eq_true rfl) ?_
  intro p e s m below meth c hC hH hr hlocks hnm ls hl
  have hx := hC.1
  have hb := hC.2.1
  have hB : th_B G Γ Γ [(18, 0), (17, 4)] H0 H0 [] := ⟨hI, va_S.rf, th_F_rf⟩
  have hl : lv_has ls 4 [(0, .ref a0), (1, .int p1), (2, .ref p2)] := hl
  have lp1 := ti_lo p1; have up1 := ti_hi p1
  obtain ⟨F, hF0⟩ : ∃ F, F = f_X4_note (dv G Γ H0) ((a0 : Int)) (p1.toInt) ((p2 : Int)) := ⟨_, rfl⟩
  have hF := hF0.trans (f_X4_note.eq_1 (dv G Γ H0) ((a0 : Int)) (p1.toInt) ((p2 : Int)))
  refine lv_aload_n hx hb dX4_note_0 rfl (lv_at hl 0 rfl) ?_
  refine th_getI (j := 4) hC cf_X4 hB.1 h0 ro_17 rfl rfl kf_X4_29 dX4_note_1 (fun x1 mx1 lx1 ux1 => ?_)
  replace hF := hF.trans (dv_bn (dv_getI h0 ro_17 (j := 4) rfl mx1 (by decide)))
  refine lv_bipush (v := 16) hx hb dX4_note_4 (by decide) ?_
  refine tr_icmp_lt (tgt := 32) hx hb dX4_note_6 (by decide) (Eq.refl _) tk_16 (fun c6 => ?_) (fun c6 => ?_)
  · replace hF := hF.trans (if_pos c6)
    refine lv_aload_n hx hb dX4_note_32 rfl (lv_at hl 0 rfl) ?_
    refine th_getK hC cf_X4 hB.1 h0 ro_17 rfl (j := 4) (by decide) mx1 kf_X4_29 dX4_note_33 ?_
    replace hF := hF.trans (dv_bn (dv_getI h0 ro_17 (j := 4) rfl mx1 (by decide)))
    refine lv_bipush (v := 30) hx hb dX4_note_36 (by decide) ?_
    refine tr_imul hx hb dX4_note_38 (Eq.refl _) tk_30 (by omega) (by omega) (fun x2 ex2 => ?_)
    replace hF := hF.trans (dv_bn (ex2.symm))
    refine lv_istore_n (lv' := [(3, .int x2), (0, .ref a0), (1, .int p1), (2, .ref p2)]) hx hb dX4_note_39 rfl hl (by decide) rfl (fun ls hl => ?_)
    refine lv_aload_n hx hb dX4_note_40 rfl (lv_at hl 1 rfl) ?_
    refine th_getO (j := 0) (r2 := 18) hC cf_X4 hB.1 h0 ro_17 rfl rfl kf_X4_11 dX4_note_41 (fun b3 mb3 hb3 => ?_)
    refine lv_iload_n hx hb dX4_note_44 rfl (lv_at hl 0 rfl) ?_
    refine lv_iload_n hx hb dX4_note_45 rfl (lv_at hl 2 rfl) ?_
    have hIo := hB.1
    refine th_iastF hC hB hb3 (Or.inl hb3) ro_18 rfl (by decide) (Eq.refl _) (by omega) (by omega) th_sIa dX4_note_46 (fun H46 locs hB hf46 hst46 => ?_)
    have hf := hf46
    have mm4 := (th_F_o hf h0 ro_17 (j := 4) (by decide) (by decide)).trans mx1
    have mm5 := (th_F_o hf h0 ro_17 (j := 0) (by decide) (by decide)).trans mb3
    replace hF := hF.trans (dv_bn (dv_stoI hIo hB.1 hU hb3 ow_18 (i := x2.toInt) hst46 (Eq.refl _) (by omega)))
    have hR := th_RC_p hB.1 hR hf46 (th_T_s hb3 ro_18 hst46) (by decide) hst46.2.2.2.1 (th_PS_st (hR.2.1 b3 _ (Or.inl hb3)) hst46 (by omega))
    refine lv_aload_n hx hb dX4_note_47 rfl (lv_at hl 1 rfl) ?_
    refine th_getK hC cf_X4 hB.1 h0 ro_17 rfl (j := 0) (by decide) mm5 kf_X4_11 dX4_note_48 ?_
    refine lv_iload_n hx hb dX4_note_51 rfl (lv_at hl 0 rfl) ?_
    refine lv_iconst (v := 1) hx hb dX4_note_52 (by decide) ?_
    refine tr_iadd hx hb dX4_note_53 (Eq.refl _) tk_1 (by omega) (by omega) (fun x6 ex6 => ?_)
    replace hF := hF.trans (dv_bn (ex6.symm))
    refine lv_aload_n hx hb dX4_note_54 rfl (lv_at hl 3 rfl) ?_
    refine th_getI (j := 10) hC cf_X1 hB.1 h2 ro_3 rfl rfl kf_X4_38 dX4_note_55 (fun x7 mx7 lx7 ux7 => ?_)
    replace hF := hF.trans (dv_bn (dv_getI h2 ro_3 (j := 10) rfl mx7 (by decide)))
    have hIo := hB.1
    refine th_iastF hC hB hb3 (Or.inl hb3) ro_18 rfl (by decide) (Eq.refl _) (by omega) (by omega) th_sIa dX4_note_58 (fun H58 locs hB hf58 hst58 => ?_)
    have hf := hf58
    have mm8 := (th_F_o hf h0 ro_17 (j := 4) (by decide) (by decide)).trans mm4
    have mm9 := (th_F_o hf h0 ro_17 (j := 0) (by decide) (by decide)).trans mm5
    replace hF := hF.trans (dv_bn (dv_stoI hIo hB.1 hU hb3 ow_18 (i := x6.toInt) hst58 (Eq.refl _) (by omega)))
    have hR := th_RC_p hB.1 hR hf58 (th_T_s hb3 ro_18 hst58) (by decide) hst58.2.2.2.1 (th_PS_st (hR.2.1 b3 _ (Or.inl hb3)) hst58 (by omega))
    refine lv_aload_n hx hb dX4_note_59 rfl (lv_at hl 1 rfl) ?_
    refine th_getK hC cf_X4 hB.1 h0 ro_17 rfl (j := 0) (by decide) mm9 kf_X4_11 dX4_note_60 ?_
    refine lv_iload_n hx hb dX4_note_63 rfl (lv_at hl 0 rfl) ?_
    refine lv_iconst (v := 2) hx hb dX4_note_64 (by decide) ?_
    refine tr_iadd hx hb dX4_note_65 (Eq.refl _) tk_2 (by omega) (by omega) (fun x10 ex10 => ?_)
    replace hF := hF.trans (dv_bn (ex10.symm))
    refine lv_aload_n hx hb dX4_note_66 rfl (lv_at hl 3 rfl) ?_
    refine th_getO (j := 5) (r2 := 9) hC cf_X1 hB.1 h2 ro_3 rfl rfl kf_X4_41 dX4_note_67 (fun b11 mb11 hb11 => ?_)
    refine lv_iconst (v := 0) hx hb dX4_note_70 (by decide) ?_
    refine th_ialdF hC hB.1 hb11 ro_9 rfl tk_0 (by omega) (by omega) rfl dX4_note_71 (fun x12 mx12 lx12 ux12 => ?_)
    replace hF := hF.trans (dv_bn (dv_aldI hB.1 hU hb11 ow_9 (z := 0) mx12 (by omega)))
    have hIo := hB.1
    refine th_iastF hC hB hb3 (Or.inl hb3) ro_18 rfl (by decide) (Eq.refl _) (by omega) (by omega) th_sIa dX4_note_72 (fun H72 locs hB hf72 hst72 => ?_)
    have hf := hf72
    have mm13 := (th_F_o hf h0 ro_17 (j := 4) (by decide) (by decide)).trans mm8
    have mm14 := (th_F_o hf h0 ro_17 (j := 0) (by decide) (by decide)).trans mm9
    replace hF := hF.trans (dv_bn (dv_stoI hIo hB.1 hU hb3 ow_18 (i := x10.toInt) hst72 (Eq.refl _) (by omega)))
    have hR := th_RC_p hB.1 hR hf72 (th_T_s hb3 ro_18 hst72) (by decide) hst72.2.2.2.1 (th_PS_st (hR.2.1 b3 _ (Or.inl hb3)) hst72 (by omega))
    refine lv_aload_n hx hb dX4_note_73 rfl (lv_at hl 3 rfl) ?_
    refine th_getO (j := 3) (r2 := 7) hC cf_X1 hB.1 h2 ro_3 rfl rfl kf_X4_44 dX4_note_74 (fun b15 mb15 hb15 => ?_)
    refine lv_iconst (v := 0) hx hb dX4_note_77 (by decide) ?_
    refine lv_aload_n hx hb dX4_note_78 rfl (lv_at hl 1 rfl) ?_
    refine th_getK hC cf_X4 hB.1 h0 ro_17 rfl (j := 0) (by decide) mm14 kf_X4_11 dX4_note_79 ?_
    refine lv_iload_n hx hb dX4_note_82 rfl (lv_at hl 0 rfl) ?_
    refine lv_iconst (v := 3) hx hb dX4_note_83 (by decide) ?_
    refine tr_iadd hx hb dX4_note_84 (Eq.refl _) tk_3 (by omega) (by omega) (fun x16 ex16 => ?_)
    replace hF := hF.trans (dv_bn (ex16.symm))
    refine lv_bipush (v := 9) hx hb dX4_note_85 (by decide) ?_
    have hIo := hB.1
    refine tr_acopy hC kac_X4_32 kw_nat kw_sta kw_sys hl.1 hB hb15 hb3 (Or.inl hb3) ro_7 ro_18 (by decide) tk_0 (Eq.refl _) tk_9 (by omega) (by omega) (by omega) (by omega) (by omega) (fun _ _ => rfl) (fun _ _ _ hv => hv) (Nat.le_of_ble_eq_true rfl) (Nat.le_of_ble_eq_true rfl) dX4_note_87 (fun H87 locs hB hf87 hcp87 => ?_)
    have hf := hf87
    have mm17 := (th_F_o hf h0 ro_17 (j := 4) (by decide) (by decide)).trans mm13
    have mm18 := (th_F_o hf h0 ro_17 (j := 0) (by decide) (by decide)).trans mm14
    replace hF := hF.trans (dv_bn (dv_cpy hIo hB.1 hU hb15 ow_7 hb3 ow_18 (x := 0) (y := x16.toInt) (n := 9) hcp87 (by omega) (by omega) (by omega)))
    refine lv_aload_n hx hb dX4_note_90 rfl (lv_at hl 3 rfl) ?_
    refine th_getO (j := 4) (r2 := 8) hC cf_X1 hB.1 h2 ro_3 rfl rfl kf_X4_47 dX4_note_91 (fun b19 mb19 hb19 => ?_)
    refine lv_iconst (v := 0) hx hb dX4_note_94 (by decide) ?_
    refine lv_aload_n hx hb dX4_note_95 rfl (lv_at hl 1 rfl) ?_
    refine th_getK hC cf_X4 hB.1 h0 ro_17 rfl (j := 0) (by decide) mm18 kf_X4_11 dX4_note_96 ?_
    refine lv_iload_n hx hb dX4_note_99 rfl (lv_at hl 0 rfl) ?_
    refine lv_iconst (v := 3) hx hb dX4_note_100 (by decide) ?_
    refine tr_iadd hx hb dX4_note_101 (Eq.refl _) tk_3 (by omega) (by omega) (fun x20 ex20 => ?_)
    replace hF := hF.trans (dv_bn (ex20.symm))
    refine lv_bipush (v := 9) hx hb dX4_note_102 (by decide) ?_
    refine tr_iadd hx hb dX4_note_104 (Eq.refl _) tk_9 (by omega) (by omega) (fun x21 ex21 => ?_)
    replace hF := hF.trans (dv_bn (ex21.symm))
    refine lv_bipush (v := 9) hx hb dX4_note_105 (by decide) ?_
    have hIo := hB.1
    refine tr_acopy hC kac_X4_32 kw_nat kw_sta kw_sys hl.1 hB hb19 hb3 (Or.inl hb3) ro_8 ro_18 (by decide) tk_0 (Eq.refl _) tk_9 (by omega) (by omega) (by omega) (by omega) (by omega) (fun _ _ => rfl) (fun _ _ _ hv => hv) (Nat.le_of_ble_eq_true rfl) (Nat.le_of_ble_eq_true rfl) dX4_note_107 (fun H107 locs hB hf107 hcp107 => ?_)
    have hf := hf107
    have mm22 := (th_F_o hf h0 ro_17 (j := 4) (by decide) (by decide)).trans mm17
    have mm23 := (th_F_o hf h0 ro_17 (j := 0) (by decide) (by decide)).trans mm18
    replace hF := hF.trans (dv_bn (dv_cpy hIo hB.1 hU hb19 ow_8 hb3 ow_18 (x := 0) (y := x21.toInt) (n := 9) hcp107 (by omega) (by omega) (by omega)))
    have hR : th_RC G Γ H107 := by
      have wz := True.intro
      have hF9 : th_F G Γ [(18, 0)] H72 H107 := th_F_tr hf87 hf107 (by decide)
      refine th_RC_p hB.1 hR hF9 (th_T_tr (th_T_c hb3 ro_18 hcp87) (th_T_c hb3 ro_18 hcp107)) (by decide) (fun q hq => (hcp107.2.1 q hq).trans (hcp87.2.1 q hq)) (th_PS_xy (k := (x1 : Int32).toInt.toNat) (hR.2.1 _ _ (Or.inl hb3)) hcp87 (by omega) hcp107 (by omega) (fun c hc hne => ?_))
      rw [th_F_a hf87 hb19 ro_8 (by decide)]
      exact hR.1 _ _ h2 _ _ mb15 ((th_F_o hf87 h2 ro_3 (j := 4) (by decide) (by decide)).symm.trans mb19) c hc hne
    refine lv_aload_n hx hb dX4_note_110 rfl (lv_at hl 3 rfl) ?_
    refine th_getO (j := 2) (r2 := 6) hC cf_X1 hB.1 h2 ro_3 rfl rfl kf_X4_50 dX4_note_111 (fun b24 mb24 hb24 => ?_)
    refine lv_iconst (v := 0) hx hb dX4_note_114 (by decide) ?_
    refine lv_aload_n hx hb dX4_note_115 rfl (lv_at hl 1 rfl) ?_
    refine th_getK hC cf_X4 hB.1 h0 ro_17 rfl (j := 0) (by decide) mm23 kf_X4_11 dX4_note_116 ?_
    refine lv_iload_n hx hb dX4_note_119 rfl (lv_at hl 0 rfl) ?_
    refine lv_iconst (v := 3) hx hb dX4_note_120 (by decide) ?_
    refine tr_iadd hx hb dX4_note_121 (Eq.refl _) tk_3 (by omega) (by omega) (fun x25 ex25 => ?_)
    replace hF := hF.trans (dv_bn (ex25.symm))
    refine lv_bipush (v := 18) hx hb dX4_note_122 (by decide) ?_
    refine tr_iadd hx hb dX4_note_124 (Eq.refl _) tk_18 (by omega) (by omega) (fun x26 ex26 => ?_)
    replace hF := hF.trans (dv_bn (ex26.symm))
    refine lv_bipush (v := 9) hx hb dX4_note_125 (by decide) ?_
    have hIo := hB.1
    refine tr_acopy hC kac_X4_32 kw_nat kw_sta kw_sys hl.1 hB hb24 hb3 (Or.inl hb3) ro_6 ro_18 (by decide) tk_0 (Eq.refl _) tk_9 (by omega) (by omega) (by omega) (by omega) (by omega) (fun _ _ => rfl) (fun _ _ _ hv => hv) (Nat.le_of_ble_eq_true rfl) (Nat.le_of_ble_eq_true rfl) dX4_note_127 (fun H127 locs hB hf127 hcp127 => ?_)
    have hf := hf127
    have mm27 := (th_F_o hf h0 ro_17 (j := 4) (by decide) (by decide)).trans mm22
    have mm28 := (th_F_o hf h0 ro_17 (j := 0) (by decide) (by decide)).trans mm23
    replace hF := hF.trans (dv_bn (dv_cpy hIo hB.1 hU hb24 ow_6 hb3 ow_18 (x := 0) (y := x26.toInt) (n := 9) hcp127 (by omega) (by omega) (by omega)))
    have hR := th_RC_p hB.1 hR hf127 (th_T_c hb3 ro_18 hcp127) (by decide) hcp127.2.1 (th_PS_cpo (hR.2.1 b3 _ (Or.inl hb3)) hcp127 (by omega))
    refine lv_aload_n hx hb dX4_note_130 rfl (lv_at hl 1 rfl) ?_
    refine lv_dup hx hb dX4_note_131 rfl ?_
    refine th_getK hC cf_X4 hB.1 h0 ro_17 rfl (j := 4) (by decide) mm27 kf_X4_29 dX4_note_132 ?_
    replace hF := hF.trans (dv_bn (dv_getI h0 ro_17 (j := 4) rfl mm27 (by decide)))
    refine lv_iconst (v := 1) hx hb dX4_note_135 (by decide) ?_
    refine tr_iadd hx hb dX4_note_136 (Eq.refl _) tk_1 (by omega) (by omega) (fun x29 ex29 => ?_)
    replace hF := hF.trans (dv_bn (ex29.symm))
    refine th_put hC cf_X4 hB h0 (Or.inl h0) ro_17 rfl (j := 4) rfl (th_sI (by omega) (by omega)) (by decide) rfl rfl rfl kf_X4_29 dX4_note_137 (fun H137 locs hB hf hst137 => ?_)
    have mm30 := (th_F_o hf h0 ro_17 (j := 0) (by decide) (by decide)).trans mm28
    have hR := th_RC_F hB.1 hR hf (th_T_s h0 ro_17 hst137) (by decide)
    replace hF := hF.trans (dv_bn (dv_putI hB.1 h0 ro_17 (j := 4) rfl (th_apart hC cf_X4) hst137 (Eq.refl _) (by decide)))
    exact th_vret hC hH hr hlocks hB.2.1 ⟨rfl, hB.1, hB.2.2, hR, (hF0.symm.trans hF)⟩ dX4_note_140
  · replace hF := hF.trans (if_neg (Int.not_lt.mpr c6))
    refine lv_aload_n hx hb dX4_note_9 rfl (lv_at hl 0 rfl) ?_
    refine th_getO (j := 0) (r2 := 18) hC cf_X4 hB.1 h0 ro_17 rfl rfl kf_X4_11 dX4_note_10 (fun b31 mb31 hb31 => ?_)
    refine lv_bipush (v := 30) hx hb dX4_note_13 (by decide) ?_
    refine lv_aload_n hx hb dX4_note_15 rfl (lv_at hl 0 rfl) ?_
    refine th_getK hC cf_X4 hB.1 h0 ro_17 rfl (j := 0) (by decide) mb31 kf_X4_11 dX4_note_16 ?_
    refine lv_iconst (v := 0) hx hb dX4_note_19 (by decide) ?_
    refine lv_sipush (v := 450) hx hb dX4_note_20 (by decide) ?_
    have hIo := hB.1
    refine tr_acopy hC kac_X4_32 kw_nat kw_sta kw_sys hl.1 hB hb31 hb31 (Or.inl hb31) ro_18 ro_18 (by decide) tk_30 tk_0 tk_450 (by omega) (by omega) (by omega) (by omega) (by omega) (fun _ _ => rfl) (fun _ _ _ hv => hv) (Nat.le_of_ble_eq_true rfl) (Nat.le_of_ble_eq_true rfl) dX4_note_23 (fun H23 locs hB hf23 hcp23 => ?_)
    have hf := hf23
    have mm32 := (th_F_o hf h0 ro_17 (j := 4) (by decide) (by decide)).trans mx1
    have mm33 := (th_F_o hf h0 ro_17 (j := 0) (by decide) (by decide)).trans mb31
    replace hF := hF.trans (dv_bn (dv_cpy hIo hB.1 hU hb31 ow_18 hb31 ow_18 (x := 30) (y := 0) (n := 450) hcp23 (by omega) (by omega) (by omega)))
    have hR := th_RC_p hB.1 hR hf23 (th_T_c hb31 ro_18 hcp23) (by decide) hcp23.2.1 (th_PS_shift (hR.2.1 b31 _ (Or.inl hb31)) hcp23)
    refine lv_aload_n hx hb dX4_note_26 rfl (lv_at hl 0 rfl) ?_
    refine lv_bipush (v := 15) hx hb dX4_note_27 (by decide) ?_
    refine th_put hC cf_X4 hB h0 (Or.inl h0) ro_17 rfl (j := 4) rfl (th_sI (by decide) (by decide)) (by decide) rfl rfl rfl kf_X4_29 dX4_note_29 (fun H29 locs hB hf hst29 => ?_)
    have mm34 := (th_F_o hf h0 ro_17 (j := 0) (by decide) (by decide)).trans mm33
    have hR := th_RC_F hB.1 hR hf (th_T_s h0 ro_17 hst29) (by decide)
    replace hF := hF.trans (dv_bn (dv_putI hB.1 h0 ro_17 (j := 4) rfl (th_apart hC cf_X4) hst29 tk_15 (by decide)))
    have mm35 := hst29.2.1
    refine lv_aload_n hx hb dX4_note_32 rfl (lv_at hl 0 rfl) ?_
    refine th_getK hC cf_X4 hB.1 h0 ro_17 rfl (j := 4) (by decide) mm35 kf_X4_29 dX4_note_33 ?_
    replace hF := hF.trans (dv_bn ((dv_getI h0 ro_17 (j := 4) rfl mm35 (by decide)).trans tk_15))
    refine lv_bipush (v := 30) hx hb dX4_note_36 (by decide) ?_
    refine tr_imul hx hb dX4_note_38 tk_15 tk_30 (by omega) (by omega) (fun x36 ex36 => ?_)
    replace hF := hF.trans (dv_bn (ex36.symm))
    refine lv_istore_n (lv' := [(3, .int x36), (0, .ref a0), (1, .int p1), (2, .ref p2)]) hx hb dX4_note_39 rfl hl (by decide) rfl (fun ls hl => ?_)
    refine lv_aload_n hx hb dX4_note_40 rfl (lv_at hl 1 rfl) ?_
    refine th_getK hC cf_X4 hB.1 h0 ro_17 rfl (j := 0) (by decide) mm34 kf_X4_11 dX4_note_41 ?_
    refine lv_iload_n hx hb dX4_note_44 rfl (lv_at hl 0 rfl) ?_
    refine lv_iload_n hx hb dX4_note_45 rfl (lv_at hl 2 rfl) ?_
    have hIo := hB.1
    refine th_iastF hC hB hb31 (Or.inl hb31) ro_18 rfl (by decide) (Eq.refl _) (by omega) (by omega) th_sIa dX4_note_46 (fun H46 locs hB hf46 hst46 => ?_)
    have hf := hf46
    have mm37 := (th_F_o hf h0 ro_17 (j := 0) (by decide) (by decide)).trans mm34
    have mm38 := (th_F_o hf h0 ro_17 (j := 4) (by decide) (by decide)).trans mm35
    replace hF := hF.trans (dv_bn (dv_stoI hIo hB.1 hU hb31 ow_18 (i := x36.toInt) hst46 (Eq.refl _) (by omega)))
    have hR := th_RC_p hB.1 hR hf46 (th_T_s hb31 ro_18 hst46) (by decide) hst46.2.2.2.1 (th_PS_st (hR.2.1 b31 _ (Or.inl hb31)) hst46 (by omega))
    refine lv_aload_n hx hb dX4_note_47 rfl (lv_at hl 1 rfl) ?_
    refine th_getK hC cf_X4 hB.1 h0 ro_17 rfl (j := 0) (by decide) mm37 kf_X4_11 dX4_note_48 ?_
    refine lv_iload_n hx hb dX4_note_51 rfl (lv_at hl 0 rfl) ?_
    refine lv_iconst (v := 1) hx hb dX4_note_52 (by decide) ?_
    refine tr_iadd hx hb dX4_note_53 (Eq.refl _) tk_1 (by omega) (by omega) (fun x39 ex39 => ?_)
    replace hF := hF.trans (dv_bn (ex39.symm))
    refine lv_aload_n hx hb dX4_note_54 rfl (lv_at hl 3 rfl) ?_
    refine th_getI (j := 10) hC cf_X1 hB.1 h2 ro_3 rfl rfl kf_X4_38 dX4_note_55 (fun x40 mx40 lx40 ux40 => ?_)
    replace hF := hF.trans (dv_bn (dv_getI h2 ro_3 (j := 10) rfl mx40 (by decide)))
    have hIo := hB.1
    refine th_iastF hC hB hb31 (Or.inl hb31) ro_18 rfl (by decide) (Eq.refl _) (by omega) (by omega) th_sIa dX4_note_58 (fun H58 locs hB hf58 hst58 => ?_)
    have hf := hf58
    have mm41 := (th_F_o hf h0 ro_17 (j := 0) (by decide) (by decide)).trans mm37
    have mm42 := (th_F_o hf h0 ro_17 (j := 4) (by decide) (by decide)).trans mm38
    replace hF := hF.trans (dv_bn (dv_stoI hIo hB.1 hU hb31 ow_18 (i := x39.toInt) hst58 (Eq.refl _) (by omega)))
    have hR := th_RC_p hB.1 hR hf58 (th_T_s hb31 ro_18 hst58) (by decide) hst58.2.2.2.1 (th_PS_st (hR.2.1 b31 _ (Or.inl hb31)) hst58 (by omega))
    refine lv_aload_n hx hb dX4_note_59 rfl (lv_at hl 1 rfl) ?_
    refine th_getK hC cf_X4 hB.1 h0 ro_17 rfl (j := 0) (by decide) mm41 kf_X4_11 dX4_note_60 ?_
    refine lv_iload_n hx hb dX4_note_63 rfl (lv_at hl 0 rfl) ?_
    refine lv_iconst (v := 2) hx hb dX4_note_64 (by decide) ?_
    refine tr_iadd hx hb dX4_note_65 (Eq.refl _) tk_2 (by omega) (by omega) (fun x43 ex43 => ?_)
    replace hF := hF.trans (dv_bn (ex43.symm))
    refine lv_aload_n hx hb dX4_note_66 rfl (lv_at hl 3 rfl) ?_
    refine th_getO (j := 5) (r2 := 9) hC cf_X1 hB.1 h2 ro_3 rfl rfl kf_X4_41 dX4_note_67 (fun b44 mb44 hb44 => ?_)
    refine lv_iconst (v := 0) hx hb dX4_note_70 (by decide) ?_
    refine th_ialdF hC hB.1 hb44 ro_9 rfl tk_0 (by omega) (by omega) rfl dX4_note_71 (fun x45 mx45 lx45 ux45 => ?_)
    replace hF := hF.trans (dv_bn (dv_aldI hB.1 hU hb44 ow_9 (z := 0) mx45 (by omega)))
    have hIo := hB.1
    refine th_iastF hC hB hb31 (Or.inl hb31) ro_18 rfl (by decide) (Eq.refl _) (by omega) (by omega) th_sIa dX4_note_72 (fun H72 locs hB hf72 hst72 => ?_)
    have hf := hf72
    have mm46 := (th_F_o hf h0 ro_17 (j := 0) (by decide) (by decide)).trans mm41
    have mm47 := (th_F_o hf h0 ro_17 (j := 4) (by decide) (by decide)).trans mm42
    replace hF := hF.trans (dv_bn (dv_stoI hIo hB.1 hU hb31 ow_18 (i := x43.toInt) hst72 (Eq.refl _) (by omega)))
    have hR := th_RC_p hB.1 hR hf72 (th_T_s hb31 ro_18 hst72) (by decide) hst72.2.2.2.1 (th_PS_st (hR.2.1 b31 _ (Or.inl hb31)) hst72 (by omega))
    refine lv_aload_n hx hb dX4_note_73 rfl (lv_at hl 3 rfl) ?_
    refine th_getO (j := 3) (r2 := 7) hC cf_X1 hB.1 h2 ro_3 rfl rfl kf_X4_44 dX4_note_74 (fun b48 mb48 hb48 => ?_)
    refine lv_iconst (v := 0) hx hb dX4_note_77 (by decide) ?_
    refine lv_aload_n hx hb dX4_note_78 rfl (lv_at hl 1 rfl) ?_
    refine th_getK hC cf_X4 hB.1 h0 ro_17 rfl (j := 0) (by decide) mm46 kf_X4_11 dX4_note_79 ?_
    refine lv_iload_n hx hb dX4_note_82 rfl (lv_at hl 0 rfl) ?_
    refine lv_iconst (v := 3) hx hb dX4_note_83 (by decide) ?_
    refine tr_iadd hx hb dX4_note_84 (Eq.refl _) tk_3 (by omega) (by omega) (fun x49 ex49 => ?_)
    replace hF := hF.trans (dv_bn (ex49.symm))
    refine lv_bipush (v := 9) hx hb dX4_note_85 (by decide) ?_
    have hIo := hB.1
    refine tr_acopy hC kac_X4_32 kw_nat kw_sta kw_sys hl.1 hB hb48 hb31 (Or.inl hb31) ro_7 ro_18 (by decide) tk_0 (Eq.refl _) tk_9 (by omega) (by omega) (by omega) (by omega) (by omega) (fun _ _ => rfl) (fun _ _ _ hv => hv) (Nat.le_of_ble_eq_true rfl) (Nat.le_of_ble_eq_true rfl) dX4_note_87 (fun H87 locs hB hf87 hcp87 => ?_)
    have hf := hf87
    have mm50 := (th_F_o hf h0 ro_17 (j := 0) (by decide) (by decide)).trans mm46
    have mm51 := (th_F_o hf h0 ro_17 (j := 4) (by decide) (by decide)).trans mm47
    replace hF := hF.trans (dv_bn (dv_cpy hIo hB.1 hU hb48 ow_7 hb31 ow_18 (x := 0) (y := x49.toInt) (n := 9) hcp87 (by omega) (by omega) (by omega)))
    refine lv_aload_n hx hb dX4_note_90 rfl (lv_at hl 3 rfl) ?_
    refine th_getO (j := 4) (r2 := 8) hC cf_X1 hB.1 h2 ro_3 rfl rfl kf_X4_47 dX4_note_91 (fun b52 mb52 hb52 => ?_)
    refine lv_iconst (v := 0) hx hb dX4_note_94 (by decide) ?_
    refine lv_aload_n hx hb dX4_note_95 rfl (lv_at hl 1 rfl) ?_
    refine th_getK hC cf_X4 hB.1 h0 ro_17 rfl (j := 0) (by decide) mm50 kf_X4_11 dX4_note_96 ?_
    refine lv_iload_n hx hb dX4_note_99 rfl (lv_at hl 0 rfl) ?_
    refine lv_iconst (v := 3) hx hb dX4_note_100 (by decide) ?_
    refine tr_iadd hx hb dX4_note_101 (Eq.refl _) tk_3 (by omega) (by omega) (fun x53 ex53 => ?_)
    replace hF := hF.trans (dv_bn (ex53.symm))
    refine lv_bipush (v := 9) hx hb dX4_note_102 (by decide) ?_
    refine tr_iadd hx hb dX4_note_104 (Eq.refl _) tk_9 (by omega) (by omega) (fun x54 ex54 => ?_)
    replace hF := hF.trans (dv_bn (ex54.symm))
    refine lv_bipush (v := 9) hx hb dX4_note_105 (by decide) ?_
    have hIo := hB.1
    refine tr_acopy hC kac_X4_32 kw_nat kw_sta kw_sys hl.1 hB hb52 hb31 (Or.inl hb31) ro_8 ro_18 (by decide) tk_0 (Eq.refl _) tk_9 (by omega) (by omega) (by omega) (by omega) (by omega) (fun _ _ => rfl) (fun _ _ _ hv => hv) (Nat.le_of_ble_eq_true rfl) (Nat.le_of_ble_eq_true rfl) dX4_note_107 (fun H107 locs hB hf107 hcp107 => ?_)
    have hf := hf107
    have mm55 := (th_F_o hf h0 ro_17 (j := 0) (by decide) (by decide)).trans mm50
    have mm56 := (th_F_o hf h0 ro_17 (j := 4) (by decide) (by decide)).trans mm51
    replace hF := hF.trans (dv_bn (dv_cpy hIo hB.1 hU hb52 ow_8 hb31 ow_18 (x := 0) (y := x54.toInt) (n := 9) hcp107 (by omega) (by omega) (by omega)))
    have hR : th_RC G Γ H107 := by
      have wz := tk_15
      have hF9 : th_F G Γ [(18, 0)] H72 H107 := th_F_tr hf87 hf107 (by decide)
      refine th_RC_p hB.1 hR hF9 (th_T_tr (th_T_c hb31 ro_18 hcp87) (th_T_c hb31 ro_18 hcp107)) (by decide) (fun q hq => (hcp107.2.1 q hq).trans (hcp87.2.1 q hq)) (th_PS_xy (k := (15 : Int32).toInt.toNat) (hR.2.1 _ _ (Or.inl hb31)) hcp87 (by omega) hcp107 (by omega) (fun c hc hne => ?_))
      rw [th_F_a hf87 hb52 ro_8 (by decide)]
      exact hR.1 _ _ h2 _ _ mb48 ((th_F_o hf87 h2 ro_3 (j := 4) (by decide) (by decide)).symm.trans mb52) c hc hne
    refine lv_aload_n hx hb dX4_note_110 rfl (lv_at hl 3 rfl) ?_
    refine th_getO (j := 2) (r2 := 6) hC cf_X1 hB.1 h2 ro_3 rfl rfl kf_X4_50 dX4_note_111 (fun b57 mb57 hb57 => ?_)
    refine lv_iconst (v := 0) hx hb dX4_note_114 (by decide) ?_
    refine lv_aload_n hx hb dX4_note_115 rfl (lv_at hl 1 rfl) ?_
    refine th_getK hC cf_X4 hB.1 h0 ro_17 rfl (j := 0) (by decide) mm55 kf_X4_11 dX4_note_116 ?_
    refine lv_iload_n hx hb dX4_note_119 rfl (lv_at hl 0 rfl) ?_
    refine lv_iconst (v := 3) hx hb dX4_note_120 (by decide) ?_
    refine tr_iadd hx hb dX4_note_121 (Eq.refl _) tk_3 (by omega) (by omega) (fun x58 ex58 => ?_)
    replace hF := hF.trans (dv_bn (ex58.symm))
    refine lv_bipush (v := 18) hx hb dX4_note_122 (by decide) ?_
    refine tr_iadd hx hb dX4_note_124 (Eq.refl _) tk_18 (by omega) (by omega) (fun x59 ex59 => ?_)
    replace hF := hF.trans (dv_bn (ex59.symm))
    refine lv_bipush (v := 9) hx hb dX4_note_125 (by decide) ?_
    have hIo := hB.1
    refine tr_acopy hC kac_X4_32 kw_nat kw_sta kw_sys hl.1 hB hb57 hb31 (Or.inl hb31) ro_6 ro_18 (by decide) tk_0 (Eq.refl _) tk_9 (by omega) (by omega) (by omega) (by omega) (by omega) (fun _ _ => rfl) (fun _ _ _ hv => hv) (Nat.le_of_ble_eq_true rfl) (Nat.le_of_ble_eq_true rfl) dX4_note_127 (fun H127 locs hB hf127 hcp127 => ?_)
    have hf := hf127
    have mm60 := (th_F_o hf h0 ro_17 (j := 0) (by decide) (by decide)).trans mm55
    have mm61 := (th_F_o hf h0 ro_17 (j := 4) (by decide) (by decide)).trans mm56
    replace hF := hF.trans (dv_bn (dv_cpy hIo hB.1 hU hb57 ow_6 hb31 ow_18 (x := 0) (y := x59.toInt) (n := 9) hcp127 (by omega) (by omega) (by omega)))
    have hR := th_RC_p hB.1 hR hf127 (th_T_c hb31 ro_18 hcp127) (by decide) hcp127.2.1 (th_PS_cpo (hR.2.1 b31 _ (Or.inl hb31)) hcp127 (by omega))
    refine lv_aload_n hx hb dX4_note_130 rfl (lv_at hl 1 rfl) ?_
    refine lv_dup hx hb dX4_note_131 rfl ?_
    refine th_getK hC cf_X4 hB.1 h0 ro_17 rfl (j := 4) (by decide) mm61 kf_X4_29 dX4_note_132 ?_
    replace hF := hF.trans (dv_bn ((dv_getI h0 ro_17 (j := 4) rfl mm61 (by decide)).trans tk_15))
    refine lv_iconst (v := 1) hx hb dX4_note_135 (by decide) ?_
    refine tr_iadd hx hb dX4_note_136 tk_15 tk_1 (by omega) (by omega) (fun x62 ex62 => ?_)
    replace hF := hF.trans (dv_bn (ex62.symm))
    refine th_put hC cf_X4 hB h0 (Or.inl h0) ro_17 rfl (j := 4) rfl (th_sI (by omega) (by omega)) (by decide) rfl rfl rfl kf_X4_29 dX4_note_137 (fun H137 locs hB hf hst137 => ?_)
    have mm63 := (th_F_o hf h0 ro_17 (j := 0) (by decide) (by decide)).trans mm60
    have hR := th_RC_F hB.1 hR hf (th_T_s h0 ro_17 hst137) (by decide)
    replace hF := hF.trans (dv_bn (dv_putI hB.1 h0 ro_17 (j := 4) rfl (th_apart hC cf_X4) hst137 (Eq.refl _) (by decide)))
    exact th_vret hC hH hr hlocks hB.2.1 ⟨rfl, hB.1, hB.2.2, hR, (hF0.symm.trans hF)⟩ dX4_note_140

set_option maxHeartbeats 4000000 in
set_option maxRecDepth 100000 in
theorem c_X4_takeBack (l : Launch) (G : th_G) (Γ : th_Ga) (H0 : Heap) (hI : th_I G Γ H0) (hR : th_RC G Γ H0) (hU : dv_U Γ) (a0 : Nat) (h0 : Γ a0 = (17, 0)) (p1 : Nat) (h1 : Γ p1 = (3, 0)) : Met l yX4_takeBack (.code yX4_takeBack cX4_takeBack 3 (some FieldType.int) :: th_tb) ({ frames := 1, cells := 0, slots := 0, locals := 40 } : Room) (th_P [.ref a0, .ref p1] G H0) (th_Q (fun (v : Option Value) (H1 : Heap) => ∃ r : Int32, v = some (.int r) ∧ th_I G Γ H1 ∧ th_F G Γ [(6, 0), (9, 0), (3, 10), (17, 4), (7, 0), (8, 0)] H0 H1 ∧ th_RC G Γ H1 ∧ (f_X4_takeBack (dv G Γ H0) (a0 : Int) (p1 : Int) = (dv G Γ H1, r.toInt))) G) 0 0 (fun q => G.2.2 ≤ q) := by
  refine th_met RX4 (by decide) rfl (Nat.le_of_ble_eq_true rfl) ?_
  intro p e s m below meth c hC hH hr hlocks hnm ls hl
  have hx := hC.1
  have hb := hC.2.1
  have hB : th_B G Γ Γ [(6, 0), (9, 0), (3, 10), (17, 4), (7, 0), (8, 0)] H0 H0 [] := ⟨hI, va_S.rf, th_F_rf⟩
  have hl : lv_has ls 3 [(0, .ref a0), (1, .ref p1)] := hl
  obtain ⟨F, hF0⟩ : ∃ F, F = f_X4_takeBack (dv G Γ H0) ((a0 : Int)) ((p1 : Int)) := ⟨_, rfl⟩
  have hF := hF0.trans (f_X4_takeBack.eq_1 (dv G Γ H0) ((a0 : Int)) ((p1 : Int)))
  refine lv_aload_n hx hb dX4_takeBack_0 rfl (lv_at hl 0 rfl) ?_
  refine th_getI (j := 4) hC cf_X4 hB.1 h0 ro_17 rfl rfl kf_X4_29 dX4_takeBack_1 (fun x1 mx1 lx1 ux1 => ?_)
  replace hF := hF.trans (dv_bn (dv_getI h0 ro_17 (j := 4) rfl mx1 (by decide)))
  refine tr_if_gt (tgt := 10) hx hb dX4_takeBack_4 (by decide) (Eq.refl _) (fun c4 => ?_) (fun c4 => ?_)
  · replace hF := hF.trans (if_pos c4)
    refine lv_aload_n hx hb dX4_takeBack_10 rfl (lv_at hl 0 rfl) ?_
    refine lv_dup hx hb dX4_takeBack_11 rfl ?_
    refine th_getK hC cf_X4 hB.1 h0 ro_17 rfl (j := 4) (by decide) mx1 kf_X4_29 dX4_takeBack_12 ?_
    replace hF := hF.trans (dv_bn (dv_getI h0 ro_17 (j := 4) rfl mx1 (by decide)))
    refine lv_iconst (v := 1) hx hb dX4_takeBack_15 (by decide) ?_
    refine tr_isub hx hb dX4_takeBack_16 (Eq.refl _) tk_1 (by omega) (by omega) (fun x2 ex2 => ?_)
    replace hF := hF.trans (dv_bn (ex2.symm))
    refine th_put hC cf_X4 hB h0 (Or.inl h0) ro_17 rfl (j := 4) rfl (th_sI (by omega) (by omega)) (by decide) rfl rfl rfl kf_X4_29 dX4_takeBack_17 (fun H17 locs hB hf hst17 => ?_)
    have hR := th_RC_F hB.1 hR hf (th_T_s h0 ro_17 hst17) (by decide)
    replace hF := hF.trans (dv_bn (dv_putI hB.1 h0 ro_17 (j := 4) rfl (th_apart hC cf_X4) hst17 (Eq.refl _) (by decide)))
    have mm3 := hst17.2.1
    refine lv_aload_n hx hb dX4_takeBack_20 rfl (lv_at hl 0 rfl) ?_
    refine th_getK hC cf_X4 hB.1 h0 ro_17 rfl (j := 4) (by decide) mm3 kf_X4_29 dX4_takeBack_21 ?_
    replace hF := hF.trans (dv_bn (dv_getI h0 ro_17 (j := 4) rfl mm3 (by decide)))
    refine lv_bipush (v := 30) hx hb dX4_takeBack_24 (by decide) ?_
    refine tr_imul hx hb dX4_takeBack_26 (Eq.refl _) tk_30 (by omega) (by omega) (fun x4 ex4 => ?_)
    replace hF := hF.trans (dv_bn (ex4.symm))
    refine lv_istore_n (lv' := [(2, .int x4), (0, .ref a0), (1, .ref p1)]) hx hb dX4_takeBack_27 rfl hl (by decide) rfl (fun ls hl => ?_)
    refine lv_aload_n hx hb dX4_takeBack_28 rfl (lv_at hl 2 rfl) ?_
    refine lv_aload_n hx hb dX4_takeBack_29 rfl (lv_at hl 1 rfl) ?_
    refine th_getO (j := 0) (r2 := 18) hC cf_X4 hB.1 h0 ro_17 rfl rfl kf_X4_11 dX4_takeBack_30 (fun b5 mb5 hb5 => ?_)
    have sb5 := (th_F_o hB.2.2 h0 ro_17 (j := 0) (by decide) (by decide)).symm.trans mb5
    refine lv_iload_n hx hb dX4_takeBack_33 rfl (lv_at hl 0 rfl) ?_
    refine lv_iconst (v := 1) hx hb dX4_takeBack_34 (by decide) ?_
    refine tr_iadd hx hb dX4_takeBack_35 (Eq.refl _) tk_1 (by omega) (by omega) (fun x6 ex6 => ?_)
    replace hF := hF.trans (dv_bn (ex6.symm))
    refine th_ialdF hC hB.1 hb5 ro_18 rfl (Eq.refl _) (by omega) (by omega) rfl dX4_takeBack_36 (fun x7 mx7 lx7 ux7 => ?_)
    replace hF := hF.trans (dv_bn (dv_aldI hB.1 hU hb5 ow_18 (z := x6.toInt) mx7 (by omega)))
    refine th_put hC cf_X1 hB h1 (Or.inl h1) ro_3 rfl (j := 10) rfl th_sIa (by decide) rfl rfl rfl kf_X4_38 dX4_takeBack_37 (fun H37 locs hB hf hst37 => ?_)
    have mm8 := (th_F_o hf h0 ro_17 (j := 4) (by decide) (by decide)).trans mm3
    have mm9 := (th_F_o hf h0 ro_17 (j := 0) (by decide) (by decide)).trans mb5
    have hR := th_RC_F hB.1 hR hf (th_T_s h1 ro_3 hst37) (by decide)
    replace hF := hF.trans (dv_bn (dv_putI hB.1 h1 ro_3 (j := 10) rfl (th_apart hC cf_X1) hst37 (Eq.refl _) (by decide)))
    refine lv_aload_n hx hb dX4_takeBack_40 rfl (lv_at hl 2 rfl) ?_
    refine th_getO (j := 5) (r2 := 9) hC cf_X1 hB.1 h1 ro_3 rfl rfl kf_X4_41 dX4_takeBack_41 (fun b10 mb10 hb10 => ?_)
    refine lv_iconst (v := 0) hx hb dX4_takeBack_44 (by decide) ?_
    refine lv_aload_n hx hb dX4_takeBack_45 rfl (lv_at hl 1 rfl) ?_
    refine th_getK hC cf_X4 hB.1 h0 ro_17 rfl (j := 0) (by decide) mm9 kf_X4_11 dX4_takeBack_46 ?_
    refine lv_iload_n hx hb dX4_takeBack_49 rfl (lv_at hl 0 rfl) ?_
    refine lv_iconst (v := 2) hx hb dX4_takeBack_50 (by decide) ?_
    refine tr_iadd hx hb dX4_takeBack_51 (Eq.refl _) tk_2 (by omega) (by omega) (fun x11 ex11 => ?_)
    replace hF := hF.trans (dv_bn (ex11.symm))
    refine th_ialdF hC hB.1 hb5 ro_18 rfl (Eq.refl _) (by omega) (by omega) rfl dX4_takeBack_52 (fun x12 mx12 lx12 ux12 => ?_)
    replace hF := hF.trans (dv_bn (dv_aldI hB.1 hU hb5 ow_18 (z := x11.toInt) mx12 (by omega)))
    have hIo := hB.1
    refine th_iastF hC hB hb10 (Or.inl hb10) ro_9 rfl (by decide) tk_0 (by omega) (by omega) th_sIa dX4_takeBack_53 (fun H53 locs hB hf53 hst53 => ?_)
    have hf := hf53
    have mm13 := (th_F_o hf h0 ro_17 (j := 4) (by decide) (by decide)).trans mm8
    have mm14 := (th_F_o hf h0 ro_17 (j := 0) (by decide) (by decide)).trans mm9
    have hR := th_RC_F hB.1 hR hf (th_T_s hb10 ro_9 hst53) (by decide)
    replace hF := hF.trans (dv_bn (dv_stoI hIo hB.1 hU hb10 ow_9 (i := 0) hst53 (Eq.refl _) (by omega)))
    refine lv_aload_n hx hb dX4_takeBack_54 rfl (lv_at hl 1 rfl) ?_
    refine th_getK hC cf_X4 hB.1 h0 ro_17 rfl (j := 0) (by decide) mm14 kf_X4_11 dX4_takeBack_55 ?_
    refine lv_iload_n hx hb dX4_takeBack_58 rfl (lv_at hl 0 rfl) ?_
    refine lv_iconst (v := 3) hx hb dX4_takeBack_59 (by decide) ?_
    refine tr_iadd hx hb dX4_takeBack_60 (Eq.refl _) tk_3 (by omega) (by omega) (fun x15 ex15 => ?_)
    replace hF := hF.trans (dv_bn (ex15.symm))
    refine lv_aload_n hx hb dX4_takeBack_61 rfl (lv_at hl 2 rfl) ?_
    refine th_getO (j := 3) (r2 := 7) hC cf_X1 hB.1 h1 ro_3 rfl rfl kf_X4_44 dX4_takeBack_62 (fun b16 mb16 hb16 => ?_)
    refine lv_iconst (v := 0) hx hb dX4_takeBack_65 (by decide) ?_
    refine lv_bipush (v := 9) hx hb dX4_takeBack_66 (by decide) ?_
    have hIo := hB.1
    refine tr_acopy hC kac_X4_32 kw_nat kw_sta kw_sys hl.1 hB hb5 hb16 (Or.inl hb16) ro_18 ro_7 (by decide) (Eq.refl _) tk_0 tk_9 (by omega) (by omega) (by omega) (by omega) (by omega) (fun _ _ => rfl) (fun _ _ _ hv => hv) (Nat.le_of_ble_eq_true rfl) (Nat.le_of_ble_eq_true rfl) dX4_takeBack_68 (fun H68 locs hB hf68 hcp68 => ?_)
    have hf := hf68
    have mm17 := (th_F_o hf h0 ro_17 (j := 4) (by decide) (by decide)).trans mm13
    have mm18 := (th_F_o hf h0 ro_17 (j := 0) (by decide) (by decide)).trans mm14
    replace hF := hF.trans (dv_bn (dv_cpy hIo hB.1 hU hb5 ow_18 hb16 ow_7 (x := x15.toInt) (y := 0) (n := 9) hcp68 (by omega) (by omega) (by omega)))
    refine lv_aload_n hx hb dX4_takeBack_71 rfl (lv_at hl 1 rfl) ?_
    refine th_getK hC cf_X4 hB.1 h0 ro_17 rfl (j := 0) (by decide) mm18 kf_X4_11 dX4_takeBack_72 ?_
    refine lv_iload_n hx hb dX4_takeBack_75 rfl (lv_at hl 0 rfl) ?_
    refine lv_iconst (v := 3) hx hb dX4_takeBack_76 (by decide) ?_
    refine tr_iadd hx hb dX4_takeBack_77 (Eq.refl _) tk_3 (by omega) (by omega) (fun x19 ex19 => ?_)
    replace hF := hF.trans (dv_bn (ex19.symm))
    refine lv_bipush (v := 9) hx hb dX4_takeBack_78 (by decide) ?_
    refine tr_iadd hx hb dX4_takeBack_80 (Eq.refl _) tk_9 (by omega) (by omega) (fun x20 ex20 => ?_)
    replace hF := hF.trans (dv_bn (ex20.symm))
    refine lv_aload_n hx hb dX4_takeBack_81 rfl (lv_at hl 2 rfl) ?_
    refine th_getO (j := 4) (r2 := 8) hC cf_X1 hB.1 h1 ro_3 rfl rfl kf_X4_47 dX4_takeBack_82 (fun b21 mb21 hb21 => ?_)
    refine lv_iconst (v := 0) hx hb dX4_takeBack_85 (by decide) ?_
    refine lv_bipush (v := 9) hx hb dX4_takeBack_86 (by decide) ?_
    have hIo := hB.1
    refine tr_acopy hC kac_X4_32 kw_nat kw_sta kw_sys hl.1 hB hb5 hb21 (Or.inl hb21) ro_18 ro_8 (by decide) (Eq.refl _) tk_0 tk_9 (by omega) (by omega) (by omega) (by omega) (by omega) (fun _ _ => rfl) (fun _ _ _ hv => hv) (Nat.le_of_ble_eq_true rfl) (Nat.le_of_ble_eq_true rfl) dX4_takeBack_88 (fun H88 locs hB hf88 hcp88 => ?_)
    have hf := hf88
    have mm22 := (th_F_o hf h0 ro_17 (j := 4) (by decide) (by decide)).trans mm17
    have mm23 := (th_F_o hf h0 ro_17 (j := 0) (by decide) (by decide)).trans mm18
    replace hF := hF.trans (dv_bn (dv_cpy hIo hB.1 hU hb5 ow_18 hb21 ow_8 (x := x20.toInt) (y := 0) (n := 9) hcp88 (by omega) (by omega) (by omega)))
    have hR := th_RC_tb hB.1 hR h1 hb16 hb21 hb5 mb16 mb21 (k := (x2 : Int32).toInt.toNat) hcp68 (by omega) (by omega) hcp88 (by omega) hf68 hf88
    refine lv_aload_n hx hb dX4_takeBack_91 rfl (lv_at hl 1 rfl) ?_
    refine th_getK hC cf_X4 hB.1 h0 ro_17 rfl (j := 0) (by decide) mm23 kf_X4_11 dX4_takeBack_92 ?_
    refine lv_iload_n hx hb dX4_takeBack_95 rfl (lv_at hl 0 rfl) ?_
    refine lv_iconst (v := 3) hx hb dX4_takeBack_96 (by decide) ?_
    refine tr_iadd hx hb dX4_takeBack_97 (Eq.refl _) tk_3 (by omega) (by omega) (fun x24 ex24 => ?_)
    replace hF := hF.trans (dv_bn (ex24.symm))
    refine lv_bipush (v := 18) hx hb dX4_takeBack_98 (by decide) ?_
    refine tr_iadd hx hb dX4_takeBack_100 (Eq.refl _) tk_18 (by omega) (by omega) (fun x25 ex25 => ?_)
    replace hF := hF.trans (dv_bn (ex25.symm))
    refine lv_aload_n hx hb dX4_takeBack_101 rfl (lv_at hl 2 rfl) ?_
    refine th_getO (j := 2) (r2 := 6) hC cf_X1 hB.1 h1 ro_3 rfl rfl kf_X4_50 dX4_takeBack_102 (fun b26 mb26 hb26 => ?_)
    refine lv_iconst (v := 0) hx hb dX4_takeBack_105 (by decide) ?_
    refine lv_bipush (v := 9) hx hb dX4_takeBack_106 (by decide) ?_
    have hIo := hB.1
    refine tr_acopy hC kac_X4_32 kw_nat kw_sta kw_sys hl.1 hB hb5 hb26 (Or.inl hb26) ro_18 ro_6 (by decide) (Eq.refl _) tk_0 tk_9 (by omega) (by omega) (by omega) (by omega) (by omega) (fun _ _ => rfl) (fun _ _ _ hv => hv) (Nat.le_of_ble_eq_true rfl) (Nat.le_of_ble_eq_true rfl) dX4_takeBack_108 (fun H108 locs hB hf108 hcp108 => ?_)
    have hf := hf108
    have mm27 := (th_F_o hf h0 ro_17 (j := 4) (by decide) (by decide)).trans mm22
    have mm28 := (th_F_o hf h0 ro_17 (j := 0) (by decide) (by decide)).trans mm23
    have hR := th_RC_F hB.1 hR hf (th_T_c hb26 ro_6 hcp108) (by decide)
    replace hF := hF.trans (dv_bn (dv_cpy hIo hB.1 hU hb5 ow_18 hb26 ow_6 (x := x25.toInt) (y := 0) (n := 9) hcp108 (by omega) (by omega) (by omega)))
    refine lv_aload_n hx hb dX4_takeBack_111 rfl (lv_at hl 1 rfl) ?_
    refine th_getK hC cf_X4 hB.1 h0 ro_17 rfl (j := 0) (by decide) mm28 kf_X4_11 dX4_takeBack_112 ?_
    refine lv_iload_n hx hb dX4_takeBack_115 rfl (lv_at hl 0 rfl) ?_
    refine th_ialdF hC hB.1 hb5 ro_18 rfl (Eq.refl _) (by omega) (by omega) rfl dX4_takeBack_116 (fun x29 mx29 lx29 ux29 => ?_)
    replace hF := hF.trans (dv_bn (dv_aldI hB.1 hU hb5 ow_18 (z := x4.toInt) mx29 (by omega)))
    exact th_iret hC hH hr hlocks rfl hB.2.1 ⟨_, rfl, hB.1, hB.2.2, hR, (hF0.symm.trans hF)⟩ dX4_takeBack_117
  · replace hF := hF.trans (if_neg (Int.not_lt.mpr c4))
    refine lv_bipush (v := (-3)) hx hb dX4_takeBack_7 (by decide) ?_
    exact th_iret hC hH hr hlocks rfl hB.2.1 ⟨_, rfl, hB.1, hB.2.2, hR, (hF0.symm.trans (hF.trans (by rw [tk_m3])))⟩ dX4_takeBack_9

set_option maxHeartbeats 4000000 in
set_option maxRecDepth 100000 in
theorem c_X4_save (l : Launch) (G : th_G) (Γ : th_Ga) (H0 : Heap) (hI : th_I G Γ H0) (hR : th_RC G Γ H0) (hU : dv_U Γ) (a0 : Nat) (h0 : Γ a0 = (17, 0)) (p1 : Nat) (h1 : Γ p1 = (3, 0)) : Met l yX4_save (.code yX4_save cX4_save 2 (none) :: th_tb) ({ frames := 2, cells := 0, slots := 0, locals := 61 } : Room) (th_P [.ref a0, .ref p1] G H0) (th_Q (fun (v : Option Value) (H1 : Heap) => v = none ∧ th_I G Γ H1 ∧ th_F G Γ [(4, 0), (5, 0), (6, 0), (9, 0), (3, 7), (3, 8), (3, 9), (3, 10), (7, 0), (8, 0), (19, 0), (17, 3)] H0 H1 ∧ th_RC G Γ H1 ∧ (f_X4_save (dv G Γ H0) (a0 : Int) (p1 : Int) = (dv G Γ H1, 0))) G) 0 0 (fun q => G.2.2 ≤ q) := by
  refine th_met RX4 (by decide) rfl (Nat.le_of_ble_eq_true rfl) ?_
  intro p e s m below meth c hC hH hr hlocks hnm ls hl
  have hx := hC.1
  have hb := hC.2.1
  have hB : th_B G Γ Γ [(4, 0), (5, 0), (6, 0), (9, 0), (3, 7), (3, 8), (3, 9), (3, 10), (7, 0), (8, 0), (19, 0), (17, 3)] H0 H0 [] := ⟨hI, va_S.rf, th_F_rf⟩
  have hl : lv_has ls 2 [(0, .ref a0), (1, .ref p1)] := hl
  obtain ⟨F, hF0⟩ : ∃ F, F = f_X4_save (dv G Γ H0) ((a0 : Int)) ((p1 : Int)) := ⟨_, rfl⟩
  have hF := hF0.trans (f_X4_save.eq_1 (dv G Γ H0) ((a0 : Int)) ((p1 : Int)))
  refine lv_aload_n hx hb dX4_save_0 rfl (lv_at hl 0 rfl) ?_
  refine th_getR (j := 2) (r2 := 3) hC cf_X4 hB.1 h0 ro_17 rfl rfl kf_X4_21 dX4_save_1 (fun b1 mb1 hb1 => ?_)
  replace hF := hF.trans (dv_bn (dv_getR h0 ro_17 (j := 2) rfl mb1 (by decide)))
  refine lv_aload_n hx hb dX4_save_4 rfl (lv_at hl 1 rfl) ?_
  refine th_call (th_runV (As := [.ref p1]) (rest := []) hC mf_X1_copyFrom km_X4_53 im_X1_copyFrom se_X1_copyFrom (c_X1_copyFrom l G Γ H0 hB.1 hR hU b1 hb1 p1 h1) rfl rfl ⟨Nat.le_of_ble_eq_true rfl, Nat.le_of_ble_eq_true rfl⟩ hB.1 hb1 ro_3 rfl rfl hl.1 rfl (Nat.le_of_ble_eq_true rfl) dX4_save_5 ⟨Nat.le_refl _, Nat.le_refl _⟩) hB.2.1 (fun v5 H5 locs hp hz hS => ?_)
  obtain ⟨rfl, hI1, hf, hR, z5_0⟩ := hp
  have hB := th_B_c hB hI1 hS hf (by decide)
  replace hF := hF.trans (dv_bn2 (z5_0))
  refine W.eq (g2 := F0 m 8 ls []) rfl ?_
  refine lv_aload_n hx hb dX4_save_8 rfl (lv_at hl 0 rfl) ?_
  refine th_getO (j := 0) (r2 := 18) hC cf_X4 hB.1 h0 ro_17 rfl rfl kf_X4_11 dX4_save_9 (fun b2 mb2 hb2 => ?_)
  have sb2 := (th_F_o hB.2.2 h0 ro_17 (j := 0) (by decide) (by decide)).symm.trans mb2
  refine lv_iconst (v := 0) hx hb dX4_save_12 (by decide) ?_
  refine lv_aload_n hx hb dX4_save_13 rfl (lv_at hl 0 rfl) ?_
  refine th_getO (j := 1) (r2 := 19) hC cf_X4 hB.1 h0 ro_17 rfl rfl kf_X4_15 dX4_save_14 (fun b3 mb3 hb3 => ?_)
  refine lv_iconst (v := 0) hx hb dX4_save_17 (by decide) ?_
  refine lv_aload_n hx hb dX4_save_18 rfl (lv_at hl 0 rfl) ?_
  refine th_getK hC cf_X4 hB.1 h0 ro_17 rfl (j := 0) (by decide) mb2 kf_X4_11 dX4_save_19 ?_
  refine th_alen hC hB.1 hb2 ro_18 rfl (by decide) dX4_save_22 (fun x4 ex4 lx4 ux4 => ?_)
  replace hF := hF.trans (dv_bn ((show (480 : Int) = x4.toInt from by omega)))
  have hIo := hB.1
  refine tr_acopy hC kac_X4_32 kw_nat kw_sta kw_sys hl.1 hB hb2 hb3 (Or.inl hb3) ro_18 ro_19 (by decide) tk_0 tk_0 (Eq.refl _) (by omega) (by omega) (by omega) (by omega) (by omega) (fun _ _ => rfl) (fun _ _ _ hv => hv) (Nat.le_of_ble_eq_true rfl) (Nat.le_of_ble_eq_true rfl) dX4_save_23 (fun H23 locs hB hf23 hcp23 => ?_)
  have hf := hf23
  have mm5 := (th_F_o hf h0 ro_17 (j := 0) (by decide) (by decide)).trans mb2
  replace hF := hF.trans (dv_bn (dv_cpy hIo hB.1 hU hb2 ow_18 hb3 ow_19 (x := 0) (y := 0) (n := x4.toInt) hcp23 (by omega) (by omega) (by omega)))
  have hR := th_RC_p hB.1 hR hf23 (th_T_c hb3 ro_19 hcp23) (by decide) hcp23.2.1 (th_PS_all (hR.2.1 _ _ (Or.inl hb2)) (by have := hcp23; rw [show x4.toInt = 480 by omega] at this; exact this))
  refine lv_aload_n hx hb dX4_save_26 rfl (lv_at hl 0 rfl) ?_
  refine lv_aload_n hx hb dX4_save_27 rfl (lv_at hl 0 rfl) ?_
  refine th_getI (j := 4) hC cf_X4 hB.1 h0 ro_17 rfl rfl kf_X4_29 dX4_save_28 (fun x6 mx6 lx6 ux6 => ?_)
  replace hF := hF.trans (dv_bn (dv_getI h0 ro_17 (j := 4) rfl mx6 (by decide)))
  refine th_put hC cf_X4 hB h0 (Or.inl h0) ro_17 rfl (j := 3) rfl (th_sI (by omega) (by omega)) (by decide) rfl rfl rfl kf_X4_25 dX4_save_31 (fun H31 locs hB hf hst31 => ?_)
  have mm7 := (th_F_o hf h0 ro_17 (j := 0) (by decide) (by decide)).trans mm5
  have hR := th_RC_F hB.1 hR hf (th_T_s h0 ro_17 hst31) (by decide)
  replace hF := hF.trans (dv_bn (dv_putI hB.1 h0 ro_17 (j := 3) rfl (th_apart hC cf_X4) hst31 (Eq.refl _) (by decide)))
  exact th_vret hC hH hr hlocks hB.2.1 ⟨rfl, hB.1, hB.2.2, hR, (hF0.symm.trans hF)⟩ dX4_save_34

set_option maxHeartbeats 4000000 in
set_option maxRecDepth 100000 in
theorem c_X4_restore (l : Launch) (G : th_G) (Γ : th_Ga) (H0 : Heap) (hI : th_I G Γ H0) (hR : th_RC G Γ H0) (hU : dv_U Γ) (a0 : Nat) (h0 : Γ a0 = (17, 0)) (p1 : Nat) (h1 : Γ p1 = (3, 0)) : Met l yX4_restore (.code yX4_restore cX4_restore 2 (none) :: th_tb) ({ frames := 2, cells := 0, slots := 0, locals := 61 } : Room) (th_P [.ref a0, .ref p1] G H0) (th_Q (fun (v : Option Value) (H1 : Heap) => v = none ∧ th_I G Γ H1 ∧ th_F G Γ [(4, 0), (5, 0), (6, 0), (9, 0), (3, 7), (3, 8), (3, 9), (3, 10), (7, 0), (8, 0), (18, 0), (17, 4)] H0 H1 ∧ th_RC G Γ H1 ∧ (f_X4_restore (dv G Γ H0) (a0 : Int) (p1 : Int) = (dv G Γ H1, 0))) G) 0 0 (fun q => G.2.2 ≤ q) := by
  refine th_met RX4 (by decide) rfl (Nat.le_of_ble_eq_true rfl) ?_
  intro p e s m below meth c hC hH hr hlocks hnm ls hl
  have hx := hC.1
  have hb := hC.2.1
  have hB : th_B G Γ Γ [(4, 0), (5, 0), (6, 0), (9, 0), (3, 7), (3, 8), (3, 9), (3, 10), (7, 0), (8, 0), (18, 0), (17, 4)] H0 H0 [] := ⟨hI, va_S.rf, th_F_rf⟩
  have hl : lv_has ls 2 [(0, .ref a0), (1, .ref p1)] := hl
  obtain ⟨F, hF0⟩ : ∃ F, F = f_X4_restore (dv G Γ H0) ((a0 : Int)) ((p1 : Int)) := ⟨_, rfl⟩
  have hF := hF0.trans (f_X4_restore.eq_1 (dv G Γ H0) ((a0 : Int)) ((p1 : Int)))
  refine lv_aload_n hx hb dX4_restore_0 rfl (lv_at hl 1 rfl) ?_
  refine lv_aload_n hx hb dX4_restore_1 rfl (lv_at hl 0 rfl) ?_
  refine th_getR (j := 2) (r2 := 3) hC cf_X4 hB.1 h0 ro_17 rfl rfl kf_X4_21 dX4_restore_2 (fun b1 mb1 hb1 => ?_)
  replace hF := hF.trans (dv_bn (dv_getR h0 ro_17 (j := 2) rfl mb1 (by decide)))
  refine th_call (th_runV (As := [.ref b1]) (rest := []) hC mf_X1_copyFrom km_X4_53 im_X1_copyFrom se_X1_copyFrom (c_X1_copyFrom l G Γ H0 hB.1 hR hU p1 h1 b1 hb1) rfl rfl ⟨Nat.le_of_ble_eq_true rfl, Nat.le_of_ble_eq_true rfl⟩ hB.1 h1 ro_3 rfl rfl hl.1 rfl (Nat.le_of_ble_eq_true rfl) dX4_restore_5 ⟨Nat.le_refl _, Nat.le_refl _⟩) hB.2.1 (fun v5 H5 locs hp hz hS => ?_)
  obtain ⟨rfl, hI1, hf, hR, z5_0⟩ := hp
  have hB := th_B_c hB hI1 hS hf (by decide)
  replace hF := hF.trans (dv_bn2 (z5_0))
  refine W.eq (g2 := F0 m 8 ls []) rfl ?_
  refine lv_aload_n hx hb dX4_restore_8 rfl (lv_at hl 0 rfl) ?_
  refine th_getO (j := 1) (r2 := 19) hC cf_X4 hB.1 h0 ro_17 rfl rfl kf_X4_15 dX4_restore_9 (fun b2 mb2 hb2 => ?_)
  refine lv_iconst (v := 0) hx hb dX4_restore_12 (by decide) ?_
  refine lv_aload_n hx hb dX4_restore_13 rfl (lv_at hl 0 rfl) ?_
  refine th_getO (j := 0) (r2 := 18) hC cf_X4 hB.1 h0 ro_17 rfl rfl kf_X4_11 dX4_restore_14 (fun b3 mb3 hb3 => ?_)
  have sb3 := (th_F_o hB.2.2 h0 ro_17 (j := 0) (by decide) (by decide)).symm.trans mb3
  refine lv_iconst (v := 0) hx hb dX4_restore_17 (by decide) ?_
  refine lv_aload_n hx hb dX4_restore_18 rfl (lv_at hl 0 rfl) ?_
  refine th_getK hC cf_X4 hB.1 h0 ro_17 rfl (j := 0) (by decide) mb3 kf_X4_11 dX4_restore_19 ?_
  refine th_alen hC hB.1 hb3 ro_18 rfl (by decide) dX4_restore_22 (fun x4 ex4 lx4 ux4 => ?_)
  replace hF := hF.trans (dv_bn ((show (480 : Int) = x4.toInt from by omega)))
  have hIo := hB.1
  refine tr_acopy hC kac_X4_32 kw_nat kw_sta kw_sys hl.1 hB hb2 hb3 (Or.inl hb3) ro_19 ro_18 (by decide) tk_0 tk_0 (Eq.refl _) (by omega) (by omega) (by omega) (by omega) (by omega) (fun _ _ => rfl) (fun _ _ _ hv => hv) (Nat.le_of_ble_eq_true rfl) (Nat.le_of_ble_eq_true rfl) dX4_restore_23 (fun H23 locs hB hf23 hcp23 => ?_)
  have hf := hf23
  have mm5 := (th_F_o hf h0 ro_17 (j := 0) (by decide) (by decide)).trans mb3
  replace hF := hF.trans (dv_bn (dv_cpy hIo hB.1 hU hb2 ow_19 hb3 ow_18 (x := 0) (y := 0) (n := x4.toInt) hcp23 (by omega) (by omega) (by omega)))
  have hR := th_RC_p hB.1 hR hf23 (th_T_c hb3 ro_18 hcp23) (by decide) hcp23.2.1 (th_PS_all (hR.2.1 _ _ (Or.inr hb2)) (by have := hcp23; rw [show x4.toInt = 480 by omega] at this; exact this))
  refine lv_aload_n hx hb dX4_restore_26 rfl (lv_at hl 0 rfl) ?_
  refine lv_aload_n hx hb dX4_restore_27 rfl (lv_at hl 0 rfl) ?_
  refine th_getI (j := 3) hC cf_X4 hB.1 h0 ro_17 rfl rfl kf_X4_25 dX4_restore_28 (fun x6 mx6 lx6 ux6 => ?_)
  replace hF := hF.trans (dv_bn (dv_getI h0 ro_17 (j := 3) rfl mx6 (by decide)))
  refine th_put hC cf_X4 hB h0 (Or.inl h0) ro_17 rfl (j := 4) rfl (th_sI (by omega) (by omega)) (by decide) rfl rfl rfl kf_X4_29 dX4_restore_31 (fun H31 locs hB hf hst31 => ?_)
  have mm7 := (th_F_o hf h0 ro_17 (j := 0) (by decide) (by decide)).trans mm5
  have hR := th_RC_F hB.1 hR hf (th_T_s h0 ro_17 hst31) (by decide)
  replace hF := hF.trans (dv_bn (dv_putI hB.1 h0 ro_17 (j := 4) rfl (th_apart hC cf_X4) hst31 (Eq.refl _) (by decide)))
  exact th_vret hC hH hr hlocks hB.2.1 ⟨rfl, hB.1, hB.2.2, hR, (hF0.symm.trans hF)⟩ dX4_restore_34

set_option maxHeartbeats 4000000 in
set_option maxRecDepth 100000 in
theorem c_X4_clear (l : Launch) (G : th_G) (Γ : th_Ga) (H0 : Heap) (hI : th_I G Γ H0) (hR : th_RC G Γ H0) (hU : dv_U Γ) (a0 : Nat) (h0 : Γ a0 = (17, 0)) : Met l yX4_clear (.code yX4_clear cX4_clear 1 (none) :: th_tb) ({ frames := 0, cells := 0, slots := 0, locals := 0 } : Room) (th_P [.ref a0] G H0) (th_Q (fun (v : Option Value) (H1 : Heap) => v = none ∧ th_I G Γ H1 ∧ th_F G Γ [(17, 4)] H0 H1 ∧ th_RC G Γ H1 ∧ (f_X4_clear (dv G Γ H0) (a0 : Int) = (dv G Γ H1, 0))) G) 0 0 (fun q => G.2.2 ≤ q) := by
  refine th_met RX4 (by decide) rfl (Nat.le_of_ble_eq_true rfl) ?_
  intro p e s m below meth c hC hH hr hlocks hnm ls hl
  have hx := hC.1
  have hb := hC.2.1
  have hB : th_B G Γ Γ [(17, 4)] H0 H0 [] := ⟨hI, va_S.rf, th_F_rf⟩
  have hl : lv_has ls 1 [(0, .ref a0)] := hl
  obtain ⟨F, hF0⟩ : ∃ F, F = f_X4_clear (dv G Γ H0) ((a0 : Int)) := ⟨_, rfl⟩
  have hF := hF0.trans (f_X4_clear.eq_1 (dv G Γ H0) ((a0 : Int)))
  refine lv_aload_n hx hb dX4_clear_0 rfl (lv_at hl 0 rfl) ?_
  refine lv_iconst (v := 0) hx hb dX4_clear_1 (by decide) ?_
  refine th_put hC cf_X4 hB h0 (Or.inl h0) ro_17 rfl (j := 4) rfl (th_sI (by decide) (by decide)) (by decide) rfl rfl rfl kf_X4_29 dX4_clear_2 (fun H2 locs hB hf hst2 => ?_)
  have hR := th_RC_F hB.1 hR hf (th_T_s h0 ro_17 hst2) (by decide)
  replace hF := hF.trans (dv_bn (dv_putI hB.1 h0 ro_17 (j := 4) rfl (th_apart hC cf_X4) hst2 tk_0 (by decide)))
  exact th_vret hC hH hr hlocks hB.2.1 ⟨rfl, hB.1, hB.2.2, hR, (hF0.symm.trans hF)⟩ dX4_clear_5
