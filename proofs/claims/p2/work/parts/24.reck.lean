set_option maxHeartbeats 4000000 in
set_option maxRecDepth 100000 in
theorem c_X6_setLawWords (l : Launch) (G : th_G) (Γ : th_Ga) (H0 : Heap) (hI : th_I G Γ H0) (hR : th_RC G Γ H0) (hU : dv_U Γ) (a0 : Nat) (h0 : Γ a0 = (23, 0)) (p1 : Nat) (h1 : Γ p1 = (3, 0)) (p2 : Int32) (f2 : 0 ≤ p2.toInt) (g2 : p2.toInt ≤ 8) (p3 : Int32) (p4 : Int32) : Met l yX6_setLawWords (.code yX6_setLawWords cX6_setLawWords 5 (none) :: th_tb) ({ frames := 0, cells := 0, slots := 0, locals := 0 } : Room) (th_P [.ref a0, .ref p1, .int p2, .int p3, .int p4] G H0) (th_Q (fun (v : Option Value) (H1 : Heap) => v = none ∧ th_I G Γ H1 ∧ th_F G Γ [(25, 0)] H0 H1 ∧ th_RC G Γ H1 ∧ (f_X6_setLawWords (dv G Γ H0) (a0 : Int) (p1 : Int) p2.toInt p3.toInt p4.toInt = (dv G Γ H1, 0))) G) 0 0 (fun q => G.2.2 ≤ q) := by
  refine th_met RX6 (by decide) rfl (Nat.le_of_ble_eq_true rfl) ?_
  intro p e s m below meth c hC hH hr hlocks hnm ls hl
  have hx := hC.1
  have hb := hC.2.1
  have hB : th_B G Γ Γ [(25, 0)] H0 H0 [] := ⟨hI, va_S.rf, th_F_rf⟩
  have hl : lv_has ls 5 [(0, .ref a0), (1, .ref p1), (2, .int p2), (3, .int p3), (4, .int p4)] := hl
  have lp2 := ti_lo p2; have up2 := ti_hi p2
  have lp3 := ti_lo p3; have up3 := ti_hi p3
  have lp4 := ti_lo p4; have up4 := ti_hi p4
  obtain ⟨F, hF0⟩ : ∃ F, F = f_X6_setLawWords (dv G Γ H0) ((a0 : Int)) ((p1 : Int)) (p2.toInt) (p3.toInt) (p4.toInt) := ⟨_, rfl⟩
  have hF := hF0.trans (f_X6_setLawWords.eq_1 (dv G Γ H0) ((a0 : Int)) ((p1 : Int)) (p2.toInt) (p3.toInt) (p4.toInt))
  refine lv_aload_n hx hb dX6_setLawWords_0 rfl (lv_at hl 0 rfl) ?_
  refine th_getO (j := 1) (r2 := 25) hC cf_X6 hB.1 h0 ro_23 rfl rfl kf_X6_17 dX6_setLawWords_1 (fun b1 mb1 hb1 => ?_)
  refine lv_iconst (v := 0) hx hb dX6_setLawWords_4 (by decide) ?_
  refine lv_iload_n hx hb dX6_setLawWords_5 rfl (lv_at hl 2 rfl) ?_
  have hIo := hB.1
  refine th_iastF hC hB hb1 (Or.inl hb1) ro_25 rfl (by decide) tk_0 (by omega) (by omega) th_sIa dX6_setLawWords_6 (fun H6 locs hB hf6 hst6 => ?_)
  have hf := hf6
  have mm2 := (th_F_o hf h0 ro_23 (j := 1) (by decide) (by decide)).trans mb1
  have hR := th_RC_F hB.1 hR hf (th_T_s hb1 ro_25 hst6) (by decide)
  replace hF := hF.trans (dv_bn (dv_stoI hIo hB.1 hU hb1 ow_25 (i := 0) hst6 (Eq.refl _) (by omega)))
  refine lv_aload_n hx hb dX6_setLawWords_7 rfl (lv_at hl 0 rfl) ?_
  refine th_getK hC cf_X6 hB.1 h0 ro_23 rfl (j := 1) (by decide) mm2 kf_X6_17 dX6_setLawWords_8 ?_
  refine lv_iconst (v := 1) hx hb dX6_setLawWords_11 (by decide) ?_
  refine lv_aload_n hx hb dX6_setLawWords_12 rfl (lv_at hl 1 rfl) ?_
  refine th_getO (j := 0) (r2 := 4) hC cf_X1 hB.1 h1 ro_3 rfl rfl kf_X6_30 dX6_setLawWords_13 (fun b3 mb3 hb3 => ?_)
  refine lv_iload_n hx hb dX6_setLawWords_16 rfl (lv_at hl 2 rfl) ?_
  refine th_ialdF hC hB.1 hb3 ro_4 rfl (Eq.refl _) (by omega) (by omega) rfl dX6_setLawWords_17 (fun x4 mx4 lx4 ux4 => ?_)
  replace hF := hF.trans (dv_bn (dv_aldI hB.1 hU hb3 ow_4 (z := p2.toInt) mx4 (by omega)))
  have hIo := hB.1
  refine th_iastF hC hB hb1 (Or.inl hb1) ro_25 rfl (by decide) tk_1 (by omega) (by omega) th_sIa dX6_setLawWords_18 (fun H18 locs hB hf18 hst18 => ?_)
  have hf := hf18
  have mm5 := (th_F_o hf h0 ro_23 (j := 1) (by decide) (by decide)).trans mm2
  have hR := th_RC_F hB.1 hR hf (th_T_s hb1 ro_25 hst18) (by decide)
  replace hF := hF.trans (dv_bn (dv_stoI hIo hB.1 hU hb1 ow_25 (i := 1) hst18 (Eq.refl _) (by omega)))
  refine lv_aload_n hx hb dX6_setLawWords_19 rfl (lv_at hl 0 rfl) ?_
  refine th_getK hC cf_X6 hB.1 h0 ro_23 rfl (j := 1) (by decide) mm5 kf_X6_17 dX6_setLawWords_20 ?_
  refine lv_iconst (v := 2) hx hb dX6_setLawWords_23 (by decide) ?_
  refine lv_aload_n hx hb dX6_setLawWords_24 rfl (lv_at hl 1 rfl) ?_
  refine th_getO (j := 1) (r2 := 5) hC cf_X1 hB.1 h1 ro_3 rfl rfl kf_X6_35 dX6_setLawWords_25 (fun b6 mb6 hb6 => ?_)
  refine lv_iload_n hx hb dX6_setLawWords_28 rfl (lv_at hl 2 rfl) ?_
  refine th_ialdF hC hB.1 hb6 ro_5 rfl (Eq.refl _) (by omega) (by omega) rfl dX6_setLawWords_29 (fun x7 mx7 lx7 ux7 => ?_)
  replace hF := hF.trans (dv_bn (dv_aldI hB.1 hU hb6 ow_5 (z := p2.toInt) mx7 (by omega)))
  have hIo := hB.1
  refine th_iastF hC hB hb1 (Or.inl hb1) ro_25 rfl (by decide) tk_2 (by omega) (by omega) th_sIa dX6_setLawWords_30 (fun H30 locs hB hf30 hst30 => ?_)
  have hf := hf30
  have mm8 := (th_F_o hf h0 ro_23 (j := 1) (by decide) (by decide)).trans mm5
  have hR := th_RC_F hB.1 hR hf (th_T_s hb1 ro_25 hst30) (by decide)
  replace hF := hF.trans (dv_bn (dv_stoI hIo hB.1 hU hb1 ow_25 (i := 2) hst30 (Eq.refl _) (by omega)))
  refine lv_aload_n hx hb dX6_setLawWords_31 rfl (lv_at hl 0 rfl) ?_
  refine th_getK hC cf_X6 hB.1 h0 ro_23 rfl (j := 1) (by decide) mm8 kf_X6_17 dX6_setLawWords_32 ?_
  refine lv_iconst (v := 3) hx hb dX6_setLawWords_35 (by decide) ?_
  refine lv_aload_n hx hb dX6_setLawWords_36 rfl (lv_at hl 1 rfl) ?_
  refine th_getO (j := 2) (r2 := 6) hC cf_X1 hB.1 h1 ro_3 rfl rfl kf_X6_38 dX6_setLawWords_37 (fun b9 mb9 hb9 => ?_)
  refine lv_iload_n hx hb dX6_setLawWords_40 rfl (lv_at hl 2 rfl) ?_
  refine th_ialdF hC hB.1 hb9 ro_6 rfl (Eq.refl _) (by omega) (by omega) rfl dX6_setLawWords_41 (fun x10 mx10 lx10 ux10 => ?_)
  replace hF := hF.trans (dv_bn (dv_aldI hB.1 hU hb9 ow_6 (z := p2.toInt) mx10 (by omega)))
  have hIo := hB.1
  refine th_iastF hC hB hb1 (Or.inl hb1) ro_25 rfl (by decide) tk_3 (by omega) (by omega) th_sIa dX6_setLawWords_42 (fun H42 locs hB hf42 hst42 => ?_)
  have hf := hf42
  have mm11 := (th_F_o hf h0 ro_23 (j := 1) (by decide) (by decide)).trans mm8
  have hR := th_RC_F hB.1 hR hf (th_T_s hb1 ro_25 hst42) (by decide)
  replace hF := hF.trans (dv_bn (dv_stoI hIo hB.1 hU hb1 ow_25 (i := 3) hst42 (Eq.refl _) (by omega)))
  refine lv_aload_n hx hb dX6_setLawWords_43 rfl (lv_at hl 0 rfl) ?_
  refine th_getK hC cf_X6 hB.1 h0 ro_23 rfl (j := 1) (by decide) mm11 kf_X6_17 dX6_setLawWords_44 ?_
  refine lv_iconst (v := 4) hx hb dX6_setLawWords_47 (by decide) ?_
  refine lv_iload_n hx hb dX6_setLawWords_48 rfl (lv_at hl 3 rfl) ?_
  have hIo := hB.1
  refine th_iastF hC hB hb1 (Or.inl hb1) ro_25 rfl (by decide) tk_4 (by omega) (by omega) th_sIa dX6_setLawWords_49 (fun H49 locs hB hf49 hst49 => ?_)
  have hf := hf49
  have mm12 := (th_F_o hf h0 ro_23 (j := 1) (by decide) (by decide)).trans mm11
  have hR := th_RC_F hB.1 hR hf (th_T_s hb1 ro_25 hst49) (by decide)
  replace hF := hF.trans (dv_bn (dv_stoI hIo hB.1 hU hb1 ow_25 (i := 4) hst49 (Eq.refl _) (by omega)))
  refine lv_aload_n hx hb dX6_setLawWords_50 rfl (lv_at hl 0 rfl) ?_
  refine th_getK hC cf_X6 hB.1 h0 ro_23 rfl (j := 1) (by decide) mm12 kf_X6_17 dX6_setLawWords_51 ?_
  refine lv_iconst (v := 5) hx hb dX6_setLawWords_54 (by decide) ?_
  refine lv_iload hx hb dX6_setLawWords_55 (lv_at hl 4 rfl) ?_
  have hIo := hB.1
  refine th_iastF hC hB hb1 (Or.inl hb1) ro_25 rfl (by decide) tk_5 (by omega) (by omega) th_sIa dX6_setLawWords_57 (fun H57 locs hB hf57 hst57 => ?_)
  have hf := hf57
  have mm13 := (th_F_o hf h0 ro_23 (j := 1) (by decide) (by decide)).trans mm12
  have hR := th_RC_F hB.1 hR hf (th_T_s hb1 ro_25 hst57) (by decide)
  replace hF := hF.trans (dv_bn (dv_stoI hIo hB.1 hU hb1 ow_25 (i := 5) hst57 (Eq.refl _) (by omega)))
  refine lv_aload_n hx hb dX6_setLawWords_58 rfl (lv_at hl 0 rfl) ?_
  refine th_getK hC cf_X6 hB.1 h0 ro_23 rfl (j := 1) (by decide) mm13 kf_X6_17 dX6_setLawWords_59 ?_
  refine lv_bipush (v := 6) hx hb dX6_setLawWords_62 (by decide) ?_
  refine lv_aload_n hx hb dX6_setLawWords_64 rfl (lv_at hl 1 rfl) ?_
  refine th_getO (j := 5) (r2 := 9) hC cf_X1 hB.1 h1 ro_3 rfl rfl kf_X6_41 dX6_setLawWords_65 (fun b14 mb14 hb14 => ?_)
  have sb14 := (th_F_o hB.2.2 h1 ro_3 (j := 5) (by decide) (by decide)).symm.trans mb14
  refine lv_iconst (v := 0) hx hb dX6_setLawWords_68 (by decide) ?_
  refine th_ialdF hC hB.1 hb14 ro_9 rfl tk_0 (by omega) (by omega) rfl dX6_setLawWords_69 (fun x15 mx15 lx15 ux15 => ?_)
  replace hF := hF.trans (dv_bn (dv_aldI hB.1 hU hb14 ow_9 (z := 0) mx15 (by omega)))
  have hIo := hB.1
  refine th_iastF hC hB hb1 (Or.inl hb1) ro_25 rfl (by decide) tk_6 (by omega) (by omega) th_sIa dX6_setLawWords_70 (fun H70 locs hB hf70 hst70 => ?_)
  have hf := hf70
  have mm16 := (th_F_o hf h0 ro_23 (j := 1) (by decide) (by decide)).trans mm13
  have mm17 := (th_F_o hf h1 ro_3 (j := 5) (by decide) (by decide)).trans mb14
  have hR := th_RC_F hB.1 hR hf (th_T_s hb1 ro_25 hst70) (by decide)
  replace hF := hF.trans (dv_bn (dv_stoI hIo hB.1 hU hb1 ow_25 (i := 6) hst70 (Eq.refl _) (by omega)))
  refine lv_aload_n hx hb dX6_setLawWords_71 rfl (lv_at hl 0 rfl) ?_
  refine th_getK hC cf_X6 hB.1 h0 ro_23 rfl (j := 1) (by decide) mm16 kf_X6_17 dX6_setLawWords_72 ?_
  refine lv_bipush (v := 7) hx hb dX6_setLawWords_75 (by decide) ?_
  refine lv_aload_n hx hb dX6_setLawWords_77 rfl (lv_at hl 1 rfl) ?_
  refine th_getK hC cf_X1 hB.1 h1 ro_3 rfl (j := 5) (by decide) mm17 kf_X6_41 dX6_setLawWords_78 ?_
  refine lv_iconst (v := 2) hx hb dX6_setLawWords_81 (by decide) ?_
  refine th_ialdF hC hB.1 hb14 ro_9 rfl tk_2 (by omega) (by omega) rfl dX6_setLawWords_82 (fun x18 mx18 lx18 ux18 => ?_)
  replace hF := hF.trans (dv_bn (dv_aldI hB.1 hU hb14 ow_9 (z := 2) mx18 (by omega)))
  have hIo := hB.1
  refine th_iastF hC hB hb1 (Or.inl hb1) ro_25 rfl (by decide) tk_7 (by omega) (by omega) th_sIa dX6_setLawWords_83 (fun H83 locs hB hf83 hst83 => ?_)
  have hf := hf83
  have mm19 := (th_F_o hf h0 ro_23 (j := 1) (by decide) (by decide)).trans mm16
  have mm20 := (th_F_o hf h1 ro_3 (j := 5) (by decide) (by decide)).trans mm17
  have hR := th_RC_F hB.1 hR hf (th_T_s hb1 ro_25 hst83) (by decide)
  replace hF := hF.trans (dv_bn (dv_stoI hIo hB.1 hU hb1 ow_25 (i := 7) hst83 (Eq.refl _) (by omega)))
  exact th_vret hC hH hr hlocks hB.2.1 ⟨rfl, hB.1, hB.2.2, hR, (hF0.symm.trans hF)⟩ dX6_setLawWords_84

set_option maxHeartbeats 4000000 in
set_option maxRecDepth 100000 in
theorem c_X6_setOrderWords (l : Launch) (G : th_G) (Γ : th_Ga) (H0 : Heap) (hI : th_I G Γ H0) (hR : th_RC G Γ H0) (hU : dv_U Γ) (a0 : Nat) (h0 : Γ a0 = (23, 0)) (p1 : Nat) (h1 : Γ p1 = (3, 0)) : Met l yX6_setOrderWords (.code yX6_setOrderWords cX6_setOrderWords 3 (none) :: th_tb) ({ frames := 3, cells := 0, slots := 0, locals := 64 } : Room) (th_P [.ref a0, .ref p1] G H0) (th_Q (fun (v : Option Value) (H1 : Heap) => v = none ∧ th_I G Γ H1 ∧ th_F G Γ [(25, 0)] H0 H1 ∧ th_RC G Γ H1 ∧ (f_X6_setOrderWords (dv G Γ H0) (a0 : Int) (p1 : Int) = (dv G Γ H1, 0))) G) 0 0 (fun q => G.2.2 ≤ q) := by
  refine th_met RX6 (by decide) rfl (Nat.le_of_ble_eq_true rfl) ?_
  intro p e s m below meth c hC hH hr hlocks hnm ls hl
  have hx := hC.1
  have hb := hC.2.1
  have hB : th_B G Γ Γ [(25, 0)] H0 H0 [] := ⟨hI, va_S.rf, th_F_rf⟩
  have hl : lv_has ls 3 [(0, .ref a0), (1, .ref p1)] := hl
  obtain ⟨F, hF0⟩ : ∃ F, F = f_X6_setOrderWords (dv G Γ H0) ((a0 : Int)) ((p1 : Int)) := ⟨_, rfl⟩
  have hF := hF0.trans (f_X6_setOrderWords.eq_1 (dv G Γ H0) ((a0 : Int)) ((p1 : Int)))
  refine lv_aload_n hx hb dX6_setOrderWords_0 rfl (lv_at hl 0 rfl) ?_
  refine th_getO (j := 1) (r2 := 25) hC cf_X6 hB.1 h0 ro_23 rfl rfl kf_X6_17 dX6_setOrderWords_1 (fun b1 mb1 hb1 => ?_)
  refine lv_iconst (v := 0) hx hb dX6_setOrderWords_4 (by decide) ?_
  refine lv_aload_n hx hb dX6_setOrderWords_5 rfl (lv_at hl 1 rfl) ?_
  refine th_getO (j := 5) (r2 := 9) hC cf_X1 hB.1 h1 ro_3 rfl rfl kf_X6_41 dX6_setOrderWords_6 (fun b2 mb2 hb2 => ?_)
  refine lv_iconst (v := 0) hx hb dX6_setOrderWords_9 (by decide) ?_
  refine th_ialdF hC hB.1 hb2 ro_9 rfl tk_0 (by omega) (by omega) rfl dX6_setOrderWords_10 (fun x3 mx3 lx3 ux3 => ?_)
  replace hF := hF.trans (dv_bn (dv_aldI hB.1 hU hb2 ow_9 (z := 0) mx3 (by omega)))
  have hIo := hB.1
  refine th_iastF hC hB hb1 (Or.inl hb1) ro_25 rfl (by decide) tk_0 (by omega) (by omega) th_sIa dX6_setOrderWords_11 (fun H11 locs hB hf11 hst11 => ?_)
  have hf := hf11
  have mm4 := (th_F_o hf h0 ro_23 (j := 1) (by decide) (by decide)).trans mb1
  have hR := th_RC_F hB.1 hR hf (th_T_s hb1 ro_25 hst11) (by decide)
  replace hF := hF.trans (dv_bn (dv_stoI hIo hB.1 hU hb1 ow_25 (i := 0) hst11 (Eq.refl _) (by omega)))
  refine lv_aload_n hx hb dX6_setOrderWords_12 rfl (lv_at hl 0 rfl) ?_
  refine th_getK hC cf_X6 hB.1 h0 ro_23 rfl (j := 1) (by decide) mm4 kf_X6_17 dX6_setOrderWords_13 ?_
  refine lv_iconst (v := 3) hx hb dX6_setOrderWords_16 (by decide) ?_
  refine lv_aload_n hx hb dX6_setOrderWords_17 rfl (lv_at hl 1 rfl) ?_
  refine th_call (th_runV (As := []) (rest := [.int 3, .ref b1]) hC mf_X1_bareCells km_X6_44 im_X1_bareCells se_X1_bareCells (c_X1_bareCells l G Γ H11 hB.1 hU p1 h1) rfl rfl ⟨Nat.le_of_ble_eq_true rfl, Nat.le_of_ble_eq_true rfl⟩ hB.1 h1 ro_3 rfl rfl hl.1 rfl (Nat.le_of_ble_eq_true rfl) dX6_setOrderWords_18 ⟨Nat.le_refl _, Nat.le_refl _⟩) hB.2.1 (fun v18 H18 locs hp hz hS => ?_)
  obtain ⟨x5, rfl, q18_0, rfl⟩ := hp
  have hB := th_B_s hB hS
  replace hF := hF.trans (dv_bn2 (q18_0))
  refine W.eq (g2 := F0 m 21 ls [.int x5, .int 3, .ref b1]) rfl ?_
  have hIo := hB.1
  refine th_iastF hC hB hb1 (Or.inl hb1) ro_25 rfl (by decide) tk_3 (by omega) (by omega) th_sIa dX6_setOrderWords_21 (fun H21 locs hB hf21 hst21 => ?_)
  have hf := hf21
  have mm6 := (th_F_o hf h0 ro_23 (j := 1) (by decide) (by decide)).trans mm4
  have hR := th_RC_F hB.1 hR hf (th_T_s hb1 ro_25 hst21) (by decide)
  replace hF := hF.trans (dv_bn (dv_stoI hIo hB.1 hU hb1 ow_25 (i := 3) hst21 (Eq.refl _) (by omega)))
  refine lv_aload_n hx hb dX6_setOrderWords_22 rfl (lv_at hl 0 rfl) ?_
  refine th_getK hC cf_X6 hB.1 h0 ro_23 rfl (j := 1) (by decide) mm6 kf_X6_17 dX6_setOrderWords_23 ?_
  refine lv_iconst (v := 4) hx hb dX6_setOrderWords_26 (by decide) ?_
  refine lv_aload_n hx hb dX6_setOrderWords_27 rfl (lv_at hl 1 rfl) ?_
  refine th_getI (j := 10) hC cf_X1 hB.1 h1 ro_3 rfl rfl kf_X6_48 dX6_setOrderWords_28 (fun x7 mx7 lx7 ux7 => ?_)
  replace hF := hF.trans (dv_bn (dv_getI h1 ro_3 (j := 10) rfl mx7 (by decide)))
  have hIo := hB.1
  refine th_iastF hC hB hb1 (Or.inl hb1) ro_25 rfl (by decide) tk_4 (by omega) (by omega) th_sIa dX6_setOrderWords_31 (fun H31 locs hB hf31 hst31 => ?_)
  have hf := hf31
  have mm8 := (th_F_o hf h0 ro_23 (j := 1) (by decide) (by decide)).trans mm6
  have hR := th_RC_F hB.1 hR hf (th_T_s hb1 ro_25 hst31) (by decide)
  replace hF := hF.trans (dv_bn (dv_stoI hIo hB.1 hU hb1 ow_25 (i := 4) hst31 (Eq.refl _) (by omega)))
  refine lv_iconst (v := 0) hx hb dX6_setOrderWords_32 (by decide) ?_
  refine lv_istore_n (lv' := [(2, .int 0), (0, .ref a0), (1, .ref p1)]) hx hb dX6_setOrderWords_33 rfl hl (by decide) rfl (fun ls hl => ?_)
  have lp34 : ∀ (n34 : Nat) (H34 : Heap) (locs : List Loc) (ls : Array Slot) (j34_2 : Int32), th_B G Γ Γ [(25, 0)] H0 H34 locs → th_RC G Γ H34 → lv_has ls 3 [(0, .ref a0), (1, .ref p1), (2, .int j34_2)] → F = dv_lp f_X6_setOrderWords_34b (dv G Γ H34, (a0 : Int), (p1 : Int), j34_2.toInt) → 0 ≤ j34_2.toInt → j34_2.toInt ≤ 9 → (2147483648 : Int) - j34_2.toInt ≤ (n34 : Int) → W p l e ({ frames := 3, cells := 0, slots := 0, locals := 64 } : Room) s m ([.ref a0, .ref p1] : List Value).toArray below meth c H34 locs 0 0 (MQ below (th_Q (fun (v : Option Value) (H1 : Heap) => v = none ∧ th_I G Γ H1 ∧ th_F G Γ [(25, 0)] H0 H1 ∧ th_RC G Γ H1 ∧ (f_X6_setOrderWords (dv G Γ H0) (a0 : Int) (p1 : Int) = (dv G Γ H1, 0))) G) ([.ref a0, .ref p1] : List Value).toArray s 0 0 (fun q => G.2.2 ≤ q)) (F0 m 34 ls []) := by
    intro n34
    induction n34 with
    | zero => intro H34 locs ls j34_2 hB hR hl hF g34_0 g34_1 hm34; exact absurd hm34 (by have := ti_hi j34_2; omega)
    | succ n34 ih34 =>
      intro H34 locs ls j34_2 hB hR hl hF g34_0 g34_1 hm34
      have lj34_2 := ti_lo j34_2; have uj34_2 := ti_hi j34_2
      have mm9 := (th_F_o hB.2.2 h0 ro_23 (j := 1) (by decide) (by decide)).trans mb1
      have hm34 : (2147483648 : Int) - j34_2.toInt ≤ (n34 : Int) + 1 := by omega
      replace hF := hF.trans (dv_lp_eq)
      replace hF := hF.trans (congrArg (dv_k f_X6_setOrderWords_34b) (f_X6_setOrderWords_34c.eq_1 (dv G Γ H34) ((a0 : Int)) ((p1 : Int)) (j34_2.toInt)))
      refine lv_iload_n hx hb dX6_setOrderWords_34 rfl (lv_at hl 2 rfl) ?_
      refine lv_bipush (v := 9) hx hb dX6_setOrderWords_35 (by decide) ?_
      refine tr_icmp_ge (tgt := 106) hx hb dX6_setOrderWords_37 (by decide) (Eq.refl _) tk_9 (fun c37 => ?_) (fun c37 => ?_)
      · replace hF := hF.trans (congrArg (dv_k f_X6_setOrderWords_34b) (if_pos c37))
        replace hF := hF.trans (dv_kr)
        exact th_vret hC hH hr hlocks hB.2.1 ⟨rfl, hB.1, hB.2.2, hR, (hF0.symm.trans hF)⟩ dX6_setOrderWords_106
      · replace hF := hF.trans (congrArg (dv_k f_X6_setOrderWords_34b) (if_neg (Int.not_le.mpr c37)))
        refine lv_aload_n hx hb dX6_setOrderWords_40 rfl (lv_at hl 0 rfl) ?_
        refine th_getK hC cf_X6 hB.1 h0 ro_23 rfl (j := 1) (by decide) mm9 kf_X6_17 dX6_setOrderWords_41 ?_
        refine lv_iconst (v := 5) hx hb dX6_setOrderWords_44 (by decide) ?_
        refine lv_iload_n hx hb dX6_setOrderWords_45 rfl (lv_at hl 2 rfl) ?_
        refine tr_iadd hx hb dX6_setOrderWords_46 tk_5 (Eq.refl _) (by omega) (by omega) (fun x10 ex10 => ?_)
        replace hF := hF.trans (congrArg (dv_k f_X6_setOrderWords_34b) (dv_bn (ex10.symm)))
        refine lv_aload_n hx hb dX6_setOrderWords_47 rfl (lv_at hl 1 rfl) ?_
        refine lv_iload_n hx hb dX6_setOrderWords_48 rfl (lv_at hl 2 rfl) ?_
        refine th_call (th_runV (As := [.int j34_2]) (rest := [.int x10, .ref b1]) hC mf_X1_has km_X6_52 im_X1_has se_X1_has (c_X1_has l G Γ H34 hB.1 hU p1 h1 j34_2) rfl rfl ⟨Nat.le_of_ble_eq_true rfl, Nat.le_of_ble_eq_true rfl⟩ hB.1 h1 ro_3 rfl rfl hl.1 rfl (Nat.le_of_ble_eq_true rfl) dX6_setOrderWords_49 ⟨Nat.le_refl _, Nat.le_refl _⟩) hB.2.1 (fun v49 H49 locs hp hz hS => ?_)
        obtain ⟨x11, rfl, lx11, ux11, q49_0, q49_1, rfl⟩ := hp
        have hB := th_B_s hB hS
        replace hF := hF.trans (congrArg (dv_k f_X6_setOrderWords_34b) (dv_bn2 (q49_1)))
        refine W.eq (g2 := F0 m 52 ls [.int x11, .int x10, .ref b1]) rfl ?_
        have jn65 : ∀ (locs : List Loc) (ls : Array Slot) (s65_2 : Int32), th_B G Γ Γ [(25, 0)] H0 H34 locs → lv_has ls 3 [(0, .ref a0), (1, .ref p1), (2, .int j34_2)] → F = dv_k f_X6_setOrderWords_34b (f_X6_setOrderWords_65 (dv G Γ H34) ((a0 : Int)) ((p1 : Int)) (j34_2.toInt) (x10.toInt) (s65_2.toInt)) → W p l e ({ frames := 3, cells := 0, slots := 0, locals := 64 } : Room) s m ([.ref a0, .ref p1] : List Value).toArray below meth c H34 locs 0 0 (MQ below (th_Q (fun (v : Option Value) (H1 : Heap) => v = none ∧ th_I G Γ H1 ∧ th_F G Γ [(25, 0)] H0 H1 ∧ th_RC G Γ H1 ∧ (f_X6_setOrderWords (dv G Γ H0) (a0 : Int) (p1 : Int) = (dv G Γ H1, 0))) G) ([.ref a0, .ref p1] : List Value).toArray s 0 0 (fun q => G.2.2 ≤ q)) (F0 m 65 ls [.int s65_2, .int x10, .ref b1]) := by
          intro locs ls s65_2 hB hl hF
          have ls65_2 := ti_lo s65_2; have us65_2 := ti_hi s65_2
          replace hF := hF.trans (congrArg (dv_k f_X6_setOrderWords_34b) (f_X6_setOrderWords_65.eq_1 (dv G Γ H34) ((a0 : Int)) ((p1 : Int)) (j34_2.toInt) (x10.toInt) (s65_2.toInt)))
          have hIo := hB.1
          refine th_iastF hC hB hb1 (Or.inl hb1) ro_25 rfl (by decide) (Eq.refl _) (by omega) (by omega) th_sIa dX6_setOrderWords_65 (fun H65 locs hB hf65 hst65 => ?_)
          have hf := hf65
          have mm12 := (th_F_o hf h0 ro_23 (j := 1) (by decide) (by decide)).trans mm9
          have hR := th_RC_F hB.1 hR hf (th_T_s hb1 ro_25 hst65) (by decide)
          replace hF := hF.trans (congrArg (dv_k f_X6_setOrderWords_34b) (dv_bn (dv_stoI hIo hB.1 hU hb1 ow_25 (i := x10.toInt) hst65 (Eq.refl _) (by omega))))
          refine lv_aload_n hx hb dX6_setOrderWords_66 rfl (lv_at hl 0 rfl) ?_
          refine th_getK hC cf_X6 hB.1 h0 ro_23 rfl (j := 1) (by decide) mm12 kf_X6_17 dX6_setOrderWords_67 ?_
          refine lv_bipush (v := 14) hx hb dX6_setOrderWords_70 (by decide) ?_
          refine lv_iload_n hx hb dX6_setOrderWords_72 rfl (lv_at hl 2 rfl) ?_
          refine tr_iadd hx hb dX6_setOrderWords_73 tk_14 (Eq.refl _) (by omega) (by omega) (fun x13 ex13 => ?_)
          replace hF := hF.trans (congrArg (dv_k f_X6_setOrderWords_34b) (dv_bn (ex13.symm)))
          refine lv_aload_n hx hb dX6_setOrderWords_74 rfl (lv_at hl 1 rfl) ?_
          refine lv_iload_n hx hb dX6_setOrderWords_75 rfl (lv_at hl 2 rfl) ?_
          refine th_call (th_runV (As := [.int j34_2]) (rest := [.int x13, .ref b1]) hC mf_X1_has km_X6_52 im_X1_has se_X1_has (c_X1_has l G Γ H65 hB.1 hU p1 h1 j34_2) rfl rfl ⟨Nat.le_of_ble_eq_true rfl, Nat.le_of_ble_eq_true rfl⟩ hB.1 h1 ro_3 rfl rfl hl.1 rfl (Nat.le_of_ble_eq_true rfl) dX6_setOrderWords_76 ⟨Nat.le_refl _, Nat.le_refl _⟩) hB.2.1 (fun v76 H76 locs hp hz hS => ?_)
          obtain ⟨x14, rfl, lx14, ux14, q76_0, q76_1, rfl⟩ := hp
          have hB := th_B_s hB hS
          replace hF := hF.trans (congrArg (dv_k f_X6_setOrderWords_34b) (dv_bn2 (q76_1)))
          refine W.eq (g2 := F0 m 79 ls [.int x14, .int x13, .ref b1]) rfl ?_
          have jn99 : ∀ (locs : List Loc) (ls : Array Slot) (s99_2 : Int32), th_B G Γ Γ [(25, 0)] H0 H65 locs → lv_has ls 3 [(0, .ref a0), (1, .ref p1), (2, .int j34_2)] → F = dv_k f_X6_setOrderWords_34b (f_X6_setOrderWords_99 (dv G Γ H65) ((a0 : Int)) ((p1 : Int)) (j34_2.toInt) (x13.toInt) (s99_2.toInt)) → (-1) ≤ s99_2.toInt → s99_2.toInt ≤ 1 → W p l e ({ frames := 3, cells := 0, slots := 0, locals := 64 } : Room) s m ([.ref a0, .ref p1] : List Value).toArray below meth c H65 locs 0 0 (MQ below (th_Q (fun (v : Option Value) (H1 : Heap) => v = none ∧ th_I G Γ H1 ∧ th_F G Γ [(25, 0)] H0 H1 ∧ th_RC G Γ H1 ∧ (f_X6_setOrderWords (dv G Γ H0) (a0 : Int) (p1 : Int) = (dv G Γ H1, 0))) G) ([.ref a0, .ref p1] : List Value).toArray s 0 0 (fun q => G.2.2 ≤ q)) (F0 m 99 ls [.int s99_2, .int x13, .ref b1]) := by
            intro locs ls s99_2 hB hl hF g99_0 g99_1
            have ls99_2 := ti_lo s99_2; have us99_2 := ti_hi s99_2
            replace hF := hF.trans (congrArg (dv_k f_X6_setOrderWords_34b) (f_X6_setOrderWords_99.eq_1 (dv G Γ H65) ((a0 : Int)) ((p1 : Int)) (j34_2.toInt) (x13.toInt) (s99_2.toInt)))
            have hIo := hB.1
            refine th_iastF hC hB hb1 (Or.inl hb1) ro_25 rfl (by decide) (Eq.refl _) (by omega) (by omega) th_sIa dX6_setOrderWords_99 (fun H99 locs hB hf99 hst99 => ?_)
            have hf := hf99
            have mm15 := (th_F_o hf h0 ro_23 (j := 1) (by decide) (by decide)).trans mm12
            have hR := th_RC_F hB.1 hR hf (th_T_s hb1 ro_25 hst99) (by decide)
            replace hF := hF.trans (congrArg (dv_k f_X6_setOrderWords_34b) (dv_bn (dv_stoI hIo hB.1 hU hb1 ow_25 (i := x13.toInt) hst99 (Eq.refl _) (by omega))))
            refine tr_iinc (fun x16 => [(2, .int x16), (0, .ref a0), (1, .ref p1)]) hx hb dX6_setOrderWords_100 hl (k := 2) rfl (Eq.refl _) tk_1 (by omega) (by omega) (by decide) (fun _ => rfl) (fun x16 ls ex16 hl => ?_)
            replace hF := hF.trans (congrArg (dv_k f_X6_setOrderWords_34b) (dv_bn (ex16.symm)))
            refine lv_goto (tgt := 34) hx hb dX6_setOrderWords_103 (by decide) ?_
            replace hF := hF.trans (dv_kl)
            exact ih34 H99 locs ls x16 hB hR (lv_sub hl [1, 2, 0] rfl) hF (by omega) (by omega) (by omega)
          refine tr_if_ne (tgt := 86) hx hb dX6_setOrderWords_79 (by decide) (Eq.refl _) (fun c79 => ?_) (fun c79 => ?_)
          · replace hF := hF.trans (congrArg (dv_k f_X6_setOrderWords_34b) (if_pos c79))
            refine lv_aload_n hx hb dX6_setOrderWords_86 rfl (lv_at hl 1 rfl) ?_
            refine lv_iload_n hx hb dX6_setOrderWords_87 rfl (lv_at hl 2 rfl) ?_
            refine th_call (th_runV (As := [.int j34_2]) (rest := [.int x13, .ref b1]) hC mf_X1_isLaid km_X6_56 im_X1_isLaid se_X1_isLaid (c_X1_isLaid l G Γ H65 hB.1 hU p1 h1 j34_2) rfl rfl ⟨Nat.le_of_ble_eq_true rfl, Nat.le_of_ble_eq_true rfl⟩ hB.1 h1 ro_3 rfl rfl hl.1 rfl (Nat.le_of_ble_eq_true rfl) dX6_setOrderWords_88 ⟨Nat.le_refl _, Nat.le_refl _⟩) hB.2.1 (fun v88 H88 locs hp hz hS => ?_)
            obtain ⟨x17, rfl, lx17, ux17, q88_0, q88_1, q88_2, rfl⟩ := hp
            have hB := th_B_s hB hS
            replace hF := hF.trans (congrArg (dv_k f_X6_setOrderWords_34b) (dv_bn2 (q88_2)))
            refine W.eq (g2 := F0 m 91 ls [.int x17, .int x13, .ref b1]) rfl ?_
            refine tr_if_eq (tgt := 98) hx hb dX6_setOrderWords_91 (by decide) (Eq.refl _) (fun c91 => ?_) (fun c91 => ?_)
            · replace hF := hF.trans (congrArg (dv_k f_X6_setOrderWords_34b) (if_pos c91))
              refine lv_iconst (v := 0) hx hb dX6_setOrderWords_98 (by decide) ?_
              exact jn99 locs ls 0 hB (lv_sub hl [0, 1, 2] rfl) (by rw [tk_0]; exact hF) (by decide) (by decide)
            · replace hF := hF.trans (congrArg (dv_k f_X6_setOrderWords_34b) (if_neg c91))
              refine lv_iconst (v := 1) hx hb dX6_setOrderWords_94 (by decide) ?_
              refine lv_goto (tgt := 99) hx hb dX6_setOrderWords_95 (by decide) ?_
              exact jn99 locs ls 1 hB (lv_sub hl [0, 1, 2] rfl) (by rw [tk_1]; exact hF) (by decide) (by decide)
          · replace hF := hF.trans (congrArg (dv_k f_X6_setOrderWords_34b) (if_neg (not_not_intro c79)))
            refine lv_iconst (v := (-1)) hx hb dX6_setOrderWords_82 (by decide) ?_
            refine lv_goto (tgt := 99) hx hb dX6_setOrderWords_83 (by decide) ?_
            exact jn99 locs ls (-1) hB (lv_sub hl [0, 1, 2] rfl) (by rw [tk_m1]; exact hF) (by decide) (by decide)
        refine tr_if_eq (tgt := 64) hx hb dX6_setOrderWords_52 (by decide) (Eq.refl _) (fun c52 => ?_) (fun c52 => ?_)
        · replace hF := hF.trans (congrArg (dv_k f_X6_setOrderWords_34b) (if_pos c52))
          refine lv_iconst (v := (-1)) hx hb dX6_setOrderWords_64 (by decide) ?_
          exact jn65 locs ls (-1) hB (lv_sub hl [0, 1, 2] rfl) (by rw [tk_m1]; exact hF)
        · replace hF := hF.trans (congrArg (dv_k f_X6_setOrderWords_34b) (if_neg c52))
          refine lv_aload_n hx hb dX6_setOrderWords_55 rfl (lv_at hl 1 rfl) ?_
          refine th_getO (j := 2) (r2 := 6) hC cf_X1 hB.1 h1 ro_3 rfl rfl kf_X6_38 dX6_setOrderWords_56 (fun b18 mb18 hb18 => ?_)
          have sb18 := (th_F_o hB.2.2 h1 ro_3 (j := 2) (by decide) (by decide)).symm.trans mb18
          refine lv_iload_n hx hb dX6_setOrderWords_59 rfl (lv_at hl 2 rfl) ?_
          refine th_ialdF hC hB.1 hb18 ro_6 rfl (Eq.refl _) (by omega) (by omega) rfl dX6_setOrderWords_60 (fun x19 mx19 lx19 ux19 => ?_)
          replace hF := hF.trans (congrArg (dv_k f_X6_setOrderWords_34b) (dv_bn (dv_aldI hB.1 hU hb18 ow_6 (z := j34_2.toInt) mx19 (by omega))))
          refine lv_goto (tgt := 65) hx hb dX6_setOrderWords_61 (by decide) ?_
          exact jn65 locs ls x19 hB (lv_sub hl [0, 1, 2] rfl) hF
  exact lp34 ((2147483648 : Int) - (0)).toNat H31 locs ls 0 hB hR (lv_sub hl [1, 2, 0] rfl) (by rw [tk_0]; exact hF) (by decide) (by decide) (by have w0 := tk_0; omega)

set_option maxHeartbeats 4000000 in
set_option maxRecDepth 100000 in
theorem c_X6_reckon (l : Launch) (G : th_G) (Γ : th_Ga) (H0 : Heap) (hI : th_I G Γ H0) (hR : th_RC G Γ H0) (hU : dv_U Γ) (a0 : Nat) (h0 : Γ a0 = (23, 0)) (p1 : Nat) (h1 : Γ p1 = (39, 0)) (p2 : Int32) (f2 : 0 ≤ p2.toInt) (p3 : Int32) : Met l yX6_reckon (.code yX6_reckon cX6_reckon 13 (some FieldType.long) :: th_tb) ({ frames := 0, cells := 0, slots := 0, locals := 0 } : Room) (th_P [.ref a0, .ref p1, .int p2, .int p3] G H0) (th_Q (fun (v : Option Value) (H1 : Heap) => ∃ r : Int64, v = some (.long r) ∧ th_I G Γ H1 ∧ th_F G Γ [(24, 0), (23, 3)] H0 H1 ∧ th_RC G Γ H1 ∧ (f_X6_reckon (dv G Γ H0) (a0 : Int) (p1 : Int) p2.toInt p3.toInt = (dv G Γ H1, r.toInt))) G) 0 0 (fun q => G.2.2 ≤ q) := by
  refine th_met RX6 (by decide) rfl (Nat.le_of_ble_eq_true rfl) ?_
  intro p e s m below meth c hC hH hr hlocks hnm ls hl
  have hx := hC.1
  have hb := hC.2.1
  have hB : th_B G Γ Γ [(24, 0), (23, 3)] H0 H0 [] := ⟨hI, va_S.rf, th_F_rf⟩
  have hl : lv_has ls 13 [(0, .ref a0), (1, .ref p1), (2, .int p2), (3, .int p3)] := hl
  have lp2 := ti_lo p2; have up2 := ti_hi p2
  have lp3 := ti_lo p3; have up3 := ti_hi p3
  obtain ⟨F, hF0⟩ : ∃ F, F = f_X6_reckon (dv G Γ H0) ((a0 : Int)) ((p1 : Int)) (p2.toInt) (p3.toInt) := ⟨_, rfl⟩
  have hF := hF0.trans (f_X6_reckon.eq_1 (dv G Γ H0) ((a0 : Int)) ((p1 : Int)) (p2.toInt) (p3.toInt))
  refine lv_iconst (v := 0) hx hb dX6_reckon_0 (by decide) ?_
  refine lv_istore (lv' := [(4, .int 0), (0, .ref a0), (1, .ref p1), (2, .int p2), (3, .int p3)]) hx hb dX6_reckon_1 hl (by decide) rfl (fun ls hl => ?_)
  refine lv_aload_n hx hb dX6_reckon_3 rfl (lv_at hl 1 rfl) ?_
  refine lv_iconst (v := 0) hx hb dX6_reckon_4 (by decide) ?_
  refine th_put hC cf_X6 hB h0 (Or.inl h0) ro_23 rfl (j := 3) rfl (th_sI (by decide) (by decide)) (by decide) rfl narrow_b0 rfl kf_X6_26 dX6_reckon_5 (fun H5 locs hB hf hst5 => ?_)
  have hR := th_RC_F hB.1 hR hf (th_T_s h0 ro_23 hst5) (by decide)
  replace hF := hF.trans (dv_bn (dv_putI hB.1 h0 ro_23 (j := 3) rfl (th_apart hC cf_X6) hst5 tk_0 (by decide)))
  have mm1 := hst5.2.1
  refine lv_iload_n hx hb dX6_reckon_8 rfl (lv_at hl 3 rfl) ?_
  refine lv_istore (lv' := [(5, .int p2), (4, .int 0), (0, .ref a0), (1, .ref p1), (2, .int p2), (3, .int p3)]) hx hb dX6_reckon_9 hl (by decide) rfl (fun ls hl => ?_)
  have lp11 : ∀ (n11 : Nat) (H11 : Heap) (locs : List Loc) (ls : Array Slot) (j11_4 : Int32) (j11_5 : Int32), th_B G Γ Γ [(24, 0), (23, 3)] H0 H11 locs → th_RC G Γ H11 → lv_has ls 13 [(0, .ref a0), (1, .ref p1), (3, .int p3), (4, .int j11_4), (5, .int j11_5)] → F = dv_lp f_X6_reckon_11b (dv G Γ H11, (a0 : Int), (p1 : Int), p3.toInt, j11_4.toInt, j11_5.toInt) → 0 ≤ j11_4.toInt → j11_4.toInt ≤ 63 → 0 ≤ j11_5.toInt → (2147483648 : Int) - j11_5.toInt ≤ (n11 : Int) → W p l e ({ frames := 0, cells := 0, slots := 0, locals := 0 } : Room) s m ([.ref a0, .ref p1, .int p2, .int p3] : List Value).toArray below meth c H11 locs 0 0 (MQ below (th_Q (fun (v : Option Value) (H1 : Heap) => ∃ r : Int64, v = some (.long r) ∧ th_I G Γ H1 ∧ th_F G Γ [(24, 0), (23, 3)] H0 H1 ∧ th_RC G Γ H1 ∧ (f_X6_reckon (dv G Γ H0) (a0 : Int) (p1 : Int) p2.toInt p3.toInt = (dv G Γ H1, r.toInt))) G) ([.ref a0, .ref p1, .int p2, .int p3] : List Value).toArray s 0 0 (fun q => G.2.2 ≤ q)) (F0 m 11 ls []) := by
    intro n11
    induction n11 with
    | zero => intro H11 locs ls j11_4 j11_5 hB hR hl hF g11_0 g11_1 g11_2 hm11; exact absurd hm11 (by have := ti_hi j11_5; omega)
    | succ n11 ih11 =>
      intro H11 locs ls j11_4 j11_5 hB hR hl hF g11_0 g11_1 g11_2 hm11
      have lj11_4 := ti_lo j11_4; have uj11_4 := ti_hi j11_4
      have lj11_5 := ti_lo j11_5; have uj11_5 := ti_hi j11_5
      have hm11 : (2147483648 : Int) - j11_5.toInt ≤ (n11 : Int) + 1 := by omega
      replace hF := hF.trans (dv_lp_eq)
      replace hF := hF.trans (congrArg (dv_k f_X6_reckon_11b) (f_X6_reckon_11c.eq_1 (dv G Γ H11) ((a0 : Int)) ((p1 : Int)) (p3.toInt) (j11_4.toInt) (j11_5.toInt)))
      refine lv_iload hx hb dX6_reckon_11 (lv_at hl 4 rfl) ?_
      refine lv_iload_n hx hb dX6_reckon_13 rfl (lv_at hl 2 rfl) ?_
      refine tr_icmp_ge (tgt := 544) hx hb dX6_reckon_14 (by decide) (Eq.refl _) (Eq.refl _) (fun c14 => ?_) (fun c14 => ?_)
      · replace hF := hF.trans (congrArg (dv_k f_X6_reckon_11b) (if_pos c14))
        refine lv_aload_n hx hb dX6_reckon_544 rfl (lv_at hl 0 rfl) ?_
        refine th_getO (j := 0) (r2 := 24) hC cf_X6 hB.1 h0 ro_23 rfl rfl kf_X6_9 dX6_reckon_545 (fun b2 mb2 hb2 => ?_)
        refine lv_iconst (v := 0) hx hb dX6_reckon_548 (by decide) ?_
        refine th_laldF hC hB.1 hb2 ro_24 rfl tk_0 (by omega) (by omega) rfl dX6_reckon_549 (fun y3 my3 ly3 uy3 => ?_)
        replace hF := hF.trans (congrArg (dv_k f_X6_reckon_11b) (dv_bn (dv_aldL hB.1 hU hb2 ow_24 (z := 0) my3 (by omega))))
        replace hF := hF.trans (dv_kr)
        exact th_lret hC hH hr hlocks hB.2.1 ⟨_, rfl, hB.1, hB.2.2, hR, (hF0.symm.trans hF)⟩ dX6_reckon_550
      · replace hF := hF.trans (congrArg (dv_k f_X6_reckon_11b) (if_neg (Int.not_le.mpr c14)))
        refine lv_iload hx hb dX6_reckon_17 (lv_at hl 4 rfl) ?_
        refine lv_aload_n hx hb dX6_reckon_19 rfl (lv_at hl 1 rfl) ?_
        refine th_getI (j := 2) hC cf_X10 hB.1 h1 ro_39 rfl rfl kf_X6_67 dX6_reckon_20 (fun x4 mx4 lx4 ux4 => ?_)
        replace hF := hF.trans (congrArg (dv_k f_X6_reckon_11b) (dv_bn (dv_getI h1 ro_39 (j := 2) rfl mx4 (by decide))))
        have sx4 := (th_F_o hB.2.2 h1 ro_39 (j := 2) (by decide) (by decide)).symm.trans mx4
        refine tr_icmp_ge (tgt := 544) hx hb dX6_reckon_23 (by decide) (Eq.refl _) (Eq.refl _) (fun c23 => ?_) (fun c23 => ?_)
        · replace hF := hF.trans (congrArg (dv_k f_X6_reckon_11b) (if_pos c23))
          refine lv_aload_n hx hb dX6_reckon_544 rfl (lv_at hl 0 rfl) ?_
          refine th_getO (j := 0) (r2 := 24) hC cf_X6 hB.1 h0 ro_23 rfl rfl kf_X6_9 dX6_reckon_545 (fun b5 mb5 hb5 => ?_)
          refine lv_iconst (v := 0) hx hb dX6_reckon_548 (by decide) ?_
          refine th_laldF hC hB.1 hb5 ro_24 rfl tk_0 (by omega) (by omega) rfl dX6_reckon_549 (fun y6 my6 ly6 uy6 => ?_)
          replace hF := hF.trans (congrArg (dv_k f_X6_reckon_11b) (dv_bn (dv_aldL hB.1 hU hb5 ow_24 (z := 0) my6 (by omega))))
          replace hF := hF.trans (dv_kr)
          exact th_lret hC hH hr hlocks hB.2.1 ⟨_, rfl, hB.1, hB.2.2, hR, (hF0.symm.trans hF)⟩ dX6_reckon_550
        · replace hF := hF.trans (congrArg (dv_k f_X6_reckon_11b) (if_neg (Int.not_le.mpr c23)))
          refine lv_aload_n hx hb dX6_reckon_26 rfl (lv_at hl 0 rfl) ?_
          refine th_getI (j := 3) hC cf_X6 hB.1 h0 ro_23 rfl rfl kf_X6_26 dX6_reckon_27 (fun x7 mx7 lx7 ux7 => ?_)
          replace hF := hF.trans (congrArg (dv_k f_X6_reckon_11b) (dv_bn (dv_getI h0 ro_23 (j := 3) rfl mx7 (by decide))))
          refine tr_if_ne (tgt := 544) hx hb dX6_reckon_30 (by decide) (Eq.refl _) (fun c30 => ?_) (fun c30 => ?_)
          · replace hF := hF.trans (congrArg (dv_k f_X6_reckon_11b) (if_pos c30))
            refine lv_aload_n hx hb dX6_reckon_544 rfl (lv_at hl 0 rfl) ?_
            refine th_getO (j := 0) (r2 := 24) hC cf_X6 hB.1 h0 ro_23 rfl rfl kf_X6_9 dX6_reckon_545 (fun b8 mb8 hb8 => ?_)
            refine lv_iconst (v := 0) hx hb dX6_reckon_548 (by decide) ?_
            refine th_laldF hC hB.1 hb8 ro_24 rfl tk_0 (by omega) (by omega) rfl dX6_reckon_549 (fun y9 my9 ly9 uy9 => ?_)
            replace hF := hF.trans (congrArg (dv_k f_X6_reckon_11b) (dv_bn (dv_aldL hB.1 hU hb8 ow_24 (z := 0) my9 (by omega))))
            replace hF := hF.trans (dv_kr)
            exact th_lret hC hH hr hlocks hB.2.1 ⟨_, rfl, hB.1, hB.2.2, hR, (hF0.symm.trans hF)⟩ dX6_reckon_550
          · replace hF := hF.trans (congrArg (dv_k f_X6_reckon_11b) (if_neg (not_not_intro c30)))
            refine lv_aload_n hx hb dX6_reckon_33 rfl (lv_at hl 1 rfl) ?_
            refine th_getO (j := 0) (r2 := 40) hC cf_X10 hB.1 h1 ro_39 rfl rfl kf_X6_70 dX6_reckon_34 (fun b10 mb10 hb10 => ?_)
            have sb10 := (th_F_o hB.2.2 h1 ro_39 (j := 0) (by decide) (by decide)).symm.trans mb10
            refine lv_iload hx hb dX6_reckon_37 (lv_at hl 4 rfl) ?_
            refine th_ialdF hC hB.1 hb10 ro_40 rfl (Eq.refl _) (by omega) (by omega) rfl dX6_reckon_39 (fun x11 mx11 lx11 ux11 => ?_)
            replace hF := hF.trans (congrArg (dv_k f_X6_reckon_11b) (dv_bn (dv_aldI hB.1 hU hb10 ow_40 (z := j11_5.toInt) mx11 (by omega))))
            refine lv_istore (lv' := [(6, .int x11), (0, .ref a0), (1, .ref p1), (3, .int p3), (4, .int j11_4), (5, .int j11_5)]) hx hb dX6_reckon_40 hl (by decide) rfl (fun ls hl => ?_)
            refine lv_iload hx hb dX6_reckon_42 (lv_at hl 0 rfl) ?_
            refine lv_sipush (v := 3000) hx hb dX6_reckon_44 (by decide) ?_
            have jn538 : ∀ (H538 : Heap) (locs : List Loc) (ls : Array Slot) (j538_4 : Int32) (j538_5 : Int32), th_B G Γ Γ [(24, 0), (23, 3)] H0 H538 locs → th_RC G Γ H538 → lv_has ls 13 [(0, .ref a0), (1, .ref p1), (3, .int p3), (4, .int j538_4), (5, .int j538_5)] → F = dv_k f_X6_reckon_11b (f_X6_reckon_538 (dv G Γ H538) ((a0 : Int)) ((p1 : Int)) (p3.toInt) (j538_4.toInt) (j538_5.toInt)) → 0 ≤ j538_4.toInt → j538_4.toInt ≤ 63 → 0 ≤ j538_5.toInt → j538_5.toInt ≤ 2147483646 → j11_5.toInt ≤ j538_5.toInt → W p l e ({ frames := 0, cells := 0, slots := 0, locals := 0 } : Room) s m ([.ref a0, .ref p1, .int p2, .int p3] : List Value).toArray below meth c H538 locs 0 0 (MQ below (th_Q (fun (v : Option Value) (H1 : Heap) => ∃ r : Int64, v = some (.long r) ∧ th_I G Γ H1 ∧ th_F G Γ [(24, 0), (23, 3)] H0 H1 ∧ th_RC G Γ H1 ∧ (f_X6_reckon (dv G Γ H0) (a0 : Int) (p1 : Int) p2.toInt p3.toInt = (dv G Γ H1, r.toInt))) G) ([.ref a0, .ref p1, .int p2, .int p3] : List Value).toArray s 0 0 (fun q => G.2.2 ≤ q)) (F0 m 538 ls []) := by
              intro H538 locs ls j538_4 j538_5 hB hR hl hF g538_0 g538_1 g538_2 g538_3 g538_4
              have lj538_4 := ti_lo j538_4; have uj538_4 := ti_hi j538_4
              have lj538_5 := ti_lo j538_5; have uj538_5 := ti_hi j538_5
              have mm12 := (th_F_o hB.2.2 h1 ro_39 (j := 2) (by decide) (by decide)).trans sx4
              have mm13 := (th_F_o hB.2.2 h1 ro_39 (j := 0) (by decide) (by decide)).trans sb10
              replace hF := hF.trans (congrArg (dv_k f_X6_reckon_11b) (f_X6_reckon_538.eq_1 (dv G Γ H538) ((a0 : Int)) ((p1 : Int)) (p3.toInt) (j538_4.toInt) (j538_5.toInt)))
              refine tr_iinc (fun x14 => [(5, .int x14), (0, .ref a0), (1, .ref p1), (3, .int p3), (4, .int j538_4)]) hx hb dX6_reckon_538 hl (k := 4) rfl (Eq.refl _) tk_1 (by omega) (by omega) (by decide) (fun _ => rfl) (fun x14 ls ex14 hl => ?_)
              replace hF := hF.trans (congrArg (dv_k f_X6_reckon_11b) (dv_bn (ex14.symm)))
              refine lv_goto (tgt := 11) hx hb dX6_reckon_541 (by decide) ?_
              replace hF := hF.trans (dv_kl)
              exact ih11 H538 locs ls j538_4 x14 hB hR (lv_sub hl [1, 2, 3, 4, 0] rfl) hF (by omega) (by omega) (by omega) (by omega)
            refine tr_icmp_ge (tgt := 128) hx hb dX6_reckon_47 (by decide) (Eq.refl _) tk_3000 (fun c47 => ?_) (fun c47 => ?_)
            · replace hF := hF.trans (congrArg (dv_k f_X6_reckon_11b) (if_pos c47))
              refine lv_iload hx hb dX6_reckon_128 (lv_at hl 4 rfl) ?_
              refine lv_iconst (v := 1) hx hb dX6_reckon_130 (by decide) ?_
              have jn148 : ∀ (locs : List Loc) (ls : Array Slot) , th_B G Γ Γ [(24, 0), (23, 3)] H0 H11 locs → lv_has ls 13 [(0, .ref a0), (1, .ref p1), (3, .int p3), (4, .int j11_4), (5, .int j11_5)] → F = dv_k f_X6_reckon_11b (f_X6_reckon_148 (dv G Γ H11) ((a0 : Int)) ((p1 : Int)) (p3.toInt) (j11_4.toInt) (j11_5.toInt)) → W p l e ({ frames := 0, cells := 0, slots := 0, locals := 0 } : Room) s m ([.ref a0, .ref p1, .int p2, .int p3] : List Value).toArray below meth c H11 locs 0 0 (MQ below (th_Q (fun (v : Option Value) (H1 : Heap) => ∃ r : Int64, v = some (.long r) ∧ th_I G Γ H1 ∧ th_F G Γ [(24, 0), (23, 3)] H0 H1 ∧ th_RC G Γ H1 ∧ (f_X6_reckon (dv G Γ H0) (a0 : Int) (p1 : Int) p2.toInt p3.toInt = (dv G Γ H1, r.toInt))) G) ([.ref a0, .ref p1, .int p2, .int p3] : List Value).toArray s 0 0 (fun q => G.2.2 ≤ q)) (F0 m 148 ls []) := by
                intro locs ls hB hl hF
                replace hF := hF.trans (congrArg (dv_k f_X6_reckon_11b) (f_X6_reckon_148.eq_1 (dv G Γ H11) ((a0 : Int)) ((p1 : Int)) (p3.toInt) (j11_4.toInt) (j11_5.toInt)))
                refine lv_aload_n hx hb dX6_reckon_148 rfl (lv_at hl 0 rfl) ?_
                refine lv_iconst (v := 1) hx hb dX6_reckon_149 (by decide) ?_
                refine th_put hC cf_X6 hB h0 (Or.inl h0) ro_23 rfl (j := 3) rfl (th_sI (by decide) (by decide)) (by decide) rfl narrow_b1 rfl kf_X6_26 dX6_reckon_150 (fun H150 locs hB hf hst150 => ?_)
                have mm15 := (th_F_o hf h1 ro_39 (j := 2) (by decide) (by decide)).trans mx4
                have mm16 := (th_F_o hf h1 ro_39 (j := 0) (by decide) (by decide)).trans mb10
                have hR := th_RC_F hB.1 hR hf (th_T_s h0 ro_23 hst150) (by decide)
                replace hF := hF.trans (congrArg (dv_k f_X6_reckon_11b) (dv_bn (dv_putI hB.1 h0 ro_23 (j := 3) rfl (th_apart hC cf_X6) hst150 tk_1 (by decide))))
                have mm17 := hst150.2.1
                refine lv_goto (tgt := 538) hx hb dX6_reckon_153 (by decide) ?_
                exact jn538 H150 locs ls j11_4 j11_5 hB hR (lv_sub hl [0, 1, 2, 3, 4] rfl) hF (by omega) (by omega) (by omega) (by omega) (by omega)
              refine tr_icmp_lt (tgt := 148) hx hb dX6_reckon_131 (by decide) (Eq.refl _) tk_1 (fun c131 => ?_) (fun c131 => ?_)
              · replace hF := hF.trans (congrArg (dv_k f_X6_reckon_11b) (if_pos c131))
                exact jn148 locs ls hB (lv_sub hl [1, 2, 3, 4, 5] rfl) hF
              · replace hF := hF.trans (congrArg (dv_k f_X6_reckon_11b) (if_neg (Int.not_lt.mpr c131)))
                refine lv_iload hx hb dX6_reckon_134 (lv_at hl 4 rfl) ?_
                refine lv_iconst (v := 2) hx hb dX6_reckon_136 (by decide) ?_
                have jn156 : ∀ (locs : List Loc) (ls : Array Slot) , th_B G Γ Γ [(24, 0), (23, 3)] H0 H11 locs → lv_has ls 13 [(6, .int x11), (0, .ref a0), (1, .ref p1), (3, .int p3), (4, .int j11_4), (5, .int j11_5)] → F = dv_k f_X6_reckon_11b (f_X6_reckon_156 (dv G Γ H11) (x11.toInt) ((a0 : Int)) ((p1 : Int)) (p3.toInt) (j11_4.toInt) (j11_5.toInt)) → 2 ≤ j11_4.toInt ∨ 3008 ≤ x11.toInt → W p l e ({ frames := 0, cells := 0, slots := 0, locals := 0 } : Room) s m ([.ref a0, .ref p1, .int p2, .int p3] : List Value).toArray below meth c H11 locs 0 0 (MQ below (th_Q (fun (v : Option Value) (H1 : Heap) => ∃ r : Int64, v = some (.long r) ∧ th_I G Γ H1 ∧ th_F G Γ [(24, 0), (23, 3)] H0 H1 ∧ th_RC G Γ H1 ∧ (f_X6_reckon (dv G Γ H0) (a0 : Int) (p1 : Int) p2.toInt p3.toInt = (dv G Γ H1, r.toInt))) G) ([.ref a0, .ref p1, .int p2, .int p3] : List Value).toArray s 0 0 (fun q => G.2.2 ≤ q)) (F0 m 156 ls []) := by
                  intro locs ls hB hl hF g156_0
                  replace hF := hF.trans (congrArg (dv_k f_X6_reckon_11b) (f_X6_reckon_156.eq_1 (dv G Γ H11) (x11.toInt) ((a0 : Int)) ((p1 : Int)) (p3.toInt) (j11_4.toInt) (j11_5.toInt)))
                  refine lv_iload hx hb dX6_reckon_156 (lv_at hl 0 rfl) ?_
                  refine lv_sipush (v := 3009) hx hb dX6_reckon_158 (by decide) ?_
                  have jn172 : ∀ (locs : List Loc) (ls : Array Slot) , th_B G Γ Γ [(24, 0), (23, 3)] H0 H11 locs → lv_has ls 13 [(6, .int x11), (0, .ref a0), (1, .ref p1), (3, .int p3), (4, .int j11_4), (5, .int j11_5)] → F = dv_k f_X6_reckon_11b (f_X6_reckon_172 (dv G Γ H11) (x11.toInt) ((a0 : Int)) ((p1 : Int)) (p3.toInt) (j11_4.toInt) (j11_5.toInt)) → W p l e ({ frames := 0, cells := 0, slots := 0, locals := 0 } : Room) s m ([.ref a0, .ref p1, .int p2, .int p3] : List Value).toArray below meth c H11 locs 0 0 (MQ below (th_Q (fun (v : Option Value) (H1 : Heap) => ∃ r : Int64, v = some (.long r) ∧ th_I G Γ H1 ∧ th_F G Γ [(24, 0), (23, 3)] H0 H1 ∧ th_RC G Γ H1 ∧ (f_X6_reckon (dv G Γ H0) (a0 : Int) (p1 : Int) p2.toInt p3.toInt = (dv G Γ H1, r.toInt))) G) ([.ref a0, .ref p1, .int p2, .int p3] : List Value).toArray s 0 0 (fun q => G.2.2 ≤ q)) (F0 m 172 ls []) := by
                    intro locs ls hB hl hF
                    replace hF := hF.trans (congrArg (dv_k f_X6_reckon_11b) (f_X6_reckon_172.eq_1 (dv G Γ H11) (x11.toInt) ((a0 : Int)) ((p1 : Int)) (p3.toInt) (j11_4.toInt) (j11_5.toInt)))
                    refine tr_iinc (fun x18 => [(5, .int x18), (6, .int x11), (0, .ref a0), (1, .ref p1), (3, .int p3), (4, .int j11_4)]) hx hb dX6_reckon_172 hl (k := 5) rfl (Eq.refl _) tk_1 (by omega) (by omega) (by decide) (fun _ => rfl) (fun x18 ls ex18 hl => ?_)
                    replace hF := hF.trans (congrArg (dv_k f_X6_reckon_11b) (dv_bn (ex18.symm)))
                    refine lv_aload_n hx hb dX6_reckon_175 rfl (lv_at hl 2 rfl) ?_
                    refine th_getO (j := 0) (r2 := 24) hC cf_X6 hB.1 h0 ro_23 rfl rfl kf_X6_9 dX6_reckon_176 (fun b19 mb19 hb19 => ?_)
                    have sb19 := (th_F_o hB.2.2 h0 ro_23 (j := 0) (by decide) (by decide)).symm.trans mb19
                    refine lv_iload hx hb dX6_reckon_179 (lv_at hl 5 rfl) ?_
                    refine lv_iconst (v := 1) hx hb dX6_reckon_181 (by decide) ?_
                    refine tr_isub hx hb dX6_reckon_182 (Eq.refl _) tk_1 (by omega) (by omega) (fun x20 ex20 => ?_)
                    replace hF := hF.trans (congrArg (dv_k f_X6_reckon_11b) (dv_bn (ex20.symm)))
                    refine th_laldF hC hB.1 hb19 ro_24 rfl (Eq.refl _) (by omega) (by omega) rfl dX6_reckon_183 (fun y21 my21 ly21 uy21 => ?_)
                    replace hF := hF.trans (congrArg (dv_k f_X6_reckon_11b) (dv_bn (dv_aldL hB.1 hU hb19 ow_24 (z := x20.toInt) my21 (by omega))))
                    refine lv_lconst (v := 0) hx hb dX6_reckon_184 rfl ?_
                    refine tr_lcmp2 hx hb dX6_reckon_185 (fun x22 fx22 gx22 ix22 => ?_)
                    replace hF := hF.trans (congrArg (dv_k f_X6_reckon_11b) (dv_bn (dv_lcmp_e (Eq.refl (y21.toInt)) (rfl : (0 : Int64).toInt = 0) fx22 ix22)))
                    have jn194 : ∀ (locs : List Loc) (ls : Array Slot) (s194_0 : Int32), th_B G Γ Γ [(24, 0), (23, 3)] H0 H11 locs → lv_has ls 13 [(5, .int x18), (6, .int x11), (0, .ref a0), (1, .ref p1), (3, .int p3), (4, .int j11_4)] → F = dv_k f_X6_reckon_11b (f_X6_reckon_194 (dv G Γ H11) (x18.toInt) (x11.toInt) ((a0 : Int)) ((p1 : Int)) (p3.toInt) (j11_4.toInt) (s194_0.toInt)) → 0 ≤ s194_0.toInt → s194_0.toInt ≤ 1 → W p l e ({ frames := 0, cells := 0, slots := 0, locals := 0 } : Room) s m ([.ref a0, .ref p1, .int p2, .int p3] : List Value).toArray below meth c H11 locs 0 0 (MQ below (th_Q (fun (v : Option Value) (H1 : Heap) => ∃ r : Int64, v = some (.long r) ∧ th_I G Γ H1 ∧ th_F G Γ [(24, 0), (23, 3)] H0 H1 ∧ th_RC G Γ H1 ∧ (f_X6_reckon (dv G Γ H0) (a0 : Int) (p1 : Int) p2.toInt p3.toInt = (dv G Γ H1, r.toInt))) G) ([.ref a0, .ref p1, .int p2, .int p3] : List Value).toArray s 0 0 (fun q => G.2.2 ≤ q)) (F0 m 194 ls [.int s194_0]) := by
                      intro locs ls s194_0 hB hl hF g194_0 g194_1
                      have ls194_0 := ti_lo s194_0; have us194_0 := ti_hi s194_0
                      replace hF := hF.trans (congrArg (dv_k f_X6_reckon_11b) (f_X6_reckon_194.eq_1 (dv G Γ H11) (x18.toInt) (x11.toInt) ((a0 : Int)) ((p1 : Int)) (p3.toInt) (j11_4.toInt) (s194_0.toInt)))
                      refine lv_iload hx hb dX6_reckon_194 (lv_at hl 1 rfl) ?_
                      refine lv_sipush (v := 3010) hx hb dX6_reckon_196 (by decide) ?_
                      have jn207 : ∀ (locs : List Loc) (ls : Array Slot) (s207_1 : Int32), th_B G Γ Γ [(24, 0), (23, 3)] H0 H11 locs → lv_has ls 13 [(5, .int x18), (0, .ref a0), (1, .ref p1), (3, .int p3), (4, .int j11_4)] → F = dv_k f_X6_reckon_11b (f_X6_reckon_207 (dv G Γ H11) (x18.toInt) ((a0 : Int)) ((p1 : Int)) (p3.toInt) (j11_4.toInt) (s194_0.toInt) (s207_1.toInt)) → 0 ≤ s207_1.toInt → s207_1.toInt ≤ 1 → W p l e ({ frames := 0, cells := 0, slots := 0, locals := 0 } : Room) s m ([.ref a0, .ref p1, .int p2, .int p3] : List Value).toArray below meth c H11 locs 0 0 (MQ below (th_Q (fun (v : Option Value) (H1 : Heap) => ∃ r : Int64, v = some (.long r) ∧ th_I G Γ H1 ∧ th_F G Γ [(24, 0), (23, 3)] H0 H1 ∧ th_RC G Γ H1 ∧ (f_X6_reckon (dv G Γ H0) (a0 : Int) (p1 : Int) p2.toInt p3.toInt = (dv G Γ H1, r.toInt))) G) ([.ref a0, .ref p1, .int p2, .int p3] : List Value).toArray s 0 0 (fun q => G.2.2 ≤ q)) (F0 m 207 ls [.int s207_1, .int s194_0]) := by
                        intro locs ls s207_1 hB hl hF g207_0 g207_1
                        have ls207_1 := ti_lo s207_1; have us207_1 := ti_hi s207_1
                        replace hF := hF.trans (congrArg (dv_k f_X6_reckon_11b) (f_X6_reckon_207.eq_1 (dv G Γ H11) (x18.toInt) ((a0 : Int)) ((p1 : Int)) (p3.toInt) (j11_4.toInt) (s194_0.toInt) (s207_1.toInt)))
                        have jn215 : ∀ (locs : List Loc) (ls : Array Slot) (s215_0 : Int32), th_B G Γ Γ [(24, 0), (23, 3)] H0 H11 locs → lv_has ls 13 [(5, .int x18), (0, .ref a0), (1, .ref p1), (3, .int p3), (4, .int j11_4)] → F = dv_k f_X6_reckon_11b (f_X6_reckon_215 (dv G Γ H11) (x18.toInt) ((a0 : Int)) ((p1 : Int)) (p3.toInt) (j11_4.toInt) (s215_0.toInt)) → 0 ≤ s215_0.toInt → s215_0.toInt ≤ 1 → W p l e ({ frames := 0, cells := 0, slots := 0, locals := 0 } : Room) s m ([.ref a0, .ref p1, .int p2, .int p3] : List Value).toArray below meth c H11 locs 0 0 (MQ below (th_Q (fun (v : Option Value) (H1 : Heap) => ∃ r : Int64, v = some (.long r) ∧ th_I G Γ H1 ∧ th_F G Γ [(24, 0), (23, 3)] H0 H1 ∧ th_RC G Γ H1 ∧ (f_X6_reckon (dv G Γ H0) (a0 : Int) (p1 : Int) p2.toInt p3.toInt = (dv G Γ H1, r.toInt))) G) ([.ref a0, .ref p1, .int p2, .int p3] : List Value).toArray s 0 0 (fun q => G.2.2 ≤ q)) (F0 m 215 ls [.int s215_0]) := by
                          intro locs ls s215_0 hB hl hF g215_0 g215_1
                          have ls215_0 := ti_lo s215_0; have us215_0 := ti_hi s215_0
                          replace hF := hF.trans (congrArg (dv_k f_X6_reckon_11b) (f_X6_reckon_215.eq_1 (dv G Γ H11) (x18.toInt) ((a0 : Int)) ((p1 : Int)) (p3.toInt) (j11_4.toInt) (s215_0.toInt)))
                          refine lv_istore (lv' := [(7, .int s215_0), (5, .int x18), (0, .ref a0), (1, .ref p1), (3, .int p3), (4, .int j11_4)]) hx hb dX6_reckon_215 hl (by decide) rfl (fun ls hl => ?_)
                          refine lv_iload hx hb dX6_reckon_217 (lv_at hl 0 rfl) ?_
                          have jn256 : ∀ (locs : List Loc) (ls : Array Slot) (j256_5 : Int32), th_B G Γ Γ [(24, 0), (23, 3)] H0 H11 locs → lv_has ls 13 [(7, .int s215_0), (0, .ref a0), (1, .ref p1), (3, .int p3), (4, .int j11_4), (5, .int j256_5)] → F = dv_k f_X6_reckon_11b (f_X6_reckon_256 (dv G Γ H11) (s215_0.toInt) ((a0 : Int)) ((p1 : Int)) (p3.toInt) (j11_4.toInt) (j256_5.toInt)) → 1 ≤ j256_5.toInt → j256_5.toInt ≤ 2147483646 → j11_5.toInt + 1 ≤ j256_5.toInt → W p l e ({ frames := 0, cells := 0, slots := 0, locals := 0 } : Room) s m ([.ref a0, .ref p1, .int p2, .int p3] : List Value).toArray below meth c H11 locs 0 0 (MQ below (th_Q (fun (v : Option Value) (H1 : Heap) => ∃ r : Int64, v = some (.long r) ∧ th_I G Γ H1 ∧ th_F G Γ [(24, 0), (23, 3)] H0 H1 ∧ th_RC G Γ H1 ∧ (f_X6_reckon (dv G Γ H0) (a0 : Int) (p1 : Int) p2.toInt p3.toInt = (dv G Γ H1, r.toInt))) G) ([.ref a0, .ref p1, .int p2, .int p3] : List Value).toArray s 0 0 (fun q => G.2.2 ≤ q)) (F0 m 256 ls []) := by
                            intro locs ls j256_5 hB hl hF g256_0 g256_1 g256_2
                            have lj256_5 := ti_lo j256_5; have uj256_5 := ti_hi j256_5
                            replace hF := hF.trans (congrArg (dv_k f_X6_reckon_11b) (f_X6_reckon_256.eq_1 (dv G Γ H11) (s215_0.toInt) ((a0 : Int)) ((p1 : Int)) (p3.toInt) (j11_4.toInt) (j256_5.toInt)))
                            refine lv_iload hx hb dX6_reckon_256 (lv_at hl 4 rfl) ?_
                            refine lv_iload hx hb dX6_reckon_258 (lv_at hl 0 rfl) ?_
                            have jn268 : ∀ (locs : List Loc) (ls : Array Slot) (s268_1 : Int32), th_B G Γ Γ [(24, 0), (23, 3)] H0 H11 locs → lv_has ls 13 [(0, .ref a0), (1, .ref p1), (3, .int p3), (5, .int j256_5)] → F = dv_k f_X6_reckon_11b (f_X6_reckon_268 (dv G Γ H11) ((a0 : Int)) ((p1 : Int)) (p3.toInt) (j256_5.toInt) (j11_4.toInt) (s268_1.toInt)) → 0 ≤ s268_1.toInt → s268_1.toInt ≤ 1 → W p l e ({ frames := 0, cells := 0, slots := 0, locals := 0 } : Room) s m ([.ref a0, .ref p1, .int p2, .int p3] : List Value).toArray below meth c H11 locs 0 0 (MQ below (th_Q (fun (v : Option Value) (H1 : Heap) => ∃ r : Int64, v = some (.long r) ∧ th_I G Γ H1 ∧ th_F G Γ [(24, 0), (23, 3)] H0 H1 ∧ th_RC G Γ H1 ∧ (f_X6_reckon (dv G Γ H0) (a0 : Int) (p1 : Int) p2.toInt p3.toInt = (dv G Γ H1, r.toInt))) G) ([.ref a0, .ref p1, .int p2, .int p3] : List Value).toArray s 0 0 (fun q => G.2.2 ≤ q)) (F0 m 268 ls [.int s268_1, .int j11_4]) := by
                              intro locs ls s268_1 hB hl hF g268_0 g268_1
                              have ls268_1 := ti_lo s268_1; have us268_1 := ti_hi s268_1
                              replace hF := hF.trans (congrArg (dv_k f_X6_reckon_11b) (f_X6_reckon_268.eq_1 (dv G Γ H11) ((a0 : Int)) ((p1 : Int)) (p3.toInt) (j256_5.toInt) (j11_4.toInt) (s268_1.toInt)))
                              refine tr_isub hx hb dX6_reckon_268 (Eq.refl _) (Eq.refl _) (by omega) (by omega) (fun x23 ex23 => ?_)
                              replace hF := hF.trans (congrArg (dv_k f_X6_reckon_11b) (dv_bn (ex23.symm)))
                              refine lv_istore (lv' := [(4, .int x23), (0, .ref a0), (1, .ref p1), (3, .int p3), (5, .int j256_5)]) hx hb dX6_reckon_269 hl (by decide) rfl (fun ls hl => ?_)
                              refine lv_goto (tgt := 538) hx hb dX6_reckon_271 (by decide) ?_
                              exact jn538 H11 locs ls x23 j256_5 hB hR (lv_sub hl [1, 2, 3, 0, 4] rfl) hF (by omega) (by omega) (by omega) (by omega) (by omega)
                            refine tr_if_eq (tgt := 267) hx hb dX6_reckon_260 (by decide) (Eq.refl _) (fun c260 => ?_) (fun c260 => ?_)
                            · replace hF := hF.trans (congrArg (dv_k f_X6_reckon_11b) (if_pos c260))
                              refine lv_iconst (v := 1) hx hb dX6_reckon_267 (by decide) ?_
                              exact jn268 locs ls 1 hB (lv_sub hl [1, 2, 3, 5] rfl) (by rw [tk_1]; exact hF) (by decide) (by decide)
                            · replace hF := hF.trans (congrArg (dv_k f_X6_reckon_11b) (if_neg c260))
                              refine lv_iconst (v := 0) hx hb dX6_reckon_263 (by decide) ?_
                              refine lv_goto (tgt := 268) hx hb dX6_reckon_264 (by decide) ?_
                              exact jn268 locs ls 0 hB (lv_sub hl [1, 2, 3, 5] rfl) (by rw [tk_0]; exact hF) (by decide) (by decide)
                          refine tr_if_eq (tgt := 256) hx hb dX6_reckon_219 (by decide) (Eq.refl _) (fun c219 => ?_) (fun c219 => ?_)
                          · replace hF := hF.trans (congrArg (dv_k f_X6_reckon_11b) (if_pos c219))
                            exact jn256 locs ls x18 hB (lv_sub hl [0, 2, 3, 4, 5, 1] rfl) hF (by omega) (by omega) (by omega)
                          · replace hF := hF.trans (congrArg (dv_k f_X6_reckon_11b) (if_neg c219))
                            refine lv_iload hx hb dX6_reckon_222 (lv_at hl 1 rfl) ?_
                            refine lv_aload_n hx hb dX6_reckon_224 rfl (lv_at hl 3 rfl) ?_
                            refine th_getK hC cf_X10 hB.1 h1 ro_39 rfl (j := 2) (by decide) mx4 kf_X6_67 dX6_reckon_225 ?_
                            replace hF := hF.trans (congrArg (dv_k f_X6_reckon_11b) (dv_bn (dv_getI h1 ro_39 (j := 2) rfl mx4 (by decide))))
                            refine tr_icmp_ge (tgt := 256) hx hb dX6_reckon_228 (by decide) (Eq.refl _) (Eq.refl _) (fun c228 => ?_) (fun c228 => ?_)
                            · replace hF := hF.trans (congrArg (dv_k f_X6_reckon_11b) (if_pos c228))
                              exact jn256 locs ls x18 hB (lv_sub hl [0, 2, 3, 4, 5, 1] rfl) hF (by omega) (by omega) (by omega)
                            · replace hF := hF.trans (congrArg (dv_k f_X6_reckon_11b) (if_neg (Int.not_le.mpr c228)))
                              refine lv_aload_n hx hb dX6_reckon_231 rfl (lv_at hl 3 rfl) ?_
                              refine th_getK hC cf_X10 hB.1 h1 ro_39 rfl (j := 0) (by decide) mb10 kf_X6_70 dX6_reckon_232 ?_
                              refine lv_iload hx hb dX6_reckon_235 (lv_at hl 1 rfl) ?_
                              refine th_ialdF hC hB.1 hb10 ro_40 rfl (Eq.refl _) (by omega) (by omega) rfl dX6_reckon_237 (fun x24 mx24 lx24 ux24 => ?_)
                              replace hF := hF.trans (congrArg (dv_k f_X6_reckon_11b) (dv_bn (dv_aldI hB.1 hU hb10 ow_40 (z := x18.toInt) mx24 (by omega))))
                              refine lv_iconst (v := 1) hx hb dX6_reckon_238 (by decide) ?_
                              refine tr_isub hx hb dX6_reckon_239 (Eq.refl _) tk_1 (by omega) (by omega) (fun x25 ex25 => ?_)
                              replace hF := hF.trans (congrArg (dv_k f_X6_reckon_11b) (dv_bn (ex25.symm)))
                              refine lv_iload hx hb dX6_reckon_240 (lv_at hl 1 rfl) ?_
                              refine tr_icmp_le (tgt := 256) hx hb dX6_reckon_242 (by decide) (Eq.refl _) (Eq.refl _) (fun c242 => ?_) (fun c242 => ?_)
                              · replace hF := hF.trans (congrArg (dv_k f_X6_reckon_11b) (if_pos c242))
                                exact jn256 locs ls x18 hB (lv_sub hl [0, 2, 3, 4, 5, 1] rfl) hF (by omega) (by omega) (by omega)
                              · replace hF := hF.trans (congrArg (dv_k f_X6_reckon_11b) (if_neg (Int.not_le.mpr c242)))
                                refine lv_aload_n hx hb dX6_reckon_245 rfl (lv_at hl 3 rfl) ?_
                                refine th_getK hC cf_X10 hB.1 h1 ro_39 rfl (j := 0) (by decide) mb10 kf_X6_70 dX6_reckon_246 ?_
                                refine lv_iload hx hb dX6_reckon_249 (lv_at hl 1 rfl) ?_
                                refine th_ialdF hC hB.1 hb10 ro_40 rfl (Eq.refl _) (by omega) (by omega) rfl dX6_reckon_251 (fun x26 mx26 lx26 ux26 => ?_)
                                replace hF := hF.trans (congrArg (dv_k f_X6_reckon_11b) (dv_bn (dv_aldI hB.1 hU hb10 ow_40 (z := x18.toInt) mx26 (by omega))))
                                have qx26 : x26.toInt = x24.toInt := by rw [show x26 = x24 from Value.int.inj (mx26.symm.trans mx24)]
                                refine lv_iconst (v := 1) hx hb dX6_reckon_252 (by decide) ?_
                                refine tr_isub hx hb dX6_reckon_253 (Eq.refl _) tk_1 (by omega) (by omega) (fun x27 ex27 => ?_)
                                replace hF := hF.trans (congrArg (dv_k f_X6_reckon_11b) (dv_bn (ex27.symm)))
                                refine lv_istore (lv' := [(5, .int x27), (7, .int s215_0), (0, .ref a0), (1, .ref p1), (3, .int p3), (4, .int j11_4)]) hx hb dX6_reckon_254 hl (by decide) rfl (fun ls hl => ?_)
                                exact jn256 locs ls x27 hB (lv_sub hl [1, 2, 3, 4, 5, 0] rfl) hF (by omega) (by omega) (by omega)
                        refine tr_icmp_ne (tgt := 214) hx hb dX6_reckon_207 (by decide) (Eq.refl _) (Eq.refl _) (fun c207 => ?_) (fun c207 => ?_)
                        · replace hF := hF.trans (congrArg (dv_k f_X6_reckon_11b) (if_pos c207))
                          refine lv_iconst (v := 0) hx hb dX6_reckon_214 (by decide) ?_
                          exact jn215 locs ls 0 hB (lv_sub hl [0, 1, 2, 3, 4] rfl) (by rw [tk_0]; exact hF) (by decide) (by decide)
                        · replace hF := hF.trans (congrArg (dv_k f_X6_reckon_11b) (if_neg (not_not_intro c207)))
                          refine lv_iconst (v := 1) hx hb dX6_reckon_210 (by decide) ?_
                          refine lv_goto (tgt := 215) hx hb dX6_reckon_211 (by decide) ?_
                          exact jn215 locs ls 1 hB (lv_sub hl [0, 1, 2, 3, 4] rfl) (by rw [tk_1]; exact hF) (by decide) (by decide)
                      refine tr_icmp_ne (tgt := 206) hx hb dX6_reckon_199 (by decide) (Eq.refl _) tk_3010 (fun c199 => ?_) (fun c199 => ?_)
                      · replace hF := hF.trans (congrArg (dv_k f_X6_reckon_11b) (if_pos c199))
                        refine lv_iconst (v := 0) hx hb dX6_reckon_206 (by decide) ?_
                        exact jn207 locs ls 0 hB (lv_sub hl [0, 2, 3, 4, 5] rfl) (by rw [tk_0]; exact hF) (by decide) (by decide)
                      · replace hF := hF.trans (congrArg (dv_k f_X6_reckon_11b) (if_neg (not_not_intro c199)))
                        refine lv_iconst (v := 1) hx hb dX6_reckon_202 (by decide) ?_
                        refine lv_goto (tgt := 207) hx hb dX6_reckon_203 (by decide) ?_
                        exact jn207 locs ls 1 hB (lv_sub hl [0, 2, 3, 4, 5] rfl) (by rw [tk_1]; exact hF) (by decide) (by decide)
                    refine tr_if_eq (tgt := 193) hx hb dX6_reckon_186 (by decide) (Eq.refl _) (fun c186 => ?_) (fun c186 => ?_)
                    · replace hF := hF.trans (congrArg (dv_k f_X6_reckon_11b) (if_pos c186))
                      refine lv_iconst (v := 0) hx hb dX6_reckon_193 (by decide) ?_
                      exact jn194 locs ls 0 hB (lv_sub hl [0, 1, 2, 3, 4, 5] rfl) (by rw [tk_0]; exact hF) (by decide) (by decide)
                    · replace hF := hF.trans (congrArg (dv_k f_X6_reckon_11b) (if_neg c186))
                      refine lv_iconst (v := 1) hx hb dX6_reckon_189 (by decide) ?_
                      refine lv_goto (tgt := 194) hx hb dX6_reckon_190 (by decide) ?_
                      exact jn194 locs ls 1 hB (lv_sub hl [0, 1, 2, 3, 4, 5] rfl) (by rw [tk_1]; exact hF) (by decide) (by decide)
                  refine tr_icmp_eq (tgt := 172) hx hb dX6_reckon_161 (by decide) (Eq.refl _) tk_3009 (fun c161 => ?_) (fun c161 => ?_)
                  · replace hF := hF.trans (congrArg (dv_k f_X6_reckon_11b) (if_pos c161))
                    exact jn172 locs ls hB (lv_sub hl [0, 1, 2, 3, 4, 5] rfl) hF
                  · replace hF := hF.trans (congrArg (dv_k f_X6_reckon_11b) (if_neg c161))
                    refine lv_iload hx hb dX6_reckon_164 (lv_at hl 0 rfl) ?_
                    refine lv_sipush (v := 3010) hx hb dX6_reckon_166 (by decide) ?_
                    refine tr_icmp_ne (tgt := 274) hx hb dX6_reckon_169 (by decide) (Eq.refl _) tk_3010 (fun c169 => ?_) (fun c169 => ?_)
                    · replace hF := hF.trans (congrArg (dv_k f_X6_reckon_11b) (if_pos c169))
                      refine lv_iload hx hb dX6_reckon_274 (lv_at hl 4 rfl) ?_
                      refine lv_iload hx hb dX6_reckon_276 (lv_at hl 0 rfl) ?_
                      refine lv_sipush (v := 3008) hx hb dX6_reckon_278 (by decide) ?_
                      have jn289 : ∀ (locs : List Loc) (ls : Array Slot) (s289_1 : Int32), th_B G Γ Γ [(24, 0), (23, 3)] H0 H11 locs → lv_has ls 13 [(6, .int x11), (0, .ref a0), (1, .ref p1), (3, .int p3), (5, .int j11_5)] → F = dv_k f_X6_reckon_11b (f_X6_reckon_289 (dv G Γ H11) (x11.toInt) ((a0 : Int)) ((p1 : Int)) (p3.toInt) (j11_5.toInt) (j11_4.toInt) (s289_1.toInt)) → 0 ≤ s289_1.toInt → s289_1.toInt ≤ 1 → s289_1.toInt + 1 ≤ j11_4.toInt → W p l e ({ frames := 0, cells := 0, slots := 0, locals := 0 } : Room) s m ([.ref a0, .ref p1, .int p2, .int p3] : List Value).toArray below meth c H11 locs 0 0 (MQ below (th_Q (fun (v : Option Value) (H1 : Heap) => ∃ r : Int64, v = some (.long r) ∧ th_I G Γ H1 ∧ th_F G Γ [(24, 0), (23, 3)] H0 H1 ∧ th_RC G Γ H1 ∧ (f_X6_reckon (dv G Γ H0) (a0 : Int) (p1 : Int) p2.toInt p3.toInt = (dv G Γ H1, r.toInt))) G) ([.ref a0, .ref p1, .int p2, .int p3] : List Value).toArray s 0 0 (fun q => G.2.2 ≤ q)) (F0 m 289 ls [.int s289_1, .int j11_4]) := by
                        intro locs ls s289_1 hB hl hF g289_0 g289_1 g289_2
                        have ls289_1 := ti_lo s289_1; have us289_1 := ti_hi s289_1
                        replace hF := hF.trans (congrArg (dv_k f_X6_reckon_11b) (f_X6_reckon_289.eq_1 (dv G Γ H11) (x11.toInt) ((a0 : Int)) ((p1 : Int)) (p3.toInt) (j11_5.toInt) (j11_4.toInt) (s289_1.toInt)))
                        refine tr_isub hx hb dX6_reckon_289 (Eq.refl _) (Eq.refl _) (by omega) (by omega) (fun x28 ex28 => ?_)
                        replace hF := hF.trans (congrArg (dv_k f_X6_reckon_11b) (dv_bn (ex28.symm)))
                        refine lv_istore (lv' := [(4, .int x28), (6, .int x11), (0, .ref a0), (1, .ref p1), (3, .int p3), (5, .int j11_5)]) hx hb dX6_reckon_290 hl (by decide) rfl (fun ls hl => ?_)
                        refine lv_aload_n hx hb dX6_reckon_292 rfl (lv_at hl 2 rfl) ?_
                        refine th_getO (j := 0) (r2 := 24) hC cf_X6 hB.1 h0 ro_23 rfl rfl kf_X6_9 dX6_reckon_293 (fun b29 mb29 hb29 => ?_)
                        have sb29 := (th_F_o hB.2.2 h0 ro_23 (j := 0) (by decide) (by decide)).symm.trans mb29
                        refine lv_iload hx hb dX6_reckon_296 (lv_at hl 0 rfl) ?_
                        refine lv_iconst (v := 1) hx hb dX6_reckon_298 (by decide) ?_
                        refine tr_isub hx hb dX6_reckon_299 (Eq.refl _) tk_1 (by omega) (by omega) (fun x30 ex30 => ?_)
                        replace hF := hF.trans (congrArg (dv_k f_X6_reckon_11b) (dv_bn (ex30.symm)))
                        refine th_laldF hC hB.1 hb29 ro_24 rfl (Eq.refl _) (by omega) (by omega) rfl dX6_reckon_300 (fun y31 my31 ly31 uy31 => ?_)
                        replace hF := hF.trans (congrArg (dv_k f_X6_reckon_11b) (dv_bn (dv_aldL hB.1 hU hb29 ow_24 (z := x30.toInt) my31 (by omega))))
                        refine lv_lstore (lv' := [(7, .long y31), (4, .int x28), (6, .int x11), (0, .ref a0), (1, .ref p1), (3, .int p3), (5, .int j11_5)]) hx hb dX6_reckon_301 hl (by decide) rfl (fun ls hl => ?_)
                        refine lv_aload_n hx hb dX6_reckon_303 rfl (lv_at hl 3 rfl) ?_
                        refine th_getK hC cf_X6 hB.1 h0 ro_23 rfl (j := 0) (by decide) mb29 kf_X6_9 dX6_reckon_304 ?_
                        refine lv_iload hx hb dX6_reckon_307 (lv_at hl 1 rfl) ?_
                        refine th_laldF hC hB.1 hb29 ro_24 rfl (Eq.refl _) (by omega) (by omega) rfl dX6_reckon_309 (fun y32 my32 ly32 uy32 => ?_)
                        replace hF := hF.trans (congrArg (dv_k f_X6_reckon_11b) (dv_bn (dv_aldL hB.1 hU hb29 ow_24 (z := x28.toInt) my32 (by omega))))
                        refine lv_lstore (lv' := [(9, .long y32), (7, .long y31), (4, .int x28), (6, .int x11), (0, .ref a0), (1, .ref p1), (3, .int p3), (5, .int j11_5)]) hx hb dX6_reckon_310 hl (by decide) rfl (fun ls hl => ?_)
                        refine lv_lconst (v := 0) hx hb dX6_reckon_312 rfl ?_
                        refine lv_lstore (lv' := [(11, .long 0), (9, .long y32), (7, .long y31), (4, .int x28), (6, .int x11), (0, .ref a0), (1, .ref p1), (3, .int p3), (5, .int j11_5)]) hx hb dX6_reckon_313 hl (by decide) rfl (fun ls hl => ?_)
                        refine lv_iload hx hb dX6_reckon_315 (lv_at hl 4 rfl) ?_
                        have jn500 : ∀ (locs : List Loc) (ls : Array Slot) (j500_11 : Int64), th_B G Γ Γ [(24, 0), (23, 3)] H0 H11 locs → lv_has ls 13 [(4, .int x28), (0, .ref a0), (1, .ref p1), (3, .int p3), (5, .int j11_5), (11, .long j500_11)] → F = dv_k f_X6_reckon_11b (f_X6_reckon_500 (dv G Γ H11) (x28.toInt) ((a0 : Int)) ((p1 : Int)) (p3.toInt) (j11_5.toInt) (j500_11.toInt)) → W p l e ({ frames := 0, cells := 0, slots := 0, locals := 0 } : Room) s m ([.ref a0, .ref p1, .int p2, .int p3] : List Value).toArray below meth c H11 locs 0 0 (MQ below (th_Q (fun (v : Option Value) (H1 : Heap) => ∃ r : Int64, v = some (.long r) ∧ th_I G Γ H1 ∧ th_F G Γ [(24, 0), (23, 3)] H0 H1 ∧ th_RC G Γ H1 ∧ (f_X6_reckon (dv G Γ H0) (a0 : Int) (p1 : Int) p2.toInt p3.toInt = (dv G Γ H1, r.toInt))) G) ([.ref a0, .ref p1, .int p2, .int p3] : List Value).toArray s 0 0 (fun q => G.2.2 ≤ q)) (F0 m 500 ls []) := by
                          intro locs ls j500_11 hB hl hF
                          replace hF := hF.trans (congrArg (dv_k f_X6_reckon_11b) (f_X6_reckon_500.eq_1 (dv G Γ H11) (x28.toInt) ((a0 : Int)) ((p1 : Int)) (p3.toInt) (j11_5.toInt) (j500_11.toInt)))
                          refine lv_aload_n hx hb dX6_reckon_500 rfl (lv_at hl 1 rfl) ?_
                          refine lv_lload hx hb dX6_reckon_501 (lv_at hl 5 rfl) ?_
                          refine lv_ldc2 (v := 1000000000) hx hb hC.2.2.2.1 (hC.2.2.2.2.1 _ kw_495) dX6_reckon_503 ?_
                          refine tr_lcmp2 hx hb dX6_reckon_506 (fun x33 fx33 gx33 ix33 => ?_)
                          replace hF := hF.trans (congrArg (dv_k f_X6_reckon_11b) (dv_bn (dv_lcmp_e (Eq.refl (j500_11.toInt)) (rfl : (1000000000 : Int64).toInt = 1000000000) fx33 ix33)))
                          have jn524 : ∀ (locs : List Loc) (ls : Array Slot) (s524_1 : Int32), th_B G Γ Γ [(24, 0), (23, 3)] H0 H11 locs → lv_has ls 13 [(4, .int x28), (0, .ref a0), (1, .ref p1), (3, .int p3), (5, .int j11_5), (11, .long j500_11)] → F = dv_k f_X6_reckon_11b (f_X6_reckon_524 (dv G Γ H11) (x28.toInt) ((a0 : Int)) ((p1 : Int)) (p3.toInt) (j11_5.toInt) (j500_11.toInt) (s524_1.toInt)) → 0 ≤ s524_1.toInt → s524_1.toInt ≤ 1 → W p l e ({ frames := 0, cells := 0, slots := 0, locals := 0 } : Room) s m ([.ref a0, .ref p1, .int p2, .int p3] : List Value).toArray below meth c H11 locs 0 0 (MQ below (th_Q (fun (v : Option Value) (H1 : Heap) => ∃ r : Int64, v = some (.long r) ∧ th_I G Γ H1 ∧ th_F G Γ [(24, 0), (23, 3)] H0 H1 ∧ th_RC G Γ H1 ∧ (f_X6_reckon (dv G Γ H0) (a0 : Int) (p1 : Int) p2.toInt p3.toInt = (dv G Γ H1, r.toInt))) G) ([.ref a0, .ref p1, .int p2, .int p3] : List Value).toArray s 0 0 (fun q => G.2.2 ≤ q)) (F0 m 524 ls [.int s524_1, .ref a0]) := by
                            intro locs ls s524_1 hB hl hF g524_0 g524_1
                            have ls524_1 := ti_lo s524_1; have us524_1 := ti_hi s524_1
                            replace hF := hF.trans (congrArg (dv_k f_X6_reckon_11b) (f_X6_reckon_524.eq_1 (dv G Γ H11) (x28.toInt) ((a0 : Int)) ((p1 : Int)) (p3.toInt) (j11_5.toInt) (j500_11.toInt) (s524_1.toInt)))
                            refine th_put hC cf_X6 hB h0 (Or.inl h0) ro_23 rfl (j := 3) rfl (th_sI (by omega) (by omega)) (by decide) rfl (th_nb (by omega) (by omega)) (th_fb (by omega) (by omega)) kf_X6_26 dX6_reckon_524 (fun H524 locs hB hf hst524 => ?_)
                            have mm34 := (th_F_o hf h1 ro_39 (j := 2) (by decide) (by decide)).trans mx4
                            have mm35 := (th_F_o hf h1 ro_39 (j := 0) (by decide) (by decide)).trans mb10
                            have mm36 := (th_F_o hf h0 ro_23 (j := 0) (by decide) (by decide)).trans mb29
                            have hR := th_RC_F hB.1 hR hf (th_T_s h0 ro_23 hst524) (by decide)
                            replace hF := hF.trans (congrArg (dv_k f_X6_reckon_11b) (dv_bn (dv_putI hB.1 h0 ro_23 (j := 3) rfl (th_apart hC cf_X6) hst524 (Eq.refl _) (by decide))))
                            have mm37 := hst524.2.1
                            refine lv_aload_n hx hb dX6_reckon_527 rfl (lv_at hl 1 rfl) ?_
                            refine th_getK hC cf_X6 hB.1 h0 ro_23 rfl (j := 0) (by decide) mm36 kf_X6_9 dX6_reckon_528 ?_
                            refine lv_iload hx hb dX6_reckon_531 (lv_at hl 0 rfl) ?_
                            refine lv_iconst (v := 1) hx hb dX6_reckon_533 (by decide) ?_
                            refine tr_isub hx hb dX6_reckon_534 (Eq.refl _) tk_1 (by omega) (by omega) (fun x38 ex38 => ?_)
                            replace hF := hF.trans (congrArg (dv_k f_X6_reckon_11b) (dv_bn (ex38.symm)))
                            refine lv_lload hx hb dX6_reckon_535 (lv_at hl 5 rfl) ?_
                            have hIo := hB.1
                            refine th_lastF hC hB hb29 (Or.inl hb29) ro_24 rfl (by decide) (Eq.refl _) (by omega) (by omega) th_sLa dX6_reckon_537 (fun H537 locs hB hf537 hst537 => ?_)
                            have hf := hf537
                            have mm39 := (th_F_o hf h1 ro_39 (j := 2) (by decide) (by decide)).trans mm34
                            have mm40 := (th_F_o hf h1 ro_39 (j := 0) (by decide) (by decide)).trans mm35
                            have mm41 := (th_F_o hf h0 ro_23 (j := 0) (by decide) (by decide)).trans mm36
                            have mm42 := (th_F_o hf h0 ro_23 (j := 3) (by decide) (by decide)).trans mm37
                            have hR := th_RC_F hB.1 hR hf (th_T_s hb29 ro_24 hst537) (by decide)
                            replace hF := hF.trans (congrArg (dv_k f_X6_reckon_11b) (dv_bn (dv_stoL hIo hB.1 hU hb29 ow_24 (i := x38.toInt) hst537 (Eq.refl (j500_11.toInt)) (by omega))))
                            exact jn538 H537 locs ls x28 j11_5 hB hR (lv_sub hl [1, 2, 3, 0, 4] rfl) hF (by omega) (by omega) (by omega) (by omega) (by omega)
                          have jn519 : ∀ (locs : List Loc) (ls : Array Slot) , th_B G Γ Γ [(24, 0), (23, 3)] H0 H11 locs → lv_has ls 13 [(4, .int x28), (0, .ref a0), (1, .ref p1), (3, .int p3), (5, .int j11_5), (11, .long j500_11)] → F = dv_k f_X6_reckon_11b (f_X6_reckon_519 (dv G Γ H11) (x28.toInt) ((a0 : Int)) ((p1 : Int)) (p3.toInt) (j11_5.toInt) (j500_11.toInt)) → W p l e ({ frames := 0, cells := 0, slots := 0, locals := 0 } : Room) s m ([.ref a0, .ref p1, .int p2, .int p3] : List Value).toArray below meth c H11 locs 0 0 (MQ below (th_Q (fun (v : Option Value) (H1 : Heap) => ∃ r : Int64, v = some (.long r) ∧ th_I G Γ H1 ∧ th_F G Γ [(24, 0), (23, 3)] H0 H1 ∧ th_RC G Γ H1 ∧ (f_X6_reckon (dv G Γ H0) (a0 : Int) (p1 : Int) p2.toInt p3.toInt = (dv G Γ H1, r.toInt))) G) ([.ref a0, .ref p1, .int p2, .int p3] : List Value).toArray s 0 0 (fun q => G.2.2 ≤ q)) (F0 m 519 ls [.ref a0]) := by
                            intro locs ls hB hl hF
                            replace hF := hF.trans (congrArg (dv_k f_X6_reckon_11b) (f_X6_reckon_519.eq_1 (dv G Γ H11) (x28.toInt) ((a0 : Int)) ((p1 : Int)) (p3.toInt) (j11_5.toInt) (j500_11.toInt)))
                            refine lv_iconst (v := 1) hx hb dX6_reckon_519 (by decide) ?_
                            refine lv_goto (tgt := 524) hx hb dX6_reckon_520 (by decide) ?_
                            exact jn524 locs ls 1 hB (lv_sub hl [0, 1, 2, 3, 4, 5] rfl) (by rw [tk_1]; exact hF) (by decide) (by decide)
                          refine tr_if_gt (tgt := 519) hx hb dX6_reckon_507 (by decide) (Eq.refl _) (fun c507 => ?_) (fun c507 => ?_)
                          · replace hF := hF.trans (congrArg (dv_k f_X6_reckon_11b) (if_pos c507))
                            exact jn519 locs ls hB (lv_sub hl [0, 1, 2, 3, 4, 5] rfl) hF
                          · replace hF := hF.trans (congrArg (dv_k f_X6_reckon_11b) (if_neg (Int.not_lt.mpr c507)))
                            refine lv_lload hx hb dX6_reckon_510 (lv_at hl 5 rfl) ?_
                            refine lv_ldc2 (v := (-1000000000)) hx hb hC.2.2.2.1 (hC.2.2.2.2.1 _ kw_496) dX6_reckon_512 ?_
                            refine tr_lcmp2 hx hb dX6_reckon_515 (fun x43 fx43 gx43 ix43 => ?_)
                            replace hF := hF.trans (congrArg (dv_k f_X6_reckon_11b) (dv_bn (dv_lcmp_e (Eq.refl (j500_11.toInt)) (rfl : ((-1000000000) : Int64).toInt = (-1000000000)) fx43 ix43)))
                            refine tr_if_ge (tgt := 523) hx hb dX6_reckon_516 (by decide) (Eq.refl _) (fun c516 => ?_) (fun c516 => ?_)
                            · replace hF := hF.trans (congrArg (dv_k f_X6_reckon_11b) (if_pos c516))
                              refine lv_iconst (v := 0) hx hb dX6_reckon_523 (by decide) ?_
                              exact jn524 locs ls 0 hB (lv_sub hl [0, 1, 2, 3, 4, 5] rfl) (by rw [tk_0]; exact hF) (by decide) (by decide)
                            · replace hF := hF.trans (congrArg (dv_k f_X6_reckon_11b) (if_neg (Int.not_le.mpr c516)))
                              exact jn519 locs ls hB (lv_sub hl [0, 1, 2, 3, 4, 5] rfl) hF
                        by_cases k317_0 : x11.toInt = 3000
                        · replace hF := hF.trans (congrArg (dv_k f_X6_reckon_11b) (if_pos k317_0))
                          refine lv_tableIn (off := 47) (tgt := 364) hx hb dX6_reckon_317 (by omega) (by omega) (by rw [show x11.toInt = 3000 from k317_0]; decide) (by decide) ?_
                          refine lv_lload hx hb dX6_reckon_364 (lv_at hl 2 rfl) ?_
                          refine lv_lload hx hb dX6_reckon_366 (lv_at hl 1 rfl) ?_
                          refine lv_ladd hx hb dX6_reckon_368 ?_
                          refine lv_topl (fun y44 ey44 => ?_)
                          replace hF := hF.trans (congrArg (dv_k f_X6_reckon_11b) (dv_bn (dv_ladd_e (Eq.refl (y31.toInt)) (Eq.refl (y32.toInt)) ey44)))
                          refine lv_lstore (lv' := [(11, .long y44), (9, .long y32), (7, .long y31), (4, .int x28), (6, .int x11), (0, .ref a0), (1, .ref p1), (3, .int p3), (5, .int j11_5)]) hx hb dX6_reckon_369 hl (by decide) rfl (fun ls hl => ?_)
                          refine lv_goto (tgt := 500) hx hb dX6_reckon_371 (by decide) ?_
                          exact jn500 locs ls y44 hB (lv_sub hl [3, 5, 6, 7, 8, 0] rfl) hF
                        replace hF := hF.trans (congrArg (dv_k f_X6_reckon_11b) (if_neg k317_0))
                        by_cases k317_1 : x11.toInt = 3001
                        · replace hF := hF.trans (congrArg (dv_k f_X6_reckon_11b) (if_pos k317_1))
                          refine lv_tableIn (off := 57) (tgt := 374) hx hb dX6_reckon_317 (by omega) (by omega) (by rw [show x11.toInt = 3001 from k317_1]; decide) (by decide) ?_
                          refine lv_lload hx hb dX6_reckon_374 (lv_at hl 2 rfl) ?_
                          refine lv_lload hx hb dX6_reckon_376 (lv_at hl 1 rfl) ?_
                          refine lv_lsub hx hb dX6_reckon_378 ?_
                          refine lv_topl (fun y45 ey45 => ?_)
                          replace hF := hF.trans (congrArg (dv_k f_X6_reckon_11b) (dv_bn (dv_lsub_e (Eq.refl (y31.toInt)) (Eq.refl (y32.toInt)) ey45)))
                          refine lv_lstore (lv' := [(11, .long y45), (9, .long y32), (7, .long y31), (4, .int x28), (6, .int x11), (0, .ref a0), (1, .ref p1), (3, .int p3), (5, .int j11_5)]) hx hb dX6_reckon_379 hl (by decide) rfl (fun ls hl => ?_)
                          refine lv_goto (tgt := 500) hx hb dX6_reckon_381 (by decide) ?_
                          exact jn500 locs ls y45 hB (lv_sub hl [3, 5, 6, 7, 8, 0] rfl) hF
                        replace hF := hF.trans (congrArg (dv_k f_X6_reckon_11b) (if_neg k317_1))
                        by_cases k317_2 : x11.toInt = 3002
                        · replace hF := hF.trans (congrArg (dv_k f_X6_reckon_11b) (if_pos k317_2))
                          refine lv_tableIn (off := 67) (tgt := 384) hx hb dX6_reckon_317 (by omega) (by omega) (by rw [show x11.toInt = 3002 from k317_2]; decide) (by decide) ?_
                          refine lv_lload hx hb dX6_reckon_384 (lv_at hl 2 rfl) ?_
                          refine lv_lload hx hb dX6_reckon_386 (lv_at hl 1 rfl) ?_
                          refine lv_lmul hx hb dX6_reckon_388 ?_
                          refine lv_topl (fun y46 ey46 => ?_)
                          replace hF := hF.trans (congrArg (dv_k f_X6_reckon_11b) (dv_bn (dv_lmul_e (Eq.refl (y31.toInt)) (Eq.refl (y32.toInt)) ey46)))
                          refine lv_lstore (lv' := [(11, .long y46), (9, .long y32), (7, .long y31), (4, .int x28), (6, .int x11), (0, .ref a0), (1, .ref p1), (3, .int p3), (5, .int j11_5)]) hx hb dX6_reckon_389 hl (by decide) rfl (fun ls hl => ?_)
                          refine lv_goto (tgt := 500) hx hb dX6_reckon_391 (by decide) ?_
                          exact jn500 locs ls y46 hB (lv_sub hl [3, 5, 6, 7, 8, 0] rfl) hF
                        replace hF := hF.trans (congrArg (dv_k f_X6_reckon_11b) (if_neg k317_2))
                        by_cases k317_3 : x11.toInt = 3003
                        · replace hF := hF.trans (congrArg (dv_k f_X6_reckon_11b) (if_pos k317_3))
                          refine lv_tableIn (off := 77) (tgt := 394) hx hb dX6_reckon_317 (by omega) (by omega) (by rw [show x11.toInt = 3003 from k317_3]; decide) (by decide) ?_
                          refine lv_lload hx hb dX6_reckon_394 (lv_at hl 1 rfl) ?_
                          refine lv_lconst (v := 0) hx hb dX6_reckon_396 rfl ?_
                          refine tr_lcmp2 hx hb dX6_reckon_397 (fun x47 fx47 gx47 ix47 => ?_)
                          replace hF := hF.trans (congrArg (dv_k f_X6_reckon_11b) (dv_bn (dv_lcmp_e (Eq.refl (y32.toInt)) (rfl : (0 : Int64).toInt = 0) fx47 ix47)))
                          have jn412 : ∀ (locs : List Loc) (ls : Array Slot) (s412_0 : Int64), th_B G Γ Γ [(24, 0), (23, 3)] H0 H11 locs → lv_has ls 13 [(4, .int x28), (0, .ref a0), (1, .ref p1), (3, .int p3), (5, .int j11_5)] → F = dv_k f_X6_reckon_11b (f_X6_reckon_412 (dv G Γ H11) (x28.toInt) ((a0 : Int)) ((p1 : Int)) (p3.toInt) (j11_5.toInt) (s412_0.toInt)) → W p l e ({ frames := 0, cells := 0, slots := 0, locals := 0 } : Room) s m ([.ref a0, .ref p1, .int p2, .int p3] : List Value).toArray below meth c H11 locs 0 0 (MQ below (th_Q (fun (v : Option Value) (H1 : Heap) => ∃ r : Int64, v = some (.long r) ∧ th_I G Γ H1 ∧ th_F G Γ [(24, 0), (23, 3)] H0 H1 ∧ th_RC G Γ H1 ∧ (f_X6_reckon (dv G Γ H0) (a0 : Int) (p1 : Int) p2.toInt p3.toInt = (dv G Γ H1, r.toInt))) G) ([.ref a0, .ref p1, .int p2, .int p3] : List Value).toArray s 0 0 (fun q => G.2.2 ≤ q)) (F0 m 412 ls [.long s412_0]) := by
                            intro locs ls s412_0 hB hl hF
                            replace hF := hF.trans (congrArg (dv_k f_X6_reckon_11b) (f_X6_reckon_412.eq_1 (dv G Γ H11) (x28.toInt) ((a0 : Int)) ((p1 : Int)) (p3.toInt) (j11_5.toInt) (s412_0.toInt)))
                            refine lv_lstore (lv' := [(11, .long s412_0), (4, .int x28), (0, .ref a0), (1, .ref p1), (3, .int p3), (5, .int j11_5)]) hx hb dX6_reckon_412 hl (by decide) rfl (fun ls hl => ?_)
                            refine lv_goto (tgt := 500) hx hb dX6_reckon_414 (by decide) ?_
                            exact jn500 locs ls s412_0 hB (lv_sub hl [1, 2, 3, 4, 5, 0] rfl) hF
                          refine tr_if_ne (tgt := 407) hx hb dX6_reckon_398 (by decide) (Eq.refl _) (fun c398 => ?_) (fun c398 => ?_)
                          · replace hF := hF.trans (congrArg (dv_k f_X6_reckon_11b) (if_pos c398))
                            refine lv_lload hx hb dX6_reckon_407 (lv_at hl 2 rfl) ?_
                            refine lv_lload hx hb dX6_reckon_409 (lv_at hl 1 rfl) ?_
                            refine lv_ldiv hx hb dX6_reckon_411 (fun q => absurd (gx47.mpr q) (by omega)) ?_
                            refine lv_topl (fun y48 ey48 => ?_)
                            replace hF := hF.trans (congrArg (dv_k f_X6_reckon_11b) (dv_bn (dv_ldiv_e (Eq.refl (y31.toInt)) (Eq.refl (y32.toInt)) ey48)))
                            exact jn412 locs ls y48 hB (lv_sub hl [3, 5, 6, 7, 8] rfl) hF
                          · replace hF := hF.trans (congrArg (dv_k f_X6_reckon_11b) (if_neg (not_not_intro c398)))
                            refine lv_ldc2 (v := 1000000001) hx hb hC.2.2.2.1 (hC.2.2.2.2.1 _ kw_494) dX6_reckon_401 ?_
                            refine lv_goto (tgt := 412) hx hb dX6_reckon_404 (by decide) ?_
                            exact jn412 locs ls 1000000001 hB (lv_sub hl [3, 5, 6, 7, 8] rfl) (by rw [show (1000000001 : Int64).toInt = 1000000001 from rfl]; exact hF)
                        replace hF := hF.trans (congrArg (dv_k f_X6_reckon_11b) (if_neg k317_3))
                        by_cases k317_4 : x11.toInt = 3004
                        · replace hF := hF.trans (congrArg (dv_k f_X6_reckon_11b) (if_pos k317_4))
                          refine lv_tableIn (off := 100) (tgt := 417) hx hb dX6_reckon_317 (by omega) (by omega) (by rw [show x11.toInt = 3004 from k317_4]; decide) (by decide) ?_
                          refine lv_lload hx hb dX6_reckon_417 (lv_at hl 1 rfl) ?_
                          refine lv_lconst (v := 0) hx hb dX6_reckon_419 rfl ?_
                          refine tr_lcmp2 hx hb dX6_reckon_420 (fun x49 fx49 gx49 ix49 => ?_)
                          replace hF := hF.trans (congrArg (dv_k f_X6_reckon_11b) (dv_bn (dv_lcmp_e (Eq.refl (y32.toInt)) (rfl : (0 : Int64).toInt = 0) fx49 ix49)))
                          have jn435 : ∀ (locs : List Loc) (ls : Array Slot) (s435_0 : Int64), th_B G Γ Γ [(24, 0), (23, 3)] H0 H11 locs → lv_has ls 13 [(4, .int x28), (0, .ref a0), (1, .ref p1), (3, .int p3), (5, .int j11_5)] → F = dv_k f_X6_reckon_11b (f_X6_reckon_435 (dv G Γ H11) (x28.toInt) ((a0 : Int)) ((p1 : Int)) (p3.toInt) (j11_5.toInt) (s435_0.toInt)) → W p l e ({ frames := 0, cells := 0, slots := 0, locals := 0 } : Room) s m ([.ref a0, .ref p1, .int p2, .int p3] : List Value).toArray below meth c H11 locs 0 0 (MQ below (th_Q (fun (v : Option Value) (H1 : Heap) => ∃ r : Int64, v = some (.long r) ∧ th_I G Γ H1 ∧ th_F G Γ [(24, 0), (23, 3)] H0 H1 ∧ th_RC G Γ H1 ∧ (f_X6_reckon (dv G Γ H0) (a0 : Int) (p1 : Int) p2.toInt p3.toInt = (dv G Γ H1, r.toInt))) G) ([.ref a0, .ref p1, .int p2, .int p3] : List Value).toArray s 0 0 (fun q => G.2.2 ≤ q)) (F0 m 435 ls [.long s435_0]) := by
                            intro locs ls s435_0 hB hl hF
                            replace hF := hF.trans (congrArg (dv_k f_X6_reckon_11b) (f_X6_reckon_435.eq_1 (dv G Γ H11) (x28.toInt) ((a0 : Int)) ((p1 : Int)) (p3.toInt) (j11_5.toInt) (s435_0.toInt)))
                            refine lv_lstore (lv' := [(11, .long s435_0), (4, .int x28), (0, .ref a0), (1, .ref p1), (3, .int p3), (5, .int j11_5)]) hx hb dX6_reckon_435 hl (by decide) rfl (fun ls hl => ?_)
                            refine lv_goto (tgt := 500) hx hb dX6_reckon_437 (by decide) ?_
                            exact jn500 locs ls s435_0 hB (lv_sub hl [1, 2, 3, 4, 5, 0] rfl) hF
                          refine tr_if_ne (tgt := 430) hx hb dX6_reckon_421 (by decide) (Eq.refl _) (fun c421 => ?_) (fun c421 => ?_)
                          · replace hF := hF.trans (congrArg (dv_k f_X6_reckon_11b) (if_pos c421))
                            refine lv_lload hx hb dX6_reckon_430 (lv_at hl 2 rfl) ?_
                            refine lv_lload hx hb dX6_reckon_432 (lv_at hl 1 rfl) ?_
                            refine lv_lrem hx hb dX6_reckon_434 (fun q => absurd (gx49.mpr q) (by omega)) ?_
                            refine lv_topl (fun y50 ey50 => ?_)
                            replace hF := hF.trans (congrArg (dv_k f_X6_reckon_11b) (dv_bn (dv_lrem_e (Eq.refl (y31.toInt)) (Eq.refl (y32.toInt)) ey50)))
                            exact jn435 locs ls y50 hB (lv_sub hl [3, 5, 6, 7, 8] rfl) hF
                          · replace hF := hF.trans (congrArg (dv_k f_X6_reckon_11b) (if_neg (not_not_intro c421)))
                            refine lv_ldc2 (v := 1000000001) hx hb hC.2.2.2.1 (hC.2.2.2.2.1 _ kw_494) dX6_reckon_424 ?_
                            refine lv_goto (tgt := 435) hx hb dX6_reckon_427 (by decide) ?_
                            exact jn435 locs ls 1000000001 hB (lv_sub hl [3, 5, 6, 7, 8] rfl) (by rw [show (1000000001 : Int64).toInt = 1000000001 from rfl]; exact hF)
                        replace hF := hF.trans (congrArg (dv_k f_X6_reckon_11b) (if_neg k317_4))
                        by_cases k317_5 : x11.toInt = 3005
                        · replace hF := hF.trans (congrArg (dv_k f_X6_reckon_11b) (if_pos k317_5))
                          refine lv_tableIn (off := 123) (tgt := 440) hx hb dX6_reckon_317 (by omega) (by omega) (by rw [show x11.toInt = 3005 from k317_5]; decide) (by decide) ?_
                          refine lv_lload hx hb dX6_reckon_440 (lv_at hl 2 rfl) ?_
                          refine lv_lload hx hb dX6_reckon_442 (lv_at hl 1 rfl) ?_
                          refine tr_lcmp2 hx hb dX6_reckon_444 (fun x51 fx51 gx51 ix51 => ?_)
                          replace hF := hF.trans (congrArg (dv_k f_X6_reckon_11b) (dv_bn (dv_lcmp_e (Eq.refl (y31.toInt)) (Eq.refl (y32.toInt)) fx51 ix51)))
                          have jn453 : ∀ (locs : List Loc) (ls : Array Slot) (s453_0 : Int64), th_B G Γ Γ [(24, 0), (23, 3)] H0 H11 locs → lv_has ls 13 [(4, .int x28), (0, .ref a0), (1, .ref p1), (3, .int p3), (5, .int j11_5)] → F = dv_k f_X6_reckon_11b (f_X6_reckon_453 (dv G Γ H11) (x28.toInt) ((a0 : Int)) ((p1 : Int)) (p3.toInt) (j11_5.toInt) (s453_0.toInt)) → W p l e ({ frames := 0, cells := 0, slots := 0, locals := 0 } : Room) s m ([.ref a0, .ref p1, .int p2, .int p3] : List Value).toArray below meth c H11 locs 0 0 (MQ below (th_Q (fun (v : Option Value) (H1 : Heap) => ∃ r : Int64, v = some (.long r) ∧ th_I G Γ H1 ∧ th_F G Γ [(24, 0), (23, 3)] H0 H1 ∧ th_RC G Γ H1 ∧ (f_X6_reckon (dv G Γ H0) (a0 : Int) (p1 : Int) p2.toInt p3.toInt = (dv G Γ H1, r.toInt))) G) ([.ref a0, .ref p1, .int p2, .int p3] : List Value).toArray s 0 0 (fun q => G.2.2 ≤ q)) (F0 m 453 ls [.long s453_0]) := by
                            intro locs ls s453_0 hB hl hF
                            replace hF := hF.trans (congrArg (dv_k f_X6_reckon_11b) (f_X6_reckon_453.eq_1 (dv G Γ H11) (x28.toInt) ((a0 : Int)) ((p1 : Int)) (p3.toInt) (j11_5.toInt) (s453_0.toInt)))
                            refine lv_lstore (lv' := [(11, .long s453_0), (4, .int x28), (0, .ref a0), (1, .ref p1), (3, .int p3), (5, .int j11_5)]) hx hb dX6_reckon_453 hl (by decide) rfl (fun ls hl => ?_)
                            refine lv_goto (tgt := 500) hx hb dX6_reckon_455 (by decide) ?_
                            exact jn500 locs ls s453_0 hB (lv_sub hl [1, 2, 3, 4, 5, 0] rfl) hF
                          refine tr_if_ge (tgt := 452) hx hb dX6_reckon_445 (by decide) (Eq.refl _) (fun c445 => ?_) (fun c445 => ?_)
                          · replace hF := hF.trans (congrArg (dv_k f_X6_reckon_11b) (if_pos c445))
                            refine lv_lconst (v := 0) hx hb dX6_reckon_452 rfl ?_
                            exact jn453 locs ls 0 hB (lv_sub hl [3, 5, 6, 7, 8] rfl) (by rw [show (0 : Int64).toInt = 0 from rfl]; exact hF)
                          · replace hF := hF.trans (congrArg (dv_k f_X6_reckon_11b) (if_neg (Int.not_le.mpr c445)))
                            refine lv_lconst (v := 1) hx hb dX6_reckon_448 rfl ?_
                            refine lv_goto (tgt := 453) hx hb dX6_reckon_449 (by decide) ?_
                            exact jn453 locs ls 1 hB (lv_sub hl [3, 5, 6, 7, 8] rfl) (by rw [show (1 : Int64).toInt = 1 from rfl]; exact hF)
                        replace hF := hF.trans (congrArg (dv_k f_X6_reckon_11b) (if_neg k317_5))
                        by_cases k317_6 : x11.toInt = 3006
                        · replace hF := hF.trans (congrArg (dv_k f_X6_reckon_11b) (if_pos k317_6))
                          refine lv_tableIn (off := 141) (tgt := 458) hx hb dX6_reckon_317 (by omega) (by omega) (by rw [show x11.toInt = 3006 from k317_6]; decide) (by decide) ?_
                          refine lv_lload hx hb dX6_reckon_458 (lv_at hl 2 rfl) ?_
                          refine lv_lload hx hb dX6_reckon_460 (lv_at hl 1 rfl) ?_
                          refine tr_lcmp2 hx hb dX6_reckon_462 (fun x52 fx52 gx52 ix52 => ?_)
                          replace hF := hF.trans (congrArg (dv_k f_X6_reckon_11b) (dv_bn (dv_lcmp_e (Eq.refl (y31.toInt)) (Eq.refl (y32.toInt)) fx52 ix52)))
                          have jn471 : ∀ (locs : List Loc) (ls : Array Slot) (s471_0 : Int64), th_B G Γ Γ [(24, 0), (23, 3)] H0 H11 locs → lv_has ls 13 [(4, .int x28), (0, .ref a0), (1, .ref p1), (3, .int p3), (5, .int j11_5)] → F = dv_k f_X6_reckon_11b (f_X6_reckon_471 (dv G Γ H11) (x28.toInt) ((a0 : Int)) ((p1 : Int)) (p3.toInt) (j11_5.toInt) (s471_0.toInt)) → W p l e ({ frames := 0, cells := 0, slots := 0, locals := 0 } : Room) s m ([.ref a0, .ref p1, .int p2, .int p3] : List Value).toArray below meth c H11 locs 0 0 (MQ below (th_Q (fun (v : Option Value) (H1 : Heap) => ∃ r : Int64, v = some (.long r) ∧ th_I G Γ H1 ∧ th_F G Γ [(24, 0), (23, 3)] H0 H1 ∧ th_RC G Γ H1 ∧ (f_X6_reckon (dv G Γ H0) (a0 : Int) (p1 : Int) p2.toInt p3.toInt = (dv G Γ H1, r.toInt))) G) ([.ref a0, .ref p1, .int p2, .int p3] : List Value).toArray s 0 0 (fun q => G.2.2 ≤ q)) (F0 m 471 ls [.long s471_0]) := by
                            intro locs ls s471_0 hB hl hF
                            replace hF := hF.trans (congrArg (dv_k f_X6_reckon_11b) (f_X6_reckon_471.eq_1 (dv G Γ H11) (x28.toInt) ((a0 : Int)) ((p1 : Int)) (p3.toInt) (j11_5.toInt) (s471_0.toInt)))
                            refine lv_lstore (lv' := [(11, .long s471_0), (4, .int x28), (0, .ref a0), (1, .ref p1), (3, .int p3), (5, .int j11_5)]) hx hb dX6_reckon_471 hl (by decide) rfl (fun ls hl => ?_)
                            refine lv_goto (tgt := 500) hx hb dX6_reckon_473 (by decide) ?_
                            exact jn500 locs ls s471_0 hB (lv_sub hl [1, 2, 3, 4, 5, 0] rfl) hF
                          refine tr_if_le (tgt := 470) hx hb dX6_reckon_463 (by decide) (Eq.refl _) (fun c463 => ?_) (fun c463 => ?_)
                          · replace hF := hF.trans (congrArg (dv_k f_X6_reckon_11b) (if_pos c463))
                            refine lv_lconst (v := 0) hx hb dX6_reckon_470 rfl ?_
                            exact jn471 locs ls 0 hB (lv_sub hl [3, 5, 6, 7, 8] rfl) (by rw [show (0 : Int64).toInt = 0 from rfl]; exact hF)
                          · replace hF := hF.trans (congrArg (dv_k f_X6_reckon_11b) (if_neg (Int.not_le.mpr c463)))
                            refine lv_lconst (v := 1) hx hb dX6_reckon_466 rfl ?_
                            refine lv_goto (tgt := 471) hx hb dX6_reckon_467 (by decide) ?_
                            exact jn471 locs ls 1 hB (lv_sub hl [3, 5, 6, 7, 8] rfl) (by rw [show (1 : Int64).toInt = 1 from rfl]; exact hF)
                        replace hF := hF.trans (congrArg (dv_k f_X6_reckon_11b) (if_neg k317_6))
                        by_cases k317_7 : x11.toInt = 3007
                        · replace hF := hF.trans (congrArg (dv_k f_X6_reckon_11b) (if_pos k317_7))
                          refine lv_tableIn (off := 159) (tgt := 476) hx hb dX6_reckon_317 (by omega) (by omega) (by rw [show x11.toInt = 3007 from k317_7]; decide) (by decide) ?_
                          refine lv_lload hx hb dX6_reckon_476 (lv_at hl 2 rfl) ?_
                          refine lv_lload hx hb dX6_reckon_478 (lv_at hl 1 rfl) ?_
                          refine tr_lcmp2 hx hb dX6_reckon_480 (fun x53 fx53 gx53 ix53 => ?_)
                          replace hF := hF.trans (congrArg (dv_k f_X6_reckon_11b) (dv_bn (dv_lcmp_e (Eq.refl (y31.toInt)) (Eq.refl (y32.toInt)) fx53 ix53)))
                          have jn489 : ∀ (locs : List Loc) (ls : Array Slot) (s489_0 : Int64), th_B G Γ Γ [(24, 0), (23, 3)] H0 H11 locs → lv_has ls 13 [(4, .int x28), (0, .ref a0), (1, .ref p1), (3, .int p3), (5, .int j11_5)] → F = dv_k f_X6_reckon_11b (f_X6_reckon_489 (dv G Γ H11) (x28.toInt) ((a0 : Int)) ((p1 : Int)) (p3.toInt) (j11_5.toInt) (s489_0.toInt)) → W p l e ({ frames := 0, cells := 0, slots := 0, locals := 0 } : Room) s m ([.ref a0, .ref p1, .int p2, .int p3] : List Value).toArray below meth c H11 locs 0 0 (MQ below (th_Q (fun (v : Option Value) (H1 : Heap) => ∃ r : Int64, v = some (.long r) ∧ th_I G Γ H1 ∧ th_F G Γ [(24, 0), (23, 3)] H0 H1 ∧ th_RC G Γ H1 ∧ (f_X6_reckon (dv G Γ H0) (a0 : Int) (p1 : Int) p2.toInt p3.toInt = (dv G Γ H1, r.toInt))) G) ([.ref a0, .ref p1, .int p2, .int p3] : List Value).toArray s 0 0 (fun q => G.2.2 ≤ q)) (F0 m 489 ls [.long s489_0]) := by
                            intro locs ls s489_0 hB hl hF
                            replace hF := hF.trans (congrArg (dv_k f_X6_reckon_11b) (f_X6_reckon_489.eq_1 (dv G Γ H11) (x28.toInt) ((a0 : Int)) ((p1 : Int)) (p3.toInt) (j11_5.toInt) (s489_0.toInt)))
                            refine lv_lstore (lv' := [(11, .long s489_0), (4, .int x28), (0, .ref a0), (1, .ref p1), (3, .int p3), (5, .int j11_5)]) hx hb dX6_reckon_489 hl (by decide) rfl (fun ls hl => ?_)
                            refine lv_goto (tgt := 500) hx hb dX6_reckon_491 (by decide) ?_
                            exact jn500 locs ls s489_0 hB (lv_sub hl [1, 2, 3, 4, 5, 0] rfl) hF
                          refine tr_if_ne (tgt := 488) hx hb dX6_reckon_481 (by decide) (Eq.refl _) (fun c481 => ?_) (fun c481 => ?_)
                          · replace hF := hF.trans (congrArg (dv_k f_X6_reckon_11b) (if_pos c481))
                            refine lv_lconst (v := 0) hx hb dX6_reckon_488 rfl ?_
                            exact jn489 locs ls 0 hB (lv_sub hl [3, 5, 6, 7, 8] rfl) (by rw [show (0 : Int64).toInt = 0 from rfl]; exact hF)
                          · replace hF := hF.trans (congrArg (dv_k f_X6_reckon_11b) (if_neg (not_not_intro c481)))
                            refine lv_lconst (v := 1) hx hb dX6_reckon_484 rfl ?_
                            refine lv_goto (tgt := 489) hx hb dX6_reckon_485 (by decide) ?_
                            exact jn489 locs ls 1 hB (lv_sub hl [3, 5, 6, 7, 8] rfl) (by rw [show (1 : Int64).toInt = 1 from rfl]; exact hF)
                        replace hF := hF.trans (congrArg (dv_k f_X6_reckon_11b) (if_neg k317_7))
                        refine lv_tableOut (tgt := 494) hx hb dX6_reckon_317 (by omega) (by decide) ?_
                        refine lv_lconst (v := 1) hx hb dX6_reckon_494 rfl ?_
                        refine lv_lload hx hb dX6_reckon_495 (lv_at hl 2 rfl) ?_
                        refine lv_lsub hx hb dX6_reckon_497 ?_
                        refine lv_topl (fun y54 ey54 => ?_)
                        replace hF := hF.trans (congrArg (dv_k f_X6_reckon_11b) (dv_bn (dv_lsub_e (rfl : (1 : Int64).toInt = 1) (Eq.refl (y31.toInt)) ey54)))
                        refine lv_lstore (lv' := [(11, .long y54), (9, .long y32), (7, .long y31), (4, .int x28), (6, .int x11), (0, .ref a0), (1, .ref p1), (3, .int p3), (5, .int j11_5)]) hx hb dX6_reckon_498 hl (by decide) rfl (fun ls hl => ?_)
                        exact jn500 locs ls y54 hB (lv_sub hl [3, 5, 6, 7, 8, 0] rfl) hF
                      refine tr_icmp_ge (tgt := 288) hx hb dX6_reckon_281 (by decide) (Eq.refl _) tk_3008 (fun c281 => ?_) (fun c281 => ?_)
                      · replace hF := hF.trans (congrArg (dv_k f_X6_reckon_11b) (if_pos c281))
                        refine lv_iconst (v := 0) hx hb dX6_reckon_288 (by decide) ?_
                        exact jn289 locs ls 0 hB (lv_sub hl [0, 1, 2, 3, 5] rfl) (by rw [tk_0]; exact hF) (by decide) (by decide) (by have w0 := tk_0; omega)
                      · replace hF := hF.trans (congrArg (dv_k f_X6_reckon_11b) (if_neg (Int.not_le.mpr c281)))
                        refine lv_iconst (v := 1) hx hb dX6_reckon_284 (by decide) ?_
                        refine lv_goto (tgt := 289) hx hb dX6_reckon_285 (by decide) ?_
                        exact jn289 locs ls 1 hB (lv_sub hl [0, 1, 2, 3, 5] rfl) (by rw [tk_1]; exact hF) (by decide) (by decide) (by have w0 := tk_1; omega)
                    · replace hF := hF.trans (congrArg (dv_k f_X6_reckon_11b) (if_neg (not_not_intro c169)))
                      exact jn172 locs ls hB (lv_sub hl [0, 1, 2, 3, 4, 5] rfl) hF
                refine tr_icmp_ge (tgt := 156) hx hb dX6_reckon_137 (by decide) (Eq.refl _) tk_2 (fun c137 => ?_) (fun c137 => ?_)
                · replace hF := hF.trans (congrArg (dv_k f_X6_reckon_11b) (if_pos c137))
                  exact jn156 locs ls hB (lv_sub hl [0, 1, 2, 3, 4, 5] rfl) hF (by omega)
                · replace hF := hF.trans (congrArg (dv_k f_X6_reckon_11b) (if_neg (Int.not_le.mpr c137)))
                  refine lv_iload hx hb dX6_reckon_140 (lv_at hl 0 rfl) ?_
                  refine lv_sipush (v := 3008) hx hb dX6_reckon_142 (by decide) ?_
                  refine tr_icmp_ge (tgt := 156) hx hb dX6_reckon_145 (by decide) (Eq.refl _) tk_3008 (fun c145 => ?_) (fun c145 => ?_)
                  · replace hF := hF.trans (congrArg (dv_k f_X6_reckon_11b) (if_pos c145))
                    exact jn156 locs ls hB (lv_sub hl [0, 1, 2, 3, 4, 5] rfl) hF (by omega)
                  · replace hF := hF.trans (congrArg (dv_k f_X6_reckon_11b) (if_neg (Int.not_le.mpr c145)))
                    exact jn148 locs ls hB (lv_sub hl [1, 2, 3, 4, 5] rfl) hF
            · replace hF := hF.trans (congrArg (dv_k f_X6_reckon_11b) (if_neg (Int.not_le.mpr c47)))
              refine lv_iload hx hb dX6_reckon_50 (lv_at hl 0 rfl) ?_
              refine lv_sipush (v := 2000) hx hb dX6_reckon_52 (by decide) ?_
              refine tr_isub hx hb dX6_reckon_55 (Eq.refl _) tk_2000 (by omega) (by omega) (fun x55 ex55 => ?_)
              replace hF := hF.trans (congrArg (dv_k f_X6_reckon_11b) (dv_bn (ex55.symm)))
              refine lv_istore (lv' := [(7, .int x55), (6, .int x11), (0, .ref a0), (1, .ref p1), (3, .int p3), (4, .int j11_4), (5, .int j11_5)]) hx hb dX6_reckon_56 hl (by decide) rfl (fun ls hl => ?_)
              refine lv_aload_n hx hb dX6_reckon_58 rfl (lv_at hl 2 rfl) ?_
              refine lv_iload hx hb dX6_reckon_59 (lv_at hl 5 rfl) ?_
              refine lv_iconst (v := 1) hx hb dX6_reckon_61 (by decide) ?_
              refine tr_iadd hx hb dX6_reckon_62 (Eq.refl _) tk_1 (by omega) (by omega) (fun x56 ex56 => ?_)
              replace hF := hF.trans (congrArg (dv_k f_X6_reckon_11b) (dv_bn (ex56.symm)))
              refine lv_aload_n hx hb dX6_reckon_63 rfl (lv_at hl 2 rfl) ?_
              refine th_getO (j := 0) (r2 := 24) hC cf_X6 hB.1 h0 ro_23 rfl rfl kf_X6_9 dX6_reckon_64 (fun b57 mb57 hb57 => ?_)
              have sb57 := (th_F_o hB.2.2 h0 ro_23 (j := 0) (by decide) (by decide)).symm.trans mb57
              refine th_alen hC hB.1 hb57 ro_24 rfl (by decide) dX6_reckon_67 (fun x58 ex58 lx58 ux58 => ?_)
              replace hF := hF.trans (congrArg (dv_k f_X6_reckon_11b) (dv_bn ((show (64 : Int) = x58.toInt from by omega))))
              have jn81 : ∀ (locs : List Loc) (ls : Array Slot) , th_B G Γ Γ [(24, 0), (23, 3)] H0 H11 locs → lv_has ls 13 [(7, .int x55), (6, .int x11), (0, .ref a0), (1, .ref p1), (3, .int p3), (4, .int j11_4), (5, .int j11_5)] → F = dv_k f_X6_reckon_11b (f_X6_reckon_81 (dv G Γ H11) (x55.toInt) (x11.toInt) ((a0 : Int)) ((p1 : Int)) (p3.toInt) (j11_4.toInt) (j11_5.toInt)) → W p l e ({ frames := 0, cells := 0, slots := 0, locals := 0 } : Room) s m ([.ref a0, .ref p1, .int p2, .int p3] : List Value).toArray below meth c H11 locs 0 0 (MQ below (th_Q (fun (v : Option Value) (H1 : Heap) => ∃ r : Int64, v = some (.long r) ∧ th_I G Γ H1 ∧ th_F G Γ [(24, 0), (23, 3)] H0 H1 ∧ th_RC G Γ H1 ∧ (f_X6_reckon (dv G Γ H0) (a0 : Int) (p1 : Int) p2.toInt p3.toInt = (dv G Γ H1, r.toInt))) G) ([.ref a0, .ref p1, .int p2, .int p3] : List Value).toArray s 0 0 (fun q => G.2.2 ≤ q)) (F0 m 81 ls [.ref a0]) := by
                intro locs ls hB hl hF
                replace hF := hF.trans (congrArg (dv_k f_X6_reckon_11b) (f_X6_reckon_81.eq_1 (dv G Γ H11) (x55.toInt) (x11.toInt) ((a0 : Int)) ((p1 : Int)) (p3.toInt) (j11_4.toInt) (j11_5.toInt)))
                refine lv_iconst (v := 1) hx hb dX6_reckon_81 (by decide) ?_
                refine lv_goto (tgt := 86) hx hb dX6_reckon_82 (by decide) ?_
                refine th_put hC cf_X6 hB h0 (Or.inl h0) ro_23 rfl (j := 3) rfl (th_sI (by decide) (by decide)) (by decide) rfl narrow_b1 rfl kf_X6_26 dX6_reckon_86 (fun H86 locs hB hf hst86 => ?_)
                have mm59 := (th_F_o hf h1 ro_39 (j := 2) (by decide) (by decide)).trans mx4
                have mm60 := (th_F_o hf h1 ro_39 (j := 0) (by decide) (by decide)).trans mb10
                have mm61 := (th_F_o hf h0 ro_23 (j := 0) (by decide) (by decide)).trans mb57
                have hR := th_RC_F hB.1 hR hf (th_T_s h0 ro_23 hst86) (by decide)
                replace hF := hF.trans (congrArg (dv_k f_X6_reckon_11b) (dv_bn (dv_putI hB.1 h0 ro_23 (j := 3) rfl (th_apart hC cf_X6) hst86 tk_1 (by decide))))
                have mm62 := hst86.2.1
                refine lv_aload_n hx hb dX6_reckon_89 rfl (lv_at hl 2 rfl) ?_
                refine th_getK hC cf_X6 hB.1 h0 ro_23 rfl (j := 3) (by decide) mm62 kf_X6_26 dX6_reckon_90 ?_
                replace hF := hF.trans (congrArg (dv_k f_X6_reckon_11b) (dv_bn ((dv_getI h0 ro_23 (j := 3) rfl mm62 (by decide)).trans tk_1)))
                refine tr_if_ne (tgt := 538) hx hb dX6_reckon_93 (by decide) tk_1 (fun c93 => ?_) (fun c93 => ?_)
                · exact jn538 H86 locs ls j11_4 j11_5 hB hR (lv_sub hl [2, 3, 4, 5, 6] rfl) hF (by omega) (by omega) (by omega) (by omega) (by omega)
                · exfalso; omega
              refine tr_icmp_ge (tgt := 81) hx hb dX6_reckon_68 (by decide) (Eq.refl _) (Eq.refl _) (fun c68 => ?_) (fun c68 => ?_)
              · replace hF := hF.trans (congrArg (dv_k f_X6_reckon_11b) (if_pos c68))
                exact jn81 locs ls hB (lv_sub hl [0, 1, 2, 3, 4, 5, 6] rfl) hF
              · replace hF := hF.trans (congrArg (dv_k f_X6_reckon_11b) (if_neg (Int.not_le.mpr c68)))
                refine lv_iload hx hb dX6_reckon_71 (lv_at hl 0 rfl) ?_
                refine lv_aload_n hx hb dX6_reckon_73 rfl (lv_at hl 2 rfl) ?_
                refine th_getO (j := 1) (r2 := 25) hC cf_X6 hB.1 h0 ro_23 rfl rfl kf_X6_17 dX6_reckon_74 (fun b63 mb63 hb63 => ?_)
                have sb63 := (th_F_o hB.2.2 h0 ro_23 (j := 1) (by decide) (by decide)).symm.trans mb63
                refine th_alen hC hB.1 hb63 ro_25 rfl (by decide) dX6_reckon_77 (fun x64 ex64 lx64 ux64 => ?_)
                replace hF := hF.trans (congrArg (dv_k f_X6_reckon_11b) (dv_bn ((show (23 : Int) = x64.toInt from by omega))))
                refine tr_icmp_lt (tgt := 85) hx hb dX6_reckon_78 (by decide) (Eq.refl _) (Eq.refl _) (fun c78 => ?_) (fun c78 => ?_)
                · replace hF := hF.trans (congrArg (dv_k f_X6_reckon_11b) (if_pos c78))
                  refine lv_iconst (v := 0) hx hb dX6_reckon_85 (by decide) ?_
                  refine th_put hC cf_X6 hB h0 (Or.inl h0) ro_23 rfl (j := 3) rfl (th_sI (by decide) (by decide)) (by decide) rfl narrow_b0 rfl kf_X6_26 dX6_reckon_86 (fun H86 locs hB hf hst86 => ?_)
                  have mm65 := (th_F_o hf h1 ro_39 (j := 2) (by decide) (by decide)).trans mx4
                  have mm66 := (th_F_o hf h1 ro_39 (j := 0) (by decide) (by decide)).trans mb10
                  have mm67 := (th_F_o hf h0 ro_23 (j := 0) (by decide) (by decide)).trans mb57
                  have mm68 := (th_F_o hf h0 ro_23 (j := 1) (by decide) (by decide)).trans mb63
                  have hR := th_RC_F hB.1 hR hf (th_T_s h0 ro_23 hst86) (by decide)
                  replace hF := hF.trans (congrArg (dv_k f_X6_reckon_11b) (dv_bn (dv_putI hB.1 h0 ro_23 (j := 3) rfl (th_apart hC cf_X6) hst86 tk_0 (by decide))))
                  have mm69 := hst86.2.1
                  refine lv_aload_n hx hb dX6_reckon_89 rfl (lv_at hl 2 rfl) ?_
                  refine th_getK hC cf_X6 hB.1 h0 ro_23 rfl (j := 3) (by decide) mm69 kf_X6_26 dX6_reckon_90 ?_
                  replace hF := hF.trans (congrArg (dv_k f_X6_reckon_11b) (dv_bn ((dv_getI h0 ro_23 (j := 3) rfl mm69 (by decide)).trans tk_0)))
                  refine tr_if_ne (tgt := 538) hx hb dX6_reckon_93 (by decide) tk_0 (fun c93 => ?_) (fun c93 => ?_)
                  · exfalso; omega
                  · refine lv_aload_n hx hb dX6_reckon_96 rfl (lv_at hl 2 rfl) ?_
                    refine th_getK hC cf_X6 hB.1 h0 ro_23 rfl (j := 0) (by decide) mm67 kf_X6_9 dX6_reckon_97 ?_
                    refine lv_iload hx hb dX6_reckon_100 (lv_at hl 5 rfl) ?_
                    refine lv_iload hx hb dX6_reckon_102 (lv_at hl 0 rfl) ?_
                    have jn121 : ∀ (locs : List Loc) (ls : Array Slot) (s121_2 : Int64), th_B G Γ Γ [(24, 0), (23, 3)] H0 H86 locs → lv_has ls 13 [(0, .ref a0), (1, .ref p1), (3, .int p3), (4, .int j11_4), (5, .int j11_5)] → F = dv_k f_X6_reckon_11b (f_X6_reckon_121 (dv G Γ H86) ((a0 : Int)) ((p1 : Int)) (p3.toInt) (j11_4.toInt) (j11_5.toInt) (s121_2.toInt)) → W p l e ({ frames := 0, cells := 0, slots := 0, locals := 0 } : Room) s m ([.ref a0, .ref p1, .int p2, .int p3] : List Value).toArray below meth c H86 locs 0 0 (MQ below (th_Q (fun (v : Option Value) (H1 : Heap) => ∃ r : Int64, v = some (.long r) ∧ th_I G Γ H1 ∧ th_F G Γ [(24, 0), (23, 3)] H0 H1 ∧ th_RC G Γ H1 ∧ (f_X6_reckon (dv G Γ H0) (a0 : Int) (p1 : Int) p2.toInt p3.toInt = (dv G Γ H1, r.toInt))) G) ([.ref a0, .ref p1, .int p2, .int p3] : List Value).toArray s 0 0 (fun q => G.2.2 ≤ q)) (F0 m 121 ls [.long s121_2, .int j11_4, .ref b57]) := by
                      intro locs ls s121_2 hB hl hF
                      replace hF := hF.trans (congrArg (dv_k f_X6_reckon_11b) (f_X6_reckon_121.eq_1 (dv G Γ H86) ((a0 : Int)) ((p1 : Int)) (p3.toInt) (j11_4.toInt) (j11_5.toInt) (s121_2.toInt)))
                      have hIo := hB.1
                      refine th_lastF hC hB hb57 (Or.inl hb57) ro_24 rfl (by decide) (Eq.refl _) (by omega) (by omega) th_sLa dX6_reckon_121 (fun H121 locs hB hf121 hst121 => ?_)
                      have hf := hf121
                      have mm70 := (th_F_o hf h1 ro_39 (j := 2) (by decide) (by decide)).trans mm65
                      have mm71 := (th_F_o hf h1 ro_39 (j := 0) (by decide) (by decide)).trans mm66
                      have mm72 := (th_F_o hf h0 ro_23 (j := 0) (by decide) (by decide)).trans mm67
                      have mm73 := (th_F_o hf h0 ro_23 (j := 1) (by decide) (by decide)).trans mm68
                      have mm74 := (th_F_o hf h0 ro_23 (j := 3) (by decide) (by decide)).trans mm69
                      have hR := th_RC_F hB.1 hR hf (th_T_s hb57 ro_24 hst121) (by decide)
                      replace hF := hF.trans (congrArg (dv_k f_X6_reckon_11b) (dv_bn (dv_stoL hIo hB.1 hU hb57 ow_24 (i := j11_4.toInt) hst121 (Eq.refl (s121_2.toInt)) (by omega))))
                      refine tr_iinc (fun x75 => [(4, .int x75), (0, .ref a0), (1, .ref p1), (3, .int p3), (5, .int j11_5)]) hx hb dX6_reckon_122 hl (k := 3) rfl (Eq.refl _) tk_1 (by omega) (by omega) (by decide) (fun _ => rfl) (fun x75 ls ex75 hl => ?_)
                      replace hF := hF.trans (congrArg (dv_k f_X6_reckon_11b) (dv_bn (ex75.symm)))
                      refine lv_goto (tgt := 538) hx hb dX6_reckon_125 (by decide) ?_
                      exact jn538 H121 locs ls x75 j11_5 hB hR (lv_sub hl [1, 2, 3, 0, 4] rfl) hF (by omega) (by omega) (by omega) (by omega) (by omega)
                    refine tr_if_ge (tgt := 113) hx hb dX6_reckon_104 (by decide) (Eq.refl _) (fun c104 => ?_) (fun c104 => ?_)
                    · replace hF := hF.trans (congrArg (dv_k f_X6_reckon_11b) (if_pos c104))
                      refine lv_aload_n hx hb dX6_reckon_113 rfl (lv_at hl 2 rfl) ?_
                      refine th_getK hC cf_X6 hB.1 h0 ro_23 rfl (j := 1) (by decide) mm68 kf_X6_17 dX6_reckon_114 ?_
                      refine lv_iload hx hb dX6_reckon_117 (lv_at hl 0 rfl) ?_
                      refine th_ialdF hC hB.1 hb63 ro_25 rfl (Eq.refl _) (by omega) (by omega) rfl dX6_reckon_119 (fun x76 mx76 lx76 ux76 => ?_)
                      replace hF := hF.trans (congrArg (dv_k f_X6_reckon_11b) (dv_bn (dv_aldI hB.1 hU hb63 ow_25 (z := x55.toInt) mx76 (by omega))))
                      refine lv_i2l hx hb dX6_reckon_120 rfl ?_
                      refine lv_topl (fun y77 ey77 => ?_)
                      replace hF := hF.trans (congrArg (dv_k f_X6_reckon_11b) (dv_bn (dv_i2l_e (Eq.refl _) ey77)))
                      exact jn121 locs ls y77 hB (lv_sub hl [2, 3, 4, 5, 6] rfl) hF
                    · replace hF := hF.trans (congrArg (dv_k f_X6_reckon_11b) (if_neg (Int.not_le.mpr c104)))
                      refine lv_iload hx hb dX6_reckon_107 (lv_at hl 1 rfl) ?_
                      refine lv_i2l hx hb dX6_reckon_109 rfl ?_
                      refine lv_topl (fun y78 ey78 => ?_)
                      replace hF := hF.trans (congrArg (dv_k f_X6_reckon_11b) (dv_bn (dv_i2l_e (Eq.refl _) ey78)))
                      refine lv_goto (tgt := 121) hx hb dX6_reckon_110 (by decide) ?_
                      exact jn121 locs ls y78 hB (lv_sub hl [2, 3, 4, 5, 6] rfl) hF
                · replace hF := hF.trans (congrArg (dv_k f_X6_reckon_11b) (if_neg (Int.not_lt.mpr c78)))
                  exact jn81 locs ls hB (lv_sub hl [0, 1, 2, 3, 4, 5, 6] rfl) hF
  exact lp11 ((2147483648 : Int) - (p2.toInt)).toNat H5 locs ls 0 p2 hB hR (lv_sub hl [2, 3, 5, 1, 0] rfl) (by rw [tk_0]; exact hF) (by decide) (by decide) (by omega) (by have w0 := tk_0; omega)

set_option maxHeartbeats 4000000 in
set_option maxRecDepth 100000 in
theorem c_X6_isSo (l : Launch) (G : th_G) (Γ : th_Ga) (H0 : Heap) (hI : th_I G Γ H0) (hR : th_RC G Γ H0) (hU : dv_U Γ) (a0 : Nat) (h0 : Γ a0 = (23, 0)) (p1 : Nat) (h1 : Γ p1 = (39, 0)) (p2 : Int32) (f2 : 0 ≤ p2.toInt) (g2 : p2.toInt ≤ 11) : Met l yX6_isSo (.code yX6_isSo cX6_isSo 5 (some FieldType.boolean) :: th_tb) ({ frames := 1, cells := 0, slots := 0, locals := 32 } : Room) (th_P [.ref a0, .ref p1, .int p2] G H0) (th_Q (fun (v : Option Value) (H1 : Heap) => ∃ r : Int32, v = some (.int r) ∧ 0 ≤ r.toInt ∧ r.toInt ≤ 1 ∧ th_I G Γ H1 ∧ th_F G Γ [(24, 0), (23, 3)] H0 H1 ∧ th_RC G Γ H1 ∧ (f_X6_isSo (dv G Γ H0) (a0 : Int) (p1 : Int) p2.toInt = (dv G Γ H1, r.toInt))) G) 0 0 (fun q => G.2.2 ≤ q) := by
  refine th_met RX6 (by decide) rfl (Nat.le_of_ble_eq_true rfl) ?_
  intro p e s m below meth c hC hH hr hlocks hnm ls hl
  have hx := hC.1
  have hb := hC.2.1
  have hB : th_B G Γ Γ [(24, 0), (23, 3)] H0 H0 [] := ⟨hI, va_S.rf, th_F_rf⟩
  have hl : lv_has ls 5 [(0, .ref a0), (1, .ref p1), (2, .int p2)] := hl
  have lp2 := ti_lo p2; have up2 := ti_hi p2
  obtain ⟨F, hF0⟩ : ∃ F, F = f_X6_isSo (dv G Γ H0) ((a0 : Int)) ((p1 : Int)) (p2.toInt) := ⟨_, rfl⟩
  have hF := hF0.trans (f_X6_isSo.eq_1 (dv G Γ H0) ((a0 : Int)) ((p1 : Int)) (p2.toInt))
  refine lv_aload_n hx hb dX6_isSo_0 rfl (lv_at hl 1 rfl) ?_
  refine lv_iload_n hx hb dX6_isSo_1 rfl (lv_at hl 2 rfl) ?_
  refine lv_bipush (v := 6) hx hb dX6_isSo_2 (by decide) ?_
  refine th_call (th_runV (As := [.int p2, .int 6]) (rest := []) hC mf_X10_mark km_X6_59 im_X10_mark se_X10_mark (c_X10_mark l G Γ H0 hB.1 hU p1 h1 p2 (by omega) (by omega) 6 (by decide) (by decide)) rfl rfl ⟨Nat.le_of_ble_eq_true rfl, Nat.le_of_ble_eq_true rfl⟩ hB.1 h1 ro_39 rfl rfl hl.1 rfl (Nat.le_of_ble_eq_true rfl) dX6_isSo_4 ⟨Nat.le_refl _, Nat.le_refl _⟩) hB.2.1 (fun v4 H4 locs hp hz hS => ?_)
  obtain ⟨x1, rfl, q4_0, q4_1, rfl⟩ := hp
  have hB := th_B_s hB hS
  have w4_1 := tk_6
  have zf4 := q4_1
  rw [tk_6] at zf4
  replace hF := hF.trans (dv_bn2 (zf4))
  refine W.eq (g2 := F0 m 7 ls [.int x1]) rfl ?_
  refine lv_istore_n (lv' := [(3, .int x1), (0, .ref a0), (1, .ref p1), (2, .int p2)]) hx hb dX6_isSo_7 rfl hl (by decide) rfl (fun ls hl => ?_)
  refine lv_aload_n hx hb dX6_isSo_8 rfl (lv_at hl 2 rfl) ?_
  refine lv_iload_n hx hb dX6_isSo_9 rfl (lv_at hl 3 rfl) ?_
  refine lv_bipush (v := 7) hx hb dX6_isSo_10 (by decide) ?_
  refine th_call (th_runV (As := [.int p2, .int 7]) (rest := []) hC mf_X10_mark km_X6_59 im_X10_mark se_X10_mark (c_X10_mark l G Γ H0 hB.1 hU p1 h1 p2 (by omega) (by omega) 7 (by decide) (by decide)) rfl rfl ⟨Nat.le_of_ble_eq_true rfl, Nat.le_of_ble_eq_true rfl⟩ hB.1 h1 ro_39 rfl rfl hl.1 rfl (Nat.le_of_ble_eq_true rfl) dX6_isSo_12 ⟨Nat.le_refl _, Nat.le_refl _⟩) hB.2.1 (fun v12 H12 locs hp hz hS => ?_)
  obtain ⟨x2, rfl, q12_0, q12_1, rfl⟩ := hp
  have hB := th_B_s hB hS
  have w12_1 := tk_7
  have zf12 := q12_1
  rw [tk_7] at zf12
  replace hF := hF.trans (dv_bn2 (zf12))
  refine W.eq (g2 := F0 m 15 ls [.int x2]) rfl ?_
  refine lv_istore (lv' := [(4, .int x2), (3, .int x1), (0, .ref a0), (1, .ref p1), (2, .int p2)]) hx hb dX6_isSo_15 hl (by decide) rfl (fun ls hl => ?_)
  refine lv_iload_n hx hb dX6_isSo_17 rfl (lv_at hl 1 rfl) ?_
  refine lv_iload hx hb dX6_isSo_18 (lv_at hl 0 rfl) ?_
  refine tr_icmp_eq (tgt := 43) hx hb dX6_isSo_20 (by decide) (Eq.refl _) (Eq.refl _) (fun c20 => ?_) (fun c20 => ?_)
  · replace hF := hF.trans (if_pos c20)
    refine lv_iconst (v := 1) hx hb dX6_isSo_43 (by decide) ?_
    refine lv_goto (tgt := 48) hx hb dX6_isSo_44 (by decide) ?_
    exact th_iret hC hH hr hlocks narrow_b1 hB.2.1 ⟨_, rfl, by decide, by decide, hB.1, hB.2.2, hR, (hF0.symm.trans (hF.trans (by rw [tk_1])))⟩ dX6_isSo_48
  · replace hF := hF.trans (if_neg c20)
    refine lv_aload_n hx hb dX6_isSo_23 rfl (lv_at hl 2 rfl) ?_
    refine lv_aload_n hx hb dX6_isSo_24 rfl (lv_at hl 3 rfl) ?_
    refine lv_iload_n hx hb dX6_isSo_25 rfl (lv_at hl 1 rfl) ?_
    refine lv_iload hx hb dX6_isSo_26 (lv_at hl 0 rfl) ?_
    refine th_call (th_runV (As := [.ref p1, .int x1, .int x2]) (rest := []) hC mf_X6_reckon km_X6_63 im_X6_reckon se_X6_reckon (c_X6_reckon l G Γ H0 hB.1 hR hU a0 h0 p1 h1 x1 (by omega) x2) rfl rfl ⟨Nat.le_of_ble_eq_true rfl, Nat.le_of_ble_eq_true rfl⟩ hB.1 h0 ro_23 rfl rfl hl.1 rfl (Nat.le_of_ble_eq_true rfl) dX6_isSo_28 ⟨Nat.le_refl _, Nat.le_refl _⟩) hB.2.1 (fun v28 H28 locs hp hz hS => ?_)
    obtain ⟨y3, rfl, hI1, hf, hR, z28_0⟩ := hp
    have hB := th_B_c hB hI1 hS hf (by decide)
    replace hF := hF.trans (dv_bn2 (z28_0))
    refine W.eq (g2 := F0 m 31 ls [.long y3]) rfl ?_
    refine lv_lconst (v := 0) hx hb dX6_isSo_31 rfl ?_
    refine tr_lcmp2 hx hb dX6_isSo_32 (fun x4 fx4 gx4 ix4 => ?_)
    replace hF := hF.trans (dv_bn (dv_lcmp_e (Eq.refl (y3.toInt)) (rfl : (0 : Int64).toInt = 0) fx4 ix4))
    refine tr_if_eq (tgt := 47) hx hb dX6_isSo_33 (by decide) (Eq.refl _) (fun c33 => ?_) (fun c33 => ?_)
    · replace hF := hF.trans (if_pos c33)
      refine lv_iconst (v := 0) hx hb dX6_isSo_47 (by decide) ?_
      exact th_iret hC hH hr hlocks narrow_b0 hB.2.1 ⟨_, rfl, by decide, by decide, hB.1, hB.2.2, hR, (hF0.symm.trans (hF.trans (by rw [tk_0])))⟩ dX6_isSo_48
    · replace hF := hF.trans (if_neg c33)
      refine lv_aload_n hx hb dX6_isSo_36 rfl (lv_at hl 2 rfl) ?_
      refine th_getI (j := 3) hC cf_X6 hB.1 h0 ro_23 rfl rfl kf_X6_26 dX6_isSo_37 (fun x5 mx5 lx5 ux5 => ?_)
      replace hF := hF.trans (dv_bn (dv_getI h0 ro_23 (j := 3) rfl mx5 (by decide)))
      refine tr_if_ne (tgt := 47) hx hb dX6_isSo_40 (by decide) (Eq.refl _) (fun c40 => ?_) (fun c40 => ?_)
      · replace hF := hF.trans (if_pos c40)
        refine lv_iconst (v := 0) hx hb dX6_isSo_47 (by decide) ?_
        exact th_iret hC hH hr hlocks narrow_b0 hB.2.1 ⟨_, rfl, by decide, by decide, hB.1, hB.2.2, hR, (hF0.symm.trans (hF.trans (by rw [tk_0])))⟩ dX6_isSo_48
      · replace hF := hF.trans (if_neg (not_not_intro c40))
        refine lv_iconst (v := 1) hx hb dX6_isSo_43 (by decide) ?_
        refine lv_goto (tgt := 48) hx hb dX6_isSo_44 (by decide) ?_
        exact th_iret hC hH hr hlocks narrow_b1 hB.2.1 ⟨_, rfl, by decide, by decide, hB.1, hB.2.2, hR, (hF0.symm.trans (hF.trans (by rw [tk_1])))⟩ dX6_isSo_48

set_option maxHeartbeats 4000000 in
set_option maxRecDepth 100000 in
theorem c_X6_reckonSums (l : Launch) (G : th_G) (Γ : th_Ga) (H0 : Heap) (hI : th_I G Γ H0) (hR : th_RC G Γ H0) (hU : dv_U Γ) (a0 : Nat) (h0 : Γ a0 = (23, 0)) (p1 : Nat) (h1 : Γ p1 = (39, 0)) (p2 : Int32) (f2 : 0 ≤ p2.toInt) (g2 : p2.toInt ≤ 11) : Met l yX6_reckonSums (.code yX6_reckonSums cX6_reckonSums 6 (some FieldType.boolean) :: th_tb) ({ frames := 1, cells := 0, slots := 0, locals := 32 } : Room) (th_P [.ref a0, .ref p1, .int p2] G H0) (th_Q (fun (v : Option Value) (H1 : Heap) => ∃ r : Int32, v = some (.int r) ∧ 0 ≤ r.toInt ∧ r.toInt ≤ 1 ∧ th_I G Γ H1 ∧ th_F G Γ [(24, 0), (23, 3), (26, 0)] H0 H1 ∧ th_RC G Γ H1 ∧ (f_X6_reckonSums (dv G Γ H0) (a0 : Int) (p1 : Int) p2.toInt = (dv G Γ H1, r.toInt))) G) 0 0 (fun q => G.2.2 ≤ q) := by
  refine th_met RX6 (by decide) rfl (Nat.le_of_ble_eq_true rfl) ?_
  intro p e s m below meth c hC hH hr hlocks hnm ls hl
  have hx := hC.1
  have hb := hC.2.1
  have hB : th_B G Γ Γ [(24, 0), (23, 3), (26, 0)] H0 H0 [] := ⟨hI, va_S.rf, th_F_rf⟩
  have hl : lv_has ls 6 [(0, .ref a0), (1, .ref p1), (2, .int p2)] := hl
  have lp2 := ti_lo p2; have up2 := ti_hi p2
  obtain ⟨F, hF0⟩ : ∃ F, F = f_X6_reckonSums (dv G Γ H0) ((a0 : Int)) ((p1 : Int)) (p2.toInt) := ⟨_, rfl⟩
  have hF := hF0.trans (f_X6_reckonSums.eq_1 (dv G Γ H0) ((a0 : Int)) ((p1 : Int)) (p2.toInt))
  refine lv_iconst (v := 0) hx hb dX6_reckonSums_0 (by decide) ?_
  refine lv_istore_n (lv' := [(3, .int 0), (0, .ref a0), (1, .ref p1), (2, .int p2)]) hx hb dX6_reckonSums_1 rfl hl (by decide) rfl (fun ls hl => ?_)
  have lp2 : ∀ (n2 : Nat) (H2 : Heap) (locs : List Loc) (ls : Array Slot) (j2_3 : Int32), th_B G Γ Γ [(24, 0), (23, 3), (26, 0)] H0 H2 locs → th_RC G Γ H2 → lv_has ls 6 [(0, .ref a0), (1, .ref p1), (2, .int p2), (3, .int j2_3)] → F = dv_lp f_X6_reckonSums_2b (dv G Γ H2, (a0 : Int), (p1 : Int), p2.toInt, j2_3.toInt) → 0 ≤ j2_3.toInt → j2_3.toInt ≤ 3 → (2147483648 : Int) - j2_3.toInt ≤ (n2 : Int) → W p l e ({ frames := 1, cells := 0, slots := 0, locals := 32 } : Room) s m ([.ref a0, .ref p1, .int p2] : List Value).toArray below meth c H2 locs 0 0 (MQ below (th_Q (fun (v : Option Value) (H1 : Heap) => ∃ r : Int32, v = some (.int r) ∧ 0 ≤ r.toInt ∧ r.toInt ≤ 1 ∧ th_I G Γ H1 ∧ th_F G Γ [(24, 0), (23, 3), (26, 0)] H0 H1 ∧ th_RC G Γ H1 ∧ (f_X6_reckonSums (dv G Γ H0) (a0 : Int) (p1 : Int) p2.toInt = (dv G Γ H1, r.toInt))) G) ([.ref a0, .ref p1, .int p2] : List Value).toArray s 0 0 (fun q => G.2.2 ≤ q)) (F0 m 2 ls []) := by
    intro n2
    induction n2 with
    | zero => intro H2 locs ls j2_3 hB hR hl hF g2_0 g2_1 hm2; exact absurd hm2 (by have := ti_hi j2_3; omega)
    | succ n2 ih2 =>
      intro H2 locs ls j2_3 hB hR hl hF g2_0 g2_1 hm2
      have lj2_3 := ti_lo j2_3; have uj2_3 := ti_hi j2_3
      have hm2 : (2147483648 : Int) - j2_3.toInt ≤ (n2 : Int) + 1 := by omega
      replace hF := hF.trans (dv_lp_eq)
      replace hF := hF.trans (congrArg (dv_k f_X6_reckonSums_2b) (f_X6_reckonSums_2c.eq_1 (dv G Γ H2) ((a0 : Int)) ((p1 : Int)) (p2.toInt) (j2_3.toInt)))
      refine lv_iload_n hx hb dX6_reckonSums_2 rfl (lv_at hl 3 rfl) ?_
      refine lv_iconst (v := 3) hx hb dX6_reckonSums_3 (by decide) ?_
      refine tr_icmp_ge (tgt := 78) hx hb dX6_reckonSums_4 (by decide) (Eq.refl _) tk_3 (fun c4 => ?_) (fun c4 => ?_)
      · replace hF := hF.trans (congrArg (dv_k f_X6_reckonSums_2b) (if_pos c4))
        refine lv_iconst (v := 1) hx hb dX6_reckonSums_78 (by decide) ?_
        replace hF := hF.trans (dv_kr)
        exact th_iret hC hH hr hlocks narrow_b1 hB.2.1 ⟨_, rfl, by decide, by decide, hB.1, hB.2.2, hR, (hF0.symm.trans (hF.trans (by rw [tk_1])))⟩ dX6_reckonSums_79
      · replace hF := hF.trans (congrArg (dv_k f_X6_reckonSums_2b) (if_neg (Int.not_le.mpr c4)))
        refine lv_aload_n hx hb dX6_reckonSums_7 rfl (lv_at hl 1 rfl) ?_
        refine lv_iload_n hx hb dX6_reckonSums_8 rfl (lv_at hl 2 rfl) ?_
        refine lv_iconst (v := 2) hx hb dX6_reckonSums_9 (by decide) ?_
        refine lv_iload_n hx hb dX6_reckonSums_10 rfl (lv_at hl 3 rfl) ?_
        refine tr_iadd hx hb dX6_reckonSums_11 tk_2 (Eq.refl _) (by omega) (by omega) (fun x1 ex1 => ?_)
        replace hF := hF.trans (congrArg (dv_k f_X6_reckonSums_2b) (dv_bn (ex1.symm)))
        refine th_call (th_runV (As := [.int p2, .int x1]) (rest := []) hC mf_X10_mark km_X6_59 im_X10_mark se_X10_mark (c_X10_mark l G Γ H2 hB.1 hU p1 h1 p2 (by omega) (by omega) x1 (by omega) (by omega)) rfl rfl ⟨Nat.le_of_ble_eq_true rfl, Nat.le_of_ble_eq_true rfl⟩ hB.1 h1 ro_39 rfl rfl hl.1 rfl (Nat.le_of_ble_eq_true rfl) dX6_reckonSums_12 ⟨Nat.le_refl _, Nat.le_refl _⟩) hB.2.1 (fun v12 H12 locs hp hz hS => ?_)
        obtain ⟨x2, rfl, q12_0, q12_1, rfl⟩ := hp
        have hB := th_B_s hB hS
        replace hF := hF.trans (congrArg (dv_k f_X6_reckonSums_2b) (dv_bn2 (q12_1)))
        refine W.eq (g2 := F0 m 15 ls [.int x2]) rfl ?_
        refine lv_istore (lv' := [(4, .int x2), (0, .ref a0), (1, .ref p1), (2, .int p2), (3, .int j2_3)]) hx hb dX6_reckonSums_15 hl (by decide) rfl (fun ls hl => ?_)
        refine lv_aload_n hx hb dX6_reckonSums_17 rfl (lv_at hl 2 rfl) ?_
        refine lv_iload_n hx hb dX6_reckonSums_18 rfl (lv_at hl 3 rfl) ?_
        refine lv_iconst (v := 2) hx hb dX6_reckonSums_19 (by decide) ?_
        refine lv_iload_n hx hb dX6_reckonSums_20 rfl (lv_at hl 4 rfl) ?_
        refine tr_iadd hx hb dX6_reckonSums_21 tk_2 (Eq.refl _) (by omega) (by omega) (fun x3 ex3 => ?_)
        replace hF := hF.trans (congrArg (dv_k f_X6_reckonSums_2b) (dv_bn (ex3.symm)))
        refine lv_iconst (v := 1) hx hb dX6_reckonSums_22 (by decide) ?_
        refine tr_iadd hx hb dX6_reckonSums_23 (Eq.refl _) tk_1 (by omega) (by omega) (fun x4 ex4 => ?_)
        replace hF := hF.trans (congrArg (dv_k f_X6_reckonSums_2b) (dv_bn (ex4.symm)))
        refine th_call (th_runV (As := [.int p2, .int x4]) (rest := []) hC mf_X10_mark km_X6_59 im_X10_mark se_X10_mark (c_X10_mark l G Γ H2 hB.1 hU p1 h1 p2 (by omega) (by omega) x4 (by omega) (by omega)) rfl rfl ⟨Nat.le_of_ble_eq_true rfl, Nat.le_of_ble_eq_true rfl⟩ hB.1 h1 ro_39 rfl rfl hl.1 rfl (Nat.le_of_ble_eq_true rfl) dX6_reckonSums_24 ⟨Nat.le_refl _, Nat.le_refl _⟩) hB.2.1 (fun v24 H24 locs hp hz hS => ?_)
        obtain ⟨x5, rfl, q24_0, q24_1, rfl⟩ := hp
        have hB := th_B_s hB hS
        replace hF := hF.trans (congrArg (dv_k f_X6_reckonSums_2b) (dv_bn2 (q24_1)))
        refine W.eq (g2 := F0 m 27 ls [.int x5]) rfl ?_
        refine lv_istore (lv' := [(5, .int x5), (4, .int x2), (0, .ref a0), (1, .ref p1), (2, .int p2), (3, .int j2_3)]) hx hb dX6_reckonSums_27 hl (by decide) rfl (fun ls hl => ?_)
        refine lv_aload_n hx hb dX6_reckonSums_29 rfl (lv_at hl 2 rfl) ?_
        refine th_getO (j := 2) (r2 := 26) hC cf_X6 hB.1 h0 ro_23 rfl rfl kf_X6_23 dX6_reckonSums_30 (fun b6 mb6 hb6 => ?_)
        have sb6 := (th_F_o hB.2.2 h0 ro_23 (j := 2) (by decide) (by decide)).symm.trans mb6
        refine lv_iload_n hx hb dX6_reckonSums_33 rfl (lv_at hl 5 rfl) ?_
        refine lv_iload hx hb dX6_reckonSums_34 (lv_at hl 1 rfl) ?_
        refine lv_iload hx hb dX6_reckonSums_36 (lv_at hl 0 rfl) ?_
        have jn55 : ∀ (H55 : Heap) (locs : List Loc) (ls : Array Slot) (s55_2 : Int32), th_B G Γ Γ [(24, 0), (23, 3), (26, 0)] H0 H55 locs → th_RC G Γ H55 → lv_has ls 6 [(5, .int x5), (4, .int x2), (0, .ref a0), (1, .ref p1), (2, .int p2), (3, .int j2_3)] → F = dv_k f_X6_reckonSums_2b (f_X6_reckonSums_55 (dv G Γ H55) (x5.toInt) (x2.toInt) ((a0 : Int)) ((p1 : Int)) (p2.toInt) (j2_3.toInt) (s55_2.toInt)) → W p l e ({ frames := 1, cells := 0, slots := 0, locals := 32 } : Room) s m ([.ref a0, .ref p1, .int p2] : List Value).toArray below meth c H55 locs 0 0 (MQ below (th_Q (fun (v : Option Value) (H1 : Heap) => ∃ r : Int32, v = some (.int r) ∧ 0 ≤ r.toInt ∧ r.toInt ≤ 1 ∧ th_I G Γ H1 ∧ th_F G Γ [(24, 0), (23, 3), (26, 0)] H0 H1 ∧ th_RC G Γ H1 ∧ (f_X6_reckonSums (dv G Γ H0) (a0 : Int) (p1 : Int) p2.toInt = (dv G Γ H1, r.toInt))) G) ([.ref a0, .ref p1, .int p2] : List Value).toArray s 0 0 (fun q => G.2.2 ≤ q)) (F0 m 55 ls [.int s55_2, .int j2_3, .ref b6]) := by
          intro H55 locs ls s55_2 hB hR hl hF
          have ls55_2 := ti_lo s55_2; have us55_2 := ti_hi s55_2
          have mm7 := (th_F_o hB.2.2 h0 ro_23 (j := 2) (by decide) (by decide)).trans sb6
          replace hF := hF.trans (congrArg (dv_k f_X6_reckonSums_2b) (f_X6_reckonSums_55.eq_1 (dv G Γ H55) (x5.toInt) (x2.toInt) ((a0 : Int)) ((p1 : Int)) (p2.toInt) (j2_3.toInt) (s55_2.toInt)))
          have hIo := hB.1
          refine th_iastF hC hB hb6 (Or.inl hb6) ro_26 rfl (by decide) (Eq.refl _) (by omega) (by omega) th_sIa dX6_reckonSums_55 (fun H55 locs hB hf55 hst55 => ?_)
          have hf := hf55
          have mm8 := (th_F_o hf h0 ro_23 (j := 2) (by decide) (by decide)).trans mm7
          have hR := th_RC_F hB.1 hR hf (th_T_s hb6 ro_26 hst55) (by decide)
          replace hF := hF.trans (congrArg (dv_k f_X6_reckonSums_2b) (dv_bn (dv_stoI hIo hB.1 hU hb6 ow_26 (i := j2_3.toInt) hst55 (Eq.refl _) (by omega))))
          refine lv_iload hx hb dX6_reckonSums_56 (lv_at hl 1 rfl) ?_
          refine lv_iload hx hb dX6_reckonSums_58 (lv_at hl 0 rfl) ?_
          have jn72 : ∀ (locs : List Loc) (ls : Array Slot) , th_B G Γ Γ [(24, 0), (23, 3), (26, 0)] H0 H55 locs → lv_has ls 6 [(0, .ref a0), (1, .ref p1), (2, .int p2), (3, .int j2_3)] → F = dv_k f_X6_reckonSums_2b (f_X6_reckonSums_72 (dv G Γ H55) ((a0 : Int)) ((p1 : Int)) (p2.toInt) (j2_3.toInt)) → W p l e ({ frames := 1, cells := 0, slots := 0, locals := 32 } : Room) s m ([.ref a0, .ref p1, .int p2] : List Value).toArray below meth c H55 locs 0 0 (MQ below (th_Q (fun (v : Option Value) (H1 : Heap) => ∃ r : Int32, v = some (.int r) ∧ 0 ≤ r.toInt ∧ r.toInt ≤ 1 ∧ th_I G Γ H1 ∧ th_F G Γ [(24, 0), (23, 3), (26, 0)] H0 H1 ∧ th_RC G Γ H1 ∧ (f_X6_reckonSums (dv G Γ H0) (a0 : Int) (p1 : Int) p2.toInt = (dv G Γ H1, r.toInt))) G) ([.ref a0, .ref p1, .int p2] : List Value).toArray s 0 0 (fun q => G.2.2 ≤ q)) (F0 m 72 ls []) := by
            intro locs ls hB hl hF
            replace hF := hF.trans (congrArg (dv_k f_X6_reckonSums_2b) (f_X6_reckonSums_72.eq_1 (dv G Γ H55) ((a0 : Int)) ((p1 : Int)) (p2.toInt) (j2_3.toInt)))
            refine tr_iinc (fun x9 => [(3, .int x9), (0, .ref a0), (1, .ref p1), (2, .int p2)]) hx hb dX6_reckonSums_72 hl (k := 3) rfl (Eq.refl _) tk_1 (by omega) (by omega) (by decide) (fun _ => rfl) (fun x9 ls ex9 hl => ?_)
            replace hF := hF.trans (congrArg (dv_k f_X6_reckonSums_2b) (dv_bn (ex9.symm)))
            refine lv_goto (tgt := 2) hx hb dX6_reckonSums_75 (by decide) ?_
            replace hF := hF.trans (dv_kl)
            exact ih2 H55 locs ls x9 hB hR (lv_sub hl [1, 2, 3, 0] rfl) hF (by omega) (by omega) (by omega)
          refine tr_icmp_eq (tgt := 72) hx hb dX6_reckonSums_60 (by decide) (Eq.refl _) (Eq.refl _) (fun c60 => ?_) (fun c60 => ?_)
          · replace hF := hF.trans (congrArg (dv_k f_X6_reckonSums_2b) (if_pos c60))
            exact jn72 locs ls hB (lv_sub hl [2, 3, 4, 5] rfl) hF
          · replace hF := hF.trans (congrArg (dv_k f_X6_reckonSums_2b) (if_neg c60))
            refine lv_aload_n hx hb dX6_reckonSums_63 rfl (lv_at hl 2 rfl) ?_
            refine th_getI (j := 3) hC cf_X6 hB.1 h0 ro_23 rfl rfl kf_X6_26 dX6_reckonSums_64 (fun x10 mx10 lx10 ux10 => ?_)
            replace hF := hF.trans (congrArg (dv_k f_X6_reckonSums_2b) (dv_bn (dv_getI h0 ro_23 (j := 3) rfl mx10 (by decide))))
            refine tr_if_eq (tgt := 72) hx hb dX6_reckonSums_67 (by decide) (Eq.refl _) (fun c67 => ?_) (fun c67 => ?_)
            · replace hF := hF.trans (congrArg (dv_k f_X6_reckonSums_2b) (if_pos c67))
              exact jn72 locs ls hB (lv_sub hl [2, 3, 4, 5] rfl) hF
            · replace hF := hF.trans (congrArg (dv_k f_X6_reckonSums_2b) (if_neg c67))
              refine lv_iconst (v := 0) hx hb dX6_reckonSums_70 (by decide) ?_
              replace hF := hF.trans (dv_kr)
              exact th_iret hC hH hr hlocks narrow_b0 hB.2.1 ⟨_, rfl, by decide, by decide, hB.1, hB.2.2, hR, (hF0.symm.trans (hF.trans (by rw [tk_0])))⟩ dX6_reckonSums_71
        refine tr_icmp_ne (tgt := 45) hx hb dX6_reckonSums_38 (by decide) (Eq.refl _) (Eq.refl _) (fun c38 => ?_) (fun c38 => ?_)
        · replace hF := hF.trans (congrArg (dv_k f_X6_reckonSums_2b) (if_pos c38))
          refine lv_aload_n hx hb dX6_reckonSums_45 rfl (lv_at hl 2 rfl) ?_
          refine lv_aload_n hx hb dX6_reckonSums_46 rfl (lv_at hl 3 rfl) ?_
          refine lv_iload hx hb dX6_reckonSums_47 (lv_at hl 1 rfl) ?_
          refine lv_iload hx hb dX6_reckonSums_49 (lv_at hl 0 rfl) ?_
          refine th_call (th_runV (As := [.ref p1, .int x2, .int x5]) (rest := [.int j2_3, .ref b6]) hC mf_X6_reckon km_X6_63 im_X6_reckon se_X6_reckon (c_X6_reckon l G Γ H2 hB.1 hR hU a0 h0 p1 h1 x2 (by omega) x5) rfl rfl ⟨Nat.le_of_ble_eq_true rfl, Nat.le_of_ble_eq_true rfl⟩ hB.1 h0 ro_23 rfl rfl hl.1 rfl (Nat.le_of_ble_eq_true rfl) dX6_reckonSums_51 ⟨Nat.le_refl _, Nat.le_refl _⟩) hB.2.1 (fun v51 H51 locs hp hz hS => ?_)
          obtain ⟨y11, rfl, hI1, hf, hR, z51_0⟩ := hp
          have hB := th_B_c hB hI1 hS hf (by decide)
          have mm12 := (th_F_o hf h0 ro_23 (j := 2) (by decide) (by decide)).trans mb6
          replace hF := hF.trans (congrArg (dv_k f_X6_reckonSums_2b) (dv_bn2 (z51_0)))
          refine W.eq (g2 := F0 m 54 ls [.long y11, .int j2_3, .ref b6]) rfl ?_
          refine lv_l2i hx hb dX6_reckonSums_54 rfl ?_
          refine lv_topi (fun x13 ex13 => ?_)
          have lx13 := ti_lo x13; have ux13 := ti_hi x13
          replace hF := hF.trans (congrArg (dv_k f_X6_reckonSums_2b) (dv_bn (dv_l2i_e (Eq.refl (y11.toInt)) ex13)))
          exact jn55 H51 locs ls x13 hB hR (lv_sub hl [0, 1, 2, 3, 4, 5] rfl) hF
        · replace hF := hF.trans (congrArg (dv_k f_X6_reckonSums_2b) (if_neg (not_not_intro c38)))
          refine lv_iconst (v := 0) hx hb dX6_reckonSums_41 (by decide) ?_
          refine lv_goto (tgt := 55) hx hb dX6_reckonSums_42 (by decide) ?_
          exact jn55 H2 locs ls 0 hB hR (lv_sub hl [0, 1, 2, 3, 4, 5] rfl) (by rw [tk_0]; exact hF)
  exact lp2 ((2147483648 : Int) - (0)).toNat H0 [] ls 0 hB hR (lv_sub hl [1, 2, 3, 0] rfl) (by rw [tk_0]; exact hF) (by decide) (by decide) (by have w0 := tk_0; omega)

set_option maxHeartbeats 4000000 in
set_option maxRecDepth 100000 in
theorem c_X2_holds (l : Launch) (G : th_G) (Γ : th_Ga) (H0 : Heap) (hI : th_I G Γ H0) (hR : th_RC G Γ H0) (hU : dv_U Γ) (a0 : Nat) (h0 : Γ a0 = (11, 0)) (p1 : Value) (h1 : p1 = .null ∨ ∃ b : Nat, p1 = .ref b ∧ Γ b = (39, 0)) (p2 : Int32) : Met l yX2_holds (.code yX2_holds cX2_holds 4 (some FieldType.boolean) :: th_tb) ({ frames := 2, cells := 0, slots := 0, locals := 57 } : Room) (th_P [.ref a0, p1, .int p2] G H0) (th_Q (fun (v : Option Value) (H1 : Heap) => ∃ r : Int32, v = some (.int r) ∧ 0 ≤ r.toInt ∧ r.toInt ≤ 1 ∧ th_I G Γ H1 ∧ th_F G Γ [(24, 0), (23, 3), (26, 0)] H0 H1 ∧ th_RC G Γ H1 ∧ (f_X2_holds (dv G Γ H0) (a0 : Int) (dv_iv p1) p2.toInt = (dv G Γ H1, r.toInt))) G) 0 0 (fun q => G.2.2 ≤ q) := by
  rcases h1 with rfl | ⟨b1, rfl, hb1⟩
  · refine th_met RX2 (by decide) rfl (Nat.le_of_ble_eq_true rfl) ?_
    intro p e s m below meth c hC hH hr hlocks hnm ls hl
    have hx := hC.1
    have hb := hC.2.1
    have hB : th_B G Γ Γ [(24, 0), (23, 3), (26, 0)] H0 H0 [] := ⟨hI, va_S.rf, th_F_rf⟩
    have hl : lv_has ls 4 [(0, .ref a0), (1, .null), (2, .int p2)] := hl
    have lp2 := ti_lo p2; have up2 := ti_hi p2
    obtain ⟨F, hF0⟩ : ∃ F, F = f_X2_holds (dv G Γ H0) ((a0 : Int)) (-1) (p2.toInt) := ⟨_, rfl⟩
    have hF := hF0.trans ((f_X2_holds.eq_1 (dv G Γ H0) ((a0 : Int)) (-1) (p2.toInt)).trans ((if_pos (rfl : dv_iv Value.null = -1)).trans (f_X2_holds_0.eq_1 (dv G Γ H0) ((a0 : Int)) (-1) (p2.toInt))))
    refine lv_aload_nN hx hb dX2_holds_0 rfl (lv_at hl 1 rfl) ?_
    refine lv_ifnonnullN hx hb dX2_holds_1 ?_
    refine lv_iconst (v := (-1)) hx hb dX2_holds_4 (by decide) ?_
    refine lv_goto (tgt := 14) hx hb dX2_holds_5 (by decide) ?_
    refine lv_istore_n (lv' := [(3, .int (-1)), (0, .ref a0), (1, .null), (2, .int p2)]) hx hb dX2_holds_14 rfl hl (by decide) rfl (fun ls hl => ?_)
    have lp15 : ∀ (n15 : Nat) (H15 : Heap) (locs : List Loc) (ls : Array Slot) (j15_3 : Int32), th_B G Γ Γ [(24, 0), (23, 3), (26, 0)] H0 H15 locs → th_RC G Γ H15 → lv_has ls 4 [(0, .ref a0), (1, .null), (2, .int p2), (3, .int j15_3)] → F = dv_lp f_X2_holds_0_15b (dv G Γ H15, (a0 : Int), p2.toInt, j15_3.toInt) → (-1) ≤ j15_3.toInt → j15_3.toInt ≤ (-1) → j15_3.toInt + (2147483649 : Int) ≤ (n15 : Int) → W p l e ({ frames := 2, cells := 0, slots := 0, locals := 57 } : Room) s m ([.ref a0, .null, .int p2] : List Value).toArray below meth c H15 locs 0 0 (MQ below (th_Q (fun (v : Option Value) (H1 : Heap) => ∃ r : Int32, v = some (.int r) ∧ 0 ≤ r.toInt ∧ r.toInt ≤ 1 ∧ th_I G Γ H1 ∧ th_F G Γ [(24, 0), (23, 3), (26, 0)] H0 H1 ∧ th_RC G Γ H1 ∧ (f_X2_holds (dv G Γ H0) (a0 : Int) (dv_iv Value.null) p2.toInt = (dv G Γ H1, r.toInt))) G) ([.ref a0, .null, .int p2] : List Value).toArray s 0 0 (fun q => G.2.2 ≤ q)) (F0 m 15 ls []) := by
      intro n15
      induction n15 with
      | zero => intro H15 locs ls j15_3 hB hR hl hF g15_0 g15_1 hm15; exact absurd hm15 (by have := ti_lo j15_3; omega)
      | succ n15 ih15 =>
        intro H15 locs ls j15_3 hB hR hl hF g15_0 g15_1 hm15
        have lj15_3 := ti_lo j15_3; have uj15_3 := ti_hi j15_3
        have hm15 : j15_3.toInt + (2147483649 : Int) ≤ (n15 : Int) + 1 := by omega
        replace hF := hF.trans (dv_lp_eq)
        replace hF := hF.trans (congrArg (dv_k f_X2_holds_0_15b) (f_X2_holds_0_15c.eq_1 (dv G Γ H15) ((a0 : Int)) (p2.toInt) (j15_3.toInt)))
        refine lv_iload_n hx hb dX2_holds_15 rfl (lv_at hl 3 rfl) ?_
        refine tr_if_lt (tgt := 61) hx hb dX2_holds_16 (by decide) (Eq.refl _) (fun c16 => ?_) (fun c16 => ?_)
        · replace hF := hF.trans (congrArg (dv_k f_X2_holds_0_15b) (if_pos c16))
          refine lv_iconst (v := 0) hx hb dX2_holds_61 (by decide) ?_
          replace hF := hF.trans (dv_kr)
          exact th_iret hC hH hr hlocks narrow_b0 hB.2.1 ⟨_, rfl, by decide, by decide, hB.1, hB.2.2, hR, (hF0.symm.trans (hF.trans (by rw [tk_0])))⟩ dX2_holds_62
        · exfalso; omega
    exact lp15 (((-1)) + (2147483649 : Int)).toNat H0 [] ls (-1) hB hR (lv_sub hl [1, 2, 3, 0] rfl) (by rw [tk_m1]; exact hF) (by decide) (by decide) (by have w0 := tk_m1; omega)
  · refine th_met RX2 (by decide) rfl (Nat.le_of_ble_eq_true rfl) ?_
    intro p e s m below meth c hC hH hr hlocks hnm ls hl
    have hx := hC.1
    have hb := hC.2.1
    have hB : th_B G Γ Γ [(24, 0), (23, 3), (26, 0)] H0 H0 [] := ⟨hI, va_S.rf, th_F_rf⟩
    have hl : lv_has ls 4 [(0, .ref a0), (1, .ref b1), (2, .int p2)] := hl
    have lp2 := ti_lo p2; have up2 := ti_hi p2
    obtain ⟨F, hF0⟩ : ∃ F, F = f_X2_holds (dv G Γ H0) ((a0 : Int)) ((b1 : Int)) (p2.toInt) := ⟨_, rfl⟩
    have hF := hF0.trans ((f_X2_holds.eq_1 (dv G Γ H0) ((a0 : Int)) ((b1 : Int)) (p2.toInt)).trans ((if_neg (show ¬ (dv_iv (Value.ref b1) = -1) from by show ¬ ((b1 : Int) = -1); omega)).trans (f_X2_holds_1.eq_1 (dv G Γ H0) ((a0 : Int)) ((b1 : Int)) (p2.toInt))))
    refine lv_aload_n hx hb dX2_holds_0 rfl (lv_at hl 1 rfl) ?_
    refine lv_ifnonnull (tgt := 8) hx hb dX2_holds_1 (by decide) ?_
    refine lv_aload_n hx hb dX2_holds_8 rfl (lv_at hl 1 rfl) ?_
    refine th_getI (j := 3) hC cf_X10 hB.1 hb1 ro_39 rfl rfl kf_X2_52 dX2_holds_9 (fun x16 mx16 lx16 ux16 => ?_)
    replace hF := hF.trans (dv_bn (dv_getI hb1 ro_39 (j := 3) rfl mx16 (by decide)))
    refine lv_iconst (v := 1) hx hb dX2_holds_12 (by decide) ?_
    refine tr_isub hx hb dX2_holds_13 (Eq.refl _) tk_1 (by omega) (by omega) (fun x17 ex17 => ?_)
    replace hF := hF.trans (dv_bn (ex17.symm))
    refine lv_istore_n (lv' := [(3, .int x17), (0, .ref a0), (1, .ref b1), (2, .int p2)]) hx hb dX2_holds_14 rfl hl (by decide) rfl (fun ls hl => ?_)
    have lp15 : ∀ (n15 : Nat) (H15 : Heap) (locs : List Loc) (ls : Array Slot) (j15_3 : Int32), th_B G Γ Γ [(24, 0), (23, 3), (26, 0)] H0 H15 locs → th_RC G Γ H15 → lv_has ls 4 [(0, .ref a0), (1, .ref b1), (2, .int p2), (3, .int j15_3)] → F = dv_lp f_X2_holds_1_15b (dv G Γ H15, (a0 : Int), (b1 : Int), p2.toInt, j15_3.toInt) → (-1) ≤ j15_3.toInt → j15_3.toInt ≤ 11 → j15_3.toInt + (2147483649 : Int) ≤ (n15 : Int) → W p l e ({ frames := 2, cells := 0, slots := 0, locals := 57 } : Room) s m ([.ref a0, .ref b1, .int p2] : List Value).toArray below meth c H15 locs 0 0 (MQ below (th_Q (fun (v : Option Value) (H1 : Heap) => ∃ r : Int32, v = some (.int r) ∧ 0 ≤ r.toInt ∧ r.toInt ≤ 1 ∧ th_I G Γ H1 ∧ th_F G Γ [(24, 0), (23, 3), (26, 0)] H0 H1 ∧ th_RC G Γ H1 ∧ (f_X2_holds (dv G Γ H0) (a0 : Int) (dv_iv (Value.ref b1)) p2.toInt = (dv G Γ H1, r.toInt))) G) ([.ref a0, .ref b1, .int p2] : List Value).toArray s 0 0 (fun q => G.2.2 ≤ q)) (F0 m 15 ls []) := by
      intro n15
      induction n15 with
      | zero => intro H15 locs ls j15_3 hB hR hl hF g15_0 g15_1 hm15; exact absurd hm15 (by have := ti_lo j15_3; omega)
      | succ n15 ih15 =>
        intro H15 locs ls j15_3 hB hR hl hF g15_0 g15_1 hm15
        have lj15_3 := ti_lo j15_3; have uj15_3 := ti_hi j15_3
        have hm15 : j15_3.toInt + (2147483649 : Int) ≤ (n15 : Int) + 1 := by omega
        replace hF := hF.trans (dv_lp_eq)
        replace hF := hF.trans (congrArg (dv_k f_X2_holds_1_15b) (f_X2_holds_1_15c.eq_1 (dv G Γ H15) ((a0 : Int)) ((b1 : Int)) (p2.toInt) (j15_3.toInt)))
        refine lv_iload_n hx hb dX2_holds_15 rfl (lv_at hl 3 rfl) ?_
        refine tr_if_lt (tgt := 61) hx hb dX2_holds_16 (by decide) (Eq.refl _) (fun c16 => ?_) (fun c16 => ?_)
        · replace hF := hF.trans (congrArg (dv_k f_X2_holds_1_15b) (if_pos c16))
          refine lv_iconst (v := 0) hx hb dX2_holds_61 (by decide) ?_
          replace hF := hF.trans (dv_kr)
          exact th_iret hC hH hr hlocks narrow_b0 hB.2.1 ⟨_, rfl, by decide, by decide, hB.1, hB.2.2, hR, (hF0.symm.trans (hF.trans (by rw [tk_0])))⟩ dX2_holds_62
        · replace hF := hF.trans (congrArg (dv_k f_X2_holds_1_15b) (if_neg (Int.not_lt.mpr c16)))
          refine lv_aload_n hx hb dX2_holds_19 rfl (lv_at hl 1 rfl) ?_
          refine lv_iload_n hx hb dX2_holds_20 rfl (lv_at hl 3 rfl) ?_
          refine lv_iconst (v := 0) hx hb dX2_holds_21 (by decide) ?_
          refine th_call (th_runV (As := [.int j15_3, .int 0]) (rest := []) hC mf_X10_mark km_X2_58 im_X10_mark se_X10_mark (c_X10_mark l G Γ H15 hB.1 hU b1 hb1 j15_3 (by omega) (by omega) 0 (by decide) (by decide)) rfl rfl ⟨Nat.le_of_ble_eq_true rfl, Nat.le_of_ble_eq_true rfl⟩ hB.1 hb1 ro_39 rfl rfl hl.1 rfl (Nat.le_of_ble_eq_true rfl) dX2_holds_22 ⟨Nat.le_refl _, Nat.le_refl _⟩) hB.2.1 (fun v22 H22 locs hp hz hS => ?_)
          obtain ⟨x18, rfl, q22_0, q22_1, rfl⟩ := hp
          have hB := th_B_s hB hS
          have w22_1 := tk_0
          have zf22 := q22_1
          rw [tk_0] at zf22
          replace hF := hF.trans (congrArg (dv_k f_X2_holds_1_15b) (dv_bn2 (zf22)))
          refine W.eq (g2 := F0 m 25 ls [.int x18]) rfl ?_
          refine lv_iload_n hx hb dX2_holds_25 rfl (lv_at hl 2 rfl) ?_
          have jn55 : ∀ (H55 : Heap) (locs : List Loc) (ls : Array Slot) , th_B G Γ Γ [(24, 0), (23, 3), (26, 0)] H0 H55 locs → th_RC G Γ H55 → lv_has ls 4 [(0, .ref a0), (1, .ref b1), (2, .int p2), (3, .int j15_3)] → F = dv_k f_X2_holds_1_15b (f_X2_holds_1_55 (dv G Γ H55) ((a0 : Int)) ((b1 : Int)) (p2.toInt) (j15_3.toInt)) → W p l e ({ frames := 2, cells := 0, slots := 0, locals := 57 } : Room) s m ([.ref a0, .ref b1, .int p2] : List Value).toArray below meth c H55 locs 0 0 (MQ below (th_Q (fun (v : Option Value) (H1 : Heap) => ∃ r : Int32, v = some (.int r) ∧ 0 ≤ r.toInt ∧ r.toInt ≤ 1 ∧ th_I G Γ H1 ∧ th_F G Γ [(24, 0), (23, 3), (26, 0)] H0 H1 ∧ th_RC G Γ H1 ∧ (f_X2_holds (dv G Γ H0) (a0 : Int) (dv_iv (Value.ref b1)) p2.toInt = (dv G Γ H1, r.toInt))) G) ([.ref a0, .ref b1, .int p2] : List Value).toArray s 0 0 (fun q => G.2.2 ≤ q)) (F0 m 55 ls []) := by
            intro H55 locs ls hB hR hl hF
            replace hF := hF.trans (congrArg (dv_k f_X2_holds_1_15b) (f_X2_holds_1_55.eq_1 (dv G Γ H55) ((a0 : Int)) ((b1 : Int)) (p2.toInt) (j15_3.toInt)))
            refine tr_iinc (fun x19 => [(3, .int x19), (0, .ref a0), (1, .ref b1), (2, .int p2)]) hx hb dX2_holds_55 hl (k := 3) rfl (Eq.refl _) tk_m1 (by omega) (by omega) (by decide) (fun _ => rfl) (fun x19 ls ex19 hl => ?_)
            replace hF := hF.trans (congrArg (dv_k f_X2_holds_1_15b) (dv_bn (ex19.symm)))
            refine lv_goto (tgt := 15) hx hb dX2_holds_58 (by decide) ?_
            replace hF := hF.trans (dv_kl)
            exact ih15 H55 locs ls x19 hB hR (lv_sub hl [1, 2, 3, 0] rfl) hF (by omega) (by omega) (by omega)
          refine tr_icmp_ne (tgt := 55) hx hb dX2_holds_26 (by decide) (Eq.refl _) (Eq.refl _) (fun c26 => ?_) (fun c26 => ?_)
          · replace hF := hF.trans (congrArg (dv_k f_X2_holds_1_15b) (if_pos c26))
            exact jn55 H15 locs ls hB hR (lv_sub hl [0, 1, 2, 3] rfl) hF
          · replace hF := hF.trans (congrArg (dv_k f_X2_holds_1_15b) (if_neg (not_not_intro c26)))
            refine lv_aload_n hx hb dX2_holds_29 rfl (lv_at hl 0 rfl) ?_
            refine th_getR (j := 0) (r2 := 23) hC cf_X2 hB.1 h0 ro_11 rfl rfl kf_X2_12 dX2_holds_30 (fun b20 mb20 hb20 => ?_)
            replace hF := hF.trans (congrArg (dv_k f_X2_holds_1_15b) (dv_bn (dv_getR h0 ro_11 (j := 0) rfl mb20 (by decide))))
            have sb20 := (th_F_o hB.2.2 h0 ro_11 (j := 0) (by decide) (by decide)).symm.trans mb20
            refine lv_aload_n hx hb dX2_holds_33 rfl (lv_at hl 1 rfl) ?_
            refine lv_iload_n hx hb dX2_holds_34 rfl (lv_at hl 3 rfl) ?_
            refine th_call (th_runV (As := [.ref b1, .int j15_3]) (rest := []) hC mf_X6_isSo km_X2_61 im_X6_isSo se_X6_isSo (c_X6_isSo l G Γ H15 hB.1 hR hU b20 hb20 b1 hb1 j15_3 (by omega) (by omega)) rfl rfl ⟨Nat.le_of_ble_eq_true rfl, Nat.le_of_ble_eq_true rfl⟩ hB.1 hb20 ro_23 rfl rfl hl.1 rfl (Nat.le_of_ble_eq_true rfl) dX2_holds_35 ⟨Nat.le_refl _, Nat.le_refl _⟩) hB.2.1 (fun v35 H35 locs hp hz hS => ?_)
            obtain ⟨x21, rfl, lx21, ux21, hI1, hf, hR, z35_0⟩ := hp
            have hB := th_B_c hB hI1 hS hf (by decide)
            have mm22 := (th_F_o hf h0 ro_11 (j := 0) (by decide) (by decide)).trans mb20
            replace hF := hF.trans (congrArg (dv_k f_X2_holds_1_15b) (dv_bn2 (z35_0)))
            refine W.eq (g2 := F0 m 38 ls [.int x21]) rfl ?_
            refine tr_if_eq (tgt := 55) hx hb dX2_holds_38 (by decide) (Eq.refl _) (fun c38 => ?_) (fun c38 => ?_)
            · replace hF := hF.trans (congrArg (dv_k f_X2_holds_1_15b) (if_pos c38))
              exact jn55 H35 locs ls hB hR (lv_sub hl [0, 1, 2, 3] rfl) hF
            · replace hF := hF.trans (congrArg (dv_k f_X2_holds_1_15b) (if_neg c38))
              refine lv_aload_n hx hb dX2_holds_41 rfl (lv_at hl 0 rfl) ?_
              refine th_getK hC cf_X2 hB.1 h0 ro_11 rfl (j := 0) (by decide) mm22 kf_X2_12 dX2_holds_42 ?_
              replace hF := hF.trans (congrArg (dv_k f_X2_holds_1_15b) (dv_bn (dv_getR h0 ro_11 (j := 0) rfl mm22 (by decide))))
              refine lv_aload_n hx hb dX2_holds_45 rfl (lv_at hl 1 rfl) ?_
              refine lv_iload_n hx hb dX2_holds_46 rfl (lv_at hl 3 rfl) ?_
              refine th_call (th_runV (As := [.ref b1, .int j15_3]) (rest := []) hC mf_X6_reckonSums km_X2_64 im_X6_reckonSums se_X6_reckonSums (c_X6_reckonSums l G Γ H35 hB.1 hR hU b20 hb20 b1 hb1 j15_3 (by omega) (by omega)) rfl rfl ⟨Nat.le_of_ble_eq_true rfl, Nat.le_of_ble_eq_true rfl⟩ hB.1 hb20 ro_23 rfl rfl hl.1 rfl (Nat.le_of_ble_eq_true rfl) dX2_holds_47 ⟨Nat.le_refl _, Nat.le_refl _⟩) hB.2.1 (fun v47 H47 locs hp hz hS => ?_)
              obtain ⟨x23, rfl, lx23, ux23, hI1, hf, hR, z47_0⟩ := hp
              have hB := th_B_c hB hI1 hS hf (by decide)
              have mm24 := (th_F_o hf h0 ro_11 (j := 0) (by decide) (by decide)).trans mm22
              replace hF := hF.trans (congrArg (dv_k f_X2_holds_1_15b) (dv_bn2 (z47_0)))
              refine W.eq (g2 := F0 m 50 ls [.int x23]) rfl ?_
              refine tr_if_eq (tgt := 55) hx hb dX2_holds_50 (by decide) (Eq.refl _) (fun c50 => ?_) (fun c50 => ?_)
              · replace hF := hF.trans (congrArg (dv_k f_X2_holds_1_15b) (if_pos c50))
                exact jn55 H47 locs ls hB hR (lv_sub hl [0, 1, 2, 3] rfl) hF
              · replace hF := hF.trans (congrArg (dv_k f_X2_holds_1_15b) (if_neg c50))
                refine lv_iconst (v := 1) hx hb dX2_holds_53 (by decide) ?_
                replace hF := hF.trans (dv_kr)
                exact th_iret hC hH hr hlocks narrow_b1 hB.2.1 ⟨_, rfl, by decide, by decide, hB.1, hB.2.2, hR, (hF0.symm.trans (hF.trans (by rw [tk_1])))⟩ dX2_holds_54
    exact lp15 ((x17.toInt) + (2147483649 : Int)).toNat H0 [] ls x17 hB hR (lv_sub hl [1, 2, 3, 0] rfl) hF (by omega) (by omega) (by omega)

set_option maxHeartbeats 4000000 in
set_option maxRecDepth 100000 in
theorem c_X2_costOf (l : Launch) (G : th_G) (Γ : th_Ga) (H0 : Heap) (hI : th_I G Γ H0) (hR : th_RC G Γ H0) (hU : dv_U Γ) (a0 : Nat) (h0 : Γ a0 = (11, 0)) (p1 : Value) (h1 : p1 = .null ∨ ∃ b : Nat, p1 = .ref b ∧ Γ b = (39, 0)) (p2 : Nat) (h2 : Γ p2 = (3, 0)) (p3 : Int32) (f3 : 0 ≤ p3.toInt) (g3 : p3.toInt ≤ 8) (p4 : Int32) (p5 : Int32) : Met l yX2_costOf (.code yX2_costOf cX2_costOf 6 (some FieldType.int) :: th_tb) ({ frames := 3, cells := 0, slots := 0, locals := 80 } : Room) (th_P [.ref a0, p1, .ref p2, .int p3, .int p4, .int p5] G H0) (th_Q (fun (v : Option Value) (H1 : Heap) => ∃ r : Int32, v = some (.int r) ∧ 0 ≤ r.toInt ∧ r.toInt ≤ 99 ∧ th_I G Γ H1 ∧ th_F G Γ [(24, 0), (23, 3), (26, 0), (25, 0)] H0 H1 ∧ th_RC G Γ H1 ∧ (f_X2_costOf (dv G Γ H0) (a0 : Int) (dv_iv p1) (p2 : Int) p3.toInt p4.toInt p5.toInt = (dv G Γ H1, r.toInt))) G) 0 0 (fun q => G.2.2 ≤ q) := by
  refine th_met RX2 (by decide) rfl (by rcases h1 with rfl | ⟨b1, rfl, -⟩ <;> exact Nat.le_of_ble_eq_true rfl) ?_
  intro p e s m below meth c hC hH hr hlocks hnm ls hl
  have hx := hC.1
  have hb := hC.2.1
  have hB : th_B G Γ Γ [(24, 0), (23, 3), (26, 0), (25, 0)] H0 H0 [] := ⟨hI, va_S.rf, th_F_rf⟩
  have hl : lv_has ls 6 [(0, .ref a0), (1, p1), (2, .ref p2), (3, .int p3), (4, .int p4), (5, .int p5)] := by clear hB; rcases h1 with rfl | ⟨b1, rfl, -⟩ <;> exact hl
  have lp3 := ti_lo p3; have up3 := ti_hi p3
  have lp4 := ti_lo p4; have up4 := ti_hi p4
  have lp5 := ti_lo p5; have up5 := ti_hi p5
  obtain ⟨F, hF0⟩ : ∃ F, F = f_X2_costOf (dv G Γ H0) ((a0 : Int)) ((dv_iv p1)) ((p2 : Int)) (p3.toInt) (p4.toInt) (p5.toInt) := ⟨_, rfl⟩
  have hF := hF0.trans (f_X2_costOf.eq_1 (dv G Γ H0) ((a0 : Int)) ((dv_iv p1)) ((p2 : Int)) (p3.toInt) (p4.toInt) (p5.toInt))
  refine lv_aload_n hx hb dX2_costOf_0 rfl (lv_at hl 0 rfl) ?_
  refine th_getR (j := 0) (r2 := 23) hC cf_X2 hB.1 h0 ro_11 rfl rfl kf_X2_12 dX2_costOf_1 (fun b1 mb1 hb1 => ?_)
  replace hF := hF.trans (dv_bn (dv_getR h0 ro_11 (j := 0) rfl mb1 (by decide)))
  refine lv_aload_n hx hb dX2_costOf_4 rfl (lv_at hl 2 rfl) ?_
  refine lv_iload_n hx hb dX2_costOf_5 rfl (lv_at hl 3 rfl) ?_
  refine lv_iload hx hb dX2_costOf_6 (lv_at hl 4 rfl) ?_
  refine lv_iload hx hb dX2_costOf_8 (lv_at hl 5 rfl) ?_
  refine th_call (th_runV (As := [.ref p2, .int p3, .int p4, .int p5]) (rest := []) hC mf_X6_setLawWords km_X2_18 im_X6_setLawWords se_X6_setLawWords (c_X6_setLawWords l G Γ H0 hB.1 hR hU b1 hb1 p2 h2 p3 (by omega) (by omega) p4 p5) rfl rfl ⟨Nat.le_of_ble_eq_true rfl, Nat.le_of_ble_eq_true rfl⟩ hB.1 hb1 ro_23 rfl rfl hl.1 rfl (Nat.le_of_ble_eq_true rfl) dX2_costOf_10 ⟨Nat.le_refl _, Nat.le_refl _⟩) hB.2.1 (fun v10 H10 locs hp hz hS => ?_)
  obtain ⟨rfl, hI1, hf, hR, z10_0⟩ := hp
  have hB := th_B_c hB hI1 hS hf (by decide)
  have mm2 := (th_F_o hf h0 ro_11 (j := 0) (by decide) (by decide)).trans mb1
  replace hF := hF.trans (dv_bn2 (z10_0))
  refine W.eq (g2 := F0 m 13 ls []) rfl ?_
  refine lv_aload_n hx hb dX2_costOf_13 rfl (lv_at hl 0 rfl) ?_
  refine tr_vload_n hx hb dX2_costOf_14 rfl (lv_at hl 1 rfl) (tr_qr h1) ?_
  refine lv_iconst (v := 0) hx hb dX2_costOf_15 (by decide) ?_
  refine th_call (th_runV (As := [p1, .int 0]) (rest := []) hC mf_X2_holds km_X2_24 im_X2_holds se_X2_holds (c_X2_holds l G Γ H10 hB.1 hR hU a0 h0 p1 h1 0) rfl rfl ⟨Nat.le_of_ble_eq_true rfl, Nat.le_of_ble_eq_true rfl⟩ hB.1 h0 ro_11 rfl rfl hl.1 rfl (Nat.le_of_ble_eq_true rfl) dX2_costOf_16 ⟨Nat.le_refl _, Nat.le_refl _⟩) hB.2.1 (fun v16 H16 locs hp hz hS => ?_)
  obtain ⟨x3, rfl, lx3, ux3, hI1, hf, hR, z16_0⟩ := hp
  have hB := th_B_c hB hI1 hS hf (by decide)
  have mm4 := (th_F_o hf h0 ro_11 (j := 0) (by decide) (by decide)).trans mm2
  have zf16 := z16_0
  rw [tk_0] at zf16
  replace hF := hF.trans (dv_bn2 (zf16))
  refine W.eq (g2 := F0 m 19 ls [.int x3]) rfl ?_
  refine tr_if_eq (tgt := 43) hx hb dX2_costOf_19 (by decide) (Eq.refl _) (fun c19 => ?_) (fun c19 => ?_)
  · replace hF := hF.trans (if_pos c19)
    refine lv_aload_n hx hb dX2_costOf_43 rfl (lv_at hl 2 rfl) ?_
    refine th_getO (j := 0) (r2 := 4) hC cf_X1 hB.1 h2 ro_3 rfl rfl kf_X2_41 dX2_costOf_44 (fun b5 mb5 hb5 => ?_)
    refine lv_iload_n hx hb dX2_costOf_47 rfl (lv_at hl 3 rfl) ?_
    refine th_ialdF hC hB.1 hb5 ro_4 rfl (Eq.refl _) (by omega) (by omega) rfl dX2_costOf_48 (fun x6 mx6 lx6 ux6 => ?_)
    replace hF := hF.trans (dv_bn (dv_aldI hB.1 hU hb5 ow_4 (z := p3.toInt) mx6 (by omega)))
    exact th_iret hC hH hr hlocks rfl hB.2.1 ⟨_, rfl, by omega, by omega, hB.1, hB.2.2, hR, (hF0.symm.trans hF)⟩ dX2_costOf_49
  · replace hF := hF.trans (if_neg c19)
    refine lv_iconst (v := 0) hx hb dX2_costOf_22 (by decide) ?_
    refine lv_bipush (v := 99) hx hb dX2_costOf_23 (by decide) ?_
    refine lv_aload_n hx hb dX2_costOf_25 rfl (lv_at hl 0 rfl) ?_
    refine th_getK hC cf_X2 hB.1 h0 ro_11 rfl (j := 0) (by decide) mm4 kf_X2_12 dX2_costOf_26 ?_
    replace hF := hF.trans (dv_bn (dv_getR h0 ro_11 (j := 0) rfl mm4 (by decide)))
    refine th_getO (j := 2) (r2 := 26) hC cf_X6 hB.1 hb1 ro_23 rfl rfl kf_X2_28 dX2_costOf_29 (fun b7 mb7 hb7 => ?_)
    refine lv_iconst (v := 0) hx hb dX2_costOf_32 (by decide) ?_
    refine th_ialdF hC hB.1 hb7 ro_26 rfl tk_0 (by omega) (by omega) rfl dX2_costOf_33 (fun x8 mx8 lx8 ux8 => ?_)
    replace hF := hF.trans (dv_bn (dv_aldI hB.1 hU hb7 ow_26 (z := 0) mx8 (by omega)))
    refine tr_mmin hC kma_X2_32 hl.1 tk_99 (Eq.refl _) (Nat.le_of_ble_eq_true rfl) (Nat.le_of_ble_eq_true rfl) (Nat.le_of_ble_eq_true rfl) (Nat.le_of_ble_eq_true rfl) dX2_costOf_34 (fun x9 ex9 => ?_)
    replace hF := hF.trans (dv_bn (dv_min_e ex9))
    refine tr_mmax hC kma_X2_38 hl.1 tk_0 (Eq.refl _) (Nat.le_of_ble_eq_true rfl) (Nat.le_of_ble_eq_true rfl) (Nat.le_of_ble_eq_true rfl) (Nat.le_of_ble_eq_true rfl) dX2_costOf_37 (fun x10 ex10 => ?_)
    replace hF := hF.trans (dv_bn (dv_max_e ex10))
    refine lv_goto (tgt := 49) hx hb dX2_costOf_40 (by decide) ?_
    exact th_iret hC hH hr hlocks rfl hB.2.1 ⟨_, rfl, by omega, by omega, hB.1, hB.2.2, hR, (hF0.symm.trans hF)⟩ dX2_costOf_49

set_option maxHeartbeats 4000000 in
set_option maxRecDepth 100000 in
theorem c_X2_wearOf (l : Launch) (G : th_G) (Γ : th_Ga) (H0 : Heap) (hI : th_I G Γ H0) (hR : th_RC G Γ H0) (hU : dv_U Γ) (a0 : Nat) (h0 : Γ a0 = (11, 0)) (p1 : Value) (h1 : p1 = .null ∨ ∃ b : Nat, p1 = .ref b ∧ Γ b = (39, 0)) (p2 : Nat) (h2 : Γ p2 = (3, 0)) (p3 : Int32) (f3 : 0 ≤ p3.toInt) (g3 : p3.toInt ≤ 8) : Met l yX2_wearOf (.code yX2_wearOf cX2_wearOf 4 (some FieldType.int) :: th_tb) ({ frames := 3, cells := 0, slots := 0, locals := 80 } : Room) (th_P [.ref a0, p1, .ref p2, .int p3] G H0) (th_Q (fun (v : Option Value) (H1 : Heap) => ∃ r : Int32, v = some (.int r) ∧ 0 ≤ r.toInt ∧ r.toInt ≤ 9 ∧ th_I G Γ H1 ∧ th_F G Γ [(24, 0), (23, 3), (26, 0), (25, 0)] H0 H1 ∧ th_RC G Γ H1 ∧ (f_X2_wearOf (dv G Γ H0) (a0 : Int) (dv_iv p1) (p2 : Int) p3.toInt = (dv G Γ H1, r.toInt))) G) 0 0 (fun q => G.2.2 ≤ q) := by
  refine th_met RX2 (by decide) rfl (by rcases h1 with rfl | ⟨b1, rfl, -⟩ <;> exact Nat.le_of_ble_eq_true rfl) ?_
  intro p e s m below meth c hC hH hr hlocks hnm ls hl
  have hx := hC.1
  have hb := hC.2.1
  have hB : th_B G Γ Γ [(24, 0), (23, 3), (26, 0), (25, 0)] H0 H0 [] := ⟨hI, va_S.rf, th_F_rf⟩
  have hl : lv_has ls 4 [(0, .ref a0), (1, p1), (2, .ref p2), (3, .int p3)] := by clear hB; rcases h1 with rfl | ⟨b1, rfl, -⟩ <;> exact hl
  have lp3 := ti_lo p3; have up3 := ti_hi p3
  obtain ⟨F, hF0⟩ : ∃ F, F = f_X2_wearOf (dv G Γ H0) ((a0 : Int)) ((dv_iv p1)) ((p2 : Int)) (p3.toInt) := ⟨_, rfl⟩
  have hF := hF0.trans (f_X2_wearOf.eq_1 (dv G Γ H0) ((a0 : Int)) ((dv_iv p1)) ((p2 : Int)) (p3.toInt))
  refine lv_aload_n hx hb dX2_wearOf_0 rfl (lv_at hl 0 rfl) ?_
  refine th_getR (j := 0) (r2 := 23) hC cf_X2 hB.1 h0 ro_11 rfl rfl kf_X2_12 dX2_wearOf_1 (fun b1 mb1 hb1 => ?_)
  replace hF := hF.trans (dv_bn (dv_getR h0 ro_11 (j := 0) rfl mb1 (by decide)))
  refine lv_aload_n hx hb dX2_wearOf_4 rfl (lv_at hl 2 rfl) ?_
  refine lv_iload_n hx hb dX2_wearOf_5 rfl (lv_at hl 3 rfl) ?_
  refine lv_aload_n hx hb dX2_wearOf_6 rfl (lv_at hl 2 rfl) ?_
  refine th_getO (j := 3) (r2 := 7) hC cf_X1 hB.1 h2 ro_3 rfl rfl kf_X2_46 dX2_wearOf_7 (fun b2 mb2 hb2 => ?_)
  refine lv_iload_n hx hb dX2_wearOf_10 rfl (lv_at hl 3 rfl) ?_
  refine th_ialdF hC hB.1 hb2 ro_7 rfl (Eq.refl _) (by omega) (by omega) rfl dX2_wearOf_11 (fun x3 mx3 lx3 ux3 => ?_)
  replace hF := hF.trans (dv_bn (dv_aldI hB.1 hU hb2 ow_7 (z := p3.toInt) mx3 (by omega)))
  refine lv_aload_n hx hb dX2_wearOf_12 rfl (lv_at hl 2 rfl) ?_
  refine th_getO (j := 4) (r2 := 8) hC cf_X1 hB.1 h2 ro_3 rfl rfl kf_X2_49 dX2_wearOf_13 (fun b4 mb4 hb4 => ?_)
  refine lv_iload_n hx hb dX2_wearOf_16 rfl (lv_at hl 3 rfl) ?_
  refine th_ialdF hC hB.1 hb4 ro_8 rfl (Eq.refl _) (by omega) (by omega) rfl dX2_wearOf_17 (fun x5 mx5 lx5 ux5 => ?_)
  replace hF := hF.trans (dv_bn (dv_aldI hB.1 hU hb4 ow_8 (z := p3.toInt) mx5 (by omega)))
  refine th_call (th_runV (As := [.ref p2, .int p3, .int x3, .int x5]) (rest := []) hC mf_X6_setLawWords km_X2_18 im_X6_setLawWords se_X6_setLawWords (c_X6_setLawWords l G Γ H0 hB.1 hR hU b1 hb1 p2 h2 p3 (by omega) (by omega) x3 x5) rfl rfl ⟨Nat.le_of_ble_eq_true rfl, Nat.le_of_ble_eq_true rfl⟩ hB.1 hb1 ro_23 rfl rfl hl.1 rfl (Nat.le_of_ble_eq_true rfl) dX2_wearOf_18 ⟨Nat.le_refl _, Nat.le_refl _⟩) hB.2.1 (fun v18 H18 locs hp hz hS => ?_)
  obtain ⟨rfl, hI1, hf, hR, z18_0⟩ := hp
  have hB := th_B_c hB hI1 hS hf (by decide)
  have mm6 := (th_F_o hf h0 ro_11 (j := 0) (by decide) (by decide)).trans mb1
  replace hF := hF.trans (dv_bn2 (z18_0))
  refine W.eq (g2 := F0 m 21 ls []) rfl ?_
  refine lv_aload_n hx hb dX2_wearOf_21 rfl (lv_at hl 0 rfl) ?_
  refine tr_vload_n hx hb dX2_wearOf_22 rfl (lv_at hl 1 rfl) (tr_qr h1) ?_
  refine lv_iconst (v := 1) hx hb dX2_wearOf_23 (by decide) ?_
  refine th_call (th_runV (As := [p1, .int 1]) (rest := []) hC mf_X2_holds km_X2_24 im_X2_holds se_X2_holds (c_X2_holds l G Γ H18 hB.1 hR hU a0 h0 p1 h1 1) rfl rfl ⟨Nat.le_of_ble_eq_true rfl, Nat.le_of_ble_eq_true rfl⟩ hB.1 h0 ro_11 rfl rfl hl.1 rfl (Nat.le_of_ble_eq_true rfl) dX2_wearOf_24 ⟨Nat.le_refl _, Nat.le_refl _⟩) hB.2.1 (fun v24 H24 locs hp hz hS => ?_)
  obtain ⟨x7, rfl, lx7, ux7, hI1, hf, hR, z24_0⟩ := hp
  have hB := th_B_c hB hI1 hS hf (by decide)
  have mm8 := (th_F_o hf h0 ro_11 (j := 0) (by decide) (by decide)).trans mm6
  have zf24 := z24_0
  rw [tk_1] at zf24
  replace hF := hF.trans (dv_bn2 (zf24))
  refine W.eq (g2 := F0 m 27 ls [.int x7]) rfl ?_
  refine tr_if_eq (tgt := 51) hx hb dX2_wearOf_27 (by decide) (Eq.refl _) (fun c27 => ?_) (fun c27 => ?_)
  · replace hF := hF.trans (if_pos c27)
    refine lv_iconst (v := 1) hx hb dX2_wearOf_51 (by decide) ?_
    exact th_iret hC hH hr hlocks rfl hB.2.1 ⟨_, rfl, by decide, by decide, hB.1, hB.2.2, hR, (hF0.symm.trans (hF.trans (by rw [tk_1])))⟩ dX2_wearOf_52
  · replace hF := hF.trans (if_neg c27)
    refine lv_iconst (v := 0) hx hb dX2_wearOf_30 (by decide) ?_
    refine lv_bipush (v := 9) hx hb dX2_wearOf_31 (by decide) ?_
    refine lv_aload_n hx hb dX2_wearOf_33 rfl (lv_at hl 0 rfl) ?_
    refine th_getK hC cf_X2 hB.1 h0 ro_11 rfl (j := 0) (by decide) mm8 kf_X2_12 dX2_wearOf_34 ?_
    replace hF := hF.trans (dv_bn (dv_getR h0 ro_11 (j := 0) rfl mm8 (by decide)))
    refine th_getO (j := 2) (r2 := 26) hC cf_X6 hB.1 hb1 ro_23 rfl rfl kf_X2_28 dX2_wearOf_37 (fun b9 mb9 hb9 => ?_)
    refine lv_iconst (v := 0) hx hb dX2_wearOf_40 (by decide) ?_
    refine th_ialdF hC hB.1 hb9 ro_26 rfl tk_0 (by omega) (by omega) rfl dX2_wearOf_41 (fun x10 mx10 lx10 ux10 => ?_)
    replace hF := hF.trans (dv_bn (dv_aldI hB.1 hU hb9 ow_26 (z := 0) mx10 (by omega)))
    refine tr_mmin hC kma_X2_32 hl.1 tk_9 (Eq.refl _) (Nat.le_of_ble_eq_true rfl) (Nat.le_of_ble_eq_true rfl) (Nat.le_of_ble_eq_true rfl) (Nat.le_of_ble_eq_true rfl) dX2_wearOf_42 (fun x11 ex11 => ?_)
    replace hF := hF.trans (dv_bn (dv_min_e ex11))
    refine tr_mmax hC kma_X2_38 hl.1 tk_0 (Eq.refl _) (Nat.le_of_ble_eq_true rfl) (Nat.le_of_ble_eq_true rfl) (Nat.le_of_ble_eq_true rfl) (Nat.le_of_ble_eq_true rfl) dX2_wearOf_45 (fun x12 ex12 => ?_)
    replace hF := hF.trans (dv_bn (dv_max_e ex12))
    refine lv_goto (tgt := 52) hx hb dX2_wearOf_48 (by decide) ?_
    exact th_iret hC hH hr hlocks rfl hB.2.1 ⟨_, rfl, by omega, by omega, hB.1, hB.2.2, hR, (hF0.symm.trans hF)⟩ dX2_wearOf_52

set_option maxHeartbeats 4000000 in
set_option maxRecDepth 100000 in
theorem c_X2_isBarred (l : Launch) (G : th_G) (Γ : th_Ga) (H0 : Heap) (hI : th_I G Γ H0) (hR : th_RC G Γ H0) (hU : dv_U Γ) (a0 : Nat) (h0 : Γ a0 = (11, 0)) (p1 : Value) (h1 : p1 = .null ∨ ∃ b : Nat, p1 = .ref b ∧ Γ b = (39, 0)) (p2 : Nat) (h2 : Γ p2 = (3, 0)) (p3 : Int32) (f3 : 0 ≤ p3.toInt) (g3 : p3.toInt ≤ 8) (p4 : Int32) (p5 : Int32) : Met l yX2_isBarred (.code yX2_isBarred cX2_isBarred 6 (some FieldType.boolean) :: th_tb) ({ frames := 3, cells := 0, slots := 0, locals := 80 } : Room) (th_P [.ref a0, p1, .ref p2, .int p3, .int p4, .int p5] G H0) (th_Q (fun (v : Option Value) (H1 : Heap) => ∃ r : Int32, v = some (.int r) ∧ 0 ≤ r.toInt ∧ r.toInt ≤ 1 ∧ th_I G Γ H1 ∧ th_F G Γ [(24, 0), (23, 3), (26, 0), (25, 0)] H0 H1 ∧ th_RC G Γ H1 ∧ (f_X2_isBarred (dv G Γ H0) (a0 : Int) (dv_iv p1) (p2 : Int) p3.toInt p4.toInt p5.toInt = (dv G Γ H1, r.toInt))) G) 0 0 (fun q => G.2.2 ≤ q) := by
  refine th_met RX2 (by decide) rfl (by rcases h1 with rfl | ⟨b1, rfl, -⟩ <;> exact Nat.le_of_ble_eq_true rfl) ?_
  intro p e s m below meth c hC hH hr hlocks hnm ls hl
  have hx := hC.1
  have hb := hC.2.1
  have hB : th_B G Γ Γ [(24, 0), (23, 3), (26, 0), (25, 0)] H0 H0 [] := ⟨hI, va_S.rf, th_F_rf⟩
  have hl : lv_has ls 6 [(0, .ref a0), (1, p1), (2, .ref p2), (3, .int p3), (4, .int p4), (5, .int p5)] := by clear hB; rcases h1 with rfl | ⟨b1, rfl, -⟩ <;> exact hl
  have lp3 := ti_lo p3; have up3 := ti_hi p3
  have lp4 := ti_lo p4; have up4 := ti_hi p4
  have lp5 := ti_lo p5; have up5 := ti_hi p5
  obtain ⟨F, hF0⟩ : ∃ F, F = f_X2_isBarred (dv G Γ H0) ((a0 : Int)) ((dv_iv p1)) ((p2 : Int)) (p3.toInt) (p4.toInt) (p5.toInt) := ⟨_, rfl⟩
  have hF := hF0.trans (f_X2_isBarred.eq_1 (dv G Γ H0) ((a0 : Int)) ((dv_iv p1)) ((p2 : Int)) (p3.toInt) (p4.toInt) (p5.toInt))
  refine lv_aload_n hx hb dX2_isBarred_0 rfl (lv_at hl 0 rfl) ?_
  refine th_getR (j := 0) (r2 := 23) hC cf_X2 hB.1 h0 ro_11 rfl rfl kf_X2_12 dX2_isBarred_1 (fun b1 mb1 hb1 => ?_)
  replace hF := hF.trans (dv_bn (dv_getR h0 ro_11 (j := 0) rfl mb1 (by decide)))
  refine lv_aload_n hx hb dX2_isBarred_4 rfl (lv_at hl 2 rfl) ?_
  refine lv_iload_n hx hb dX2_isBarred_5 rfl (lv_at hl 3 rfl) ?_
  refine lv_iload hx hb dX2_isBarred_6 (lv_at hl 4 rfl) ?_
  refine lv_iload hx hb dX2_isBarred_8 (lv_at hl 5 rfl) ?_
  refine th_call (th_runV (As := [.ref p2, .int p3, .int p4, .int p5]) (rest := []) hC mf_X6_setLawWords km_X2_18 im_X6_setLawWords se_X6_setLawWords (c_X6_setLawWords l G Γ H0 hB.1 hR hU b1 hb1 p2 h2 p3 (by omega) (by omega) p4 p5) rfl rfl ⟨Nat.le_of_ble_eq_true rfl, Nat.le_of_ble_eq_true rfl⟩ hB.1 hb1 ro_23 rfl rfl hl.1 rfl (Nat.le_of_ble_eq_true rfl) dX2_isBarred_10 ⟨Nat.le_refl _, Nat.le_refl _⟩) hB.2.1 (fun v10 H10 locs hp hz hS => ?_)
  obtain ⟨rfl, hI1, hf, hR, z10_0⟩ := hp
  have hB := th_B_c hB hI1 hS hf (by decide)
  replace hF := hF.trans (dv_bn2 (z10_0))
  refine W.eq (g2 := F0 m 13 ls []) rfl ?_
  refine lv_aload_n hx hb dX2_isBarred_13 rfl (lv_at hl 0 rfl) ?_
  refine tr_vload_n hx hb dX2_isBarred_14 rfl (lv_at hl 1 rfl) (tr_qr h1) ?_
  refine lv_iconst (v := 2) hx hb dX2_isBarred_15 (by decide) ?_
  refine th_call (th_runV (As := [p1, .int 2]) (rest := []) hC mf_X2_holds km_X2_24 im_X2_holds se_X2_holds (c_X2_holds l G Γ H10 hB.1 hR hU a0 h0 p1 h1 2) rfl rfl ⟨Nat.le_of_ble_eq_true rfl, Nat.le_of_ble_eq_true rfl⟩ hB.1 h0 ro_11 rfl rfl hl.1 rfl (Nat.le_of_ble_eq_true rfl) dX2_isBarred_16 ⟨Nat.le_refl _, Nat.le_refl _⟩) hB.2.1 (fun v16 H16 locs hp hz hS => ?_)
  obtain ⟨x2, rfl, lx2, ux2, hI1, hf, hR, z16_0⟩ := hp
  have hB := th_B_c hB hI1 hS hf (by decide)
  have zf16 := z16_0
  rw [tk_2] at zf16
  replace hF := hF.trans (dv_bn2 (zf16))
  refine W.eq (g2 := F0 m 19 ls [.int x2]) rfl ?_
  exact th_iret hC hH hr hlocks (th_nb (by omega) (by omega)) hB.2.1 ⟨_, rfl, by omega, by omega, hB.1, hB.2.2, hR, (hF0.symm.trans hF)⟩ dX2_isBarred_19
