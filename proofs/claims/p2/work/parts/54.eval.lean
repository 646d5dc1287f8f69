set_option maxHeartbeats 4000000 in
set_option maxRecDepth 100000 in
theorem c_X12_setsAsked (l : Launch) (G : th_G) (Γ : th_Ga) (H0 : Heap) (hI : th_I G Γ H0) (hR : th_RC G Γ H0) (hU : dv_U Γ) (a0 : Nat) (h0 : Γ a0 = (46, 0)) (p1 : Int32) (f1 : 0 ≤ p1.toInt) (g1 : p1.toInt ≤ 8) (p2 : Int32) (p3 : Int32) : Met l yX12_setsAsked (.code yX12_setsAsked cX12_setsAsked 4 (none) :: th_tb) ({ frames := 0, cells := 0, slots := 0, locals := 0 } : Room) (th_P [.ref a0, .int p1, .int p2, .int p3] G H0) (th_Q (fun (v : Option Value) (H1 : Heap) => v = none ∧ th_I G Γ H1 ∧ th_F G Γ [(58, 0)] H0 H1 ∧ th_RC G Γ H1 ∧ (f_X12_setsAsked (dv G Γ H0) (a0 : Int) p1.toInt p2.toInt p3.toInt = (dv G Γ H1, 0))) G) 0 0 (fun q => G.2.2 ≤ q) := by
  refine th_met RX12 (by decide) rfl (Nat.le_of_ble_eq_true rfl) ?_
  intro p e s m below meth c hC hH hr hlocks hnm ls hl
  have hx := hC.1
  have hb := hC.2.1
  have hB : th_B G Γ Γ [(58, 0)] H0 H0 [] := ⟨hI, va_S.rf, th_F_rf⟩
  have hl : lv_has ls 4 [(0, .ref a0), (1, .int p1), (2, .int p2), (3, .int p3)] := hl
  have lp1 := ti_lo p1; have up1 := ti_hi p1
  have lp2 := ti_lo p2; have up2 := ti_hi p2
  have lp3 := ti_lo p3; have up3 := ti_hi p3
  obtain ⟨F, hF0⟩ : ∃ F, F = f_X12_setsAsked (dv G Γ H0) ((a0 : Int)) (p1.toInt) (p2.toInt) (p3.toInt) := ⟨_, rfl⟩
  have hF := hF0.trans (f_X12_setsAsked.eq_1 (dv G Γ H0) ((a0 : Int)) (p1.toInt) (p2.toInt) (p3.toInt))
  refine lv_aload_n hx hb dX12_setsAsked_0 rfl (lv_at hl 0 rfl) ?_
  refine th_getO (j := 26) (r2 := 58) hC cf_X12 hB.1 h0 ro_46 rfl rfl kf_X12_63 dX12_setsAsked_1 (fun b1 mb1 hb1 => ?_)
  refine lv_iconst (v := 0) hx hb dX12_setsAsked_4 (by decide) ?_
  refine lv_iload_n hx hb dX12_setsAsked_5 rfl (lv_at hl 1 rfl) ?_
  have hIo := hB.1
  refine th_iastF hC hB hb1 (Or.inl hb1) ro_58 rfl (by decide) tk_0 (by omega) (by omega) th_sIa dX12_setsAsked_6 (fun H6 locs hB hf6 hst6 => ?_)
  have hf := hf6
  have mm2 := (th_F_o hf h0 ro_46 (j := 26) (by decide) (by decide)).trans mb1
  have hR := th_RC_F hB.1 hR hf (th_T_s hb1 ro_58 hst6) (by decide)
  replace hF := hF.trans (dv_bn (dv_stoI hIo hB.1 hU hb1 ow_58 (i := 0) hst6 (Eq.refl _) (by omega)))
  refine lv_aload_n hx hb dX12_setsAsked_7 rfl (lv_at hl 0 rfl) ?_
  refine th_getK hC cf_X12 hB.1 h0 ro_46 rfl (j := 26) (by decide) mm2 kf_X12_63 dX12_setsAsked_8 ?_
  refine lv_iconst (v := 1) hx hb dX12_setsAsked_11 (by decide) ?_
  refine lv_aload_n hx hb dX12_setsAsked_12 rfl (lv_at hl 0 rfl) ?_
  refine th_getO (j := 2) (r2 := 48) hC cf_X12 hB.1 h0 ro_46 rfl rfl kf_X12_28 dX12_setsAsked_13 (fun b3 mb3 hb3 => ?_)
  have sb3 := (th_F_o hB.2.2 h0 ro_46 (j := 2) (by decide) (by decide)).symm.trans mb3
  refine lv_bipush (v := 29) hx hb dX12_setsAsked_16 (by decide) ?_
  refine lv_iload_n hx hb dX12_setsAsked_18 rfl (lv_at hl 1 rfl) ?_
  refine tr_iadd hx hb dX12_setsAsked_19 tk_29 (Eq.refl _) (by omega) (by omega) (fun x4 ex4 => ?_)
  replace hF := hF.trans (dv_bn (ex4.symm))
  refine th_ialdF hC hB.1 hb3 ro_48 rfl (Eq.refl _) (by omega) (by omega) (ek_side (by omega) (by omega)) dX12_setsAsked_20 (fun x5 mx5 lx5 ux5 => ?_)
  replace hF := hF.trans (dv_bn (dv_aldI hB.1 hU hb3 ow_48 (z := x4.toInt) mx5 (by omega)))
  have hIo := hB.1
  refine th_iastF hC hB hb1 (Or.inl hb1) ro_58 rfl (by decide) tk_1 (by omega) (by omega) th_sIa dX12_setsAsked_21 (fun H21 locs hB hf21 hst21 => ?_)
  have hf := hf21
  have mm6 := (th_F_o hf h0 ro_46 (j := 26) (by decide) (by decide)).trans mm2
  have mm7 := (th_F_o hf h0 ro_46 (j := 2) (by decide) (by decide)).trans mb3
  have hR := th_RC_F hB.1 hR hf (th_T_s hb1 ro_58 hst21) (by decide)
  replace hF := hF.trans (dv_bn (dv_stoI hIo hB.1 hU hb1 ow_58 (i := 1) hst21 (Eq.refl _) (by omega)))
  refine lv_aload_n hx hb dX12_setsAsked_22 rfl (lv_at hl 0 rfl) ?_
  refine th_getK hC cf_X12 hB.1 h0 ro_46 rfl (j := 26) (by decide) mm6 kf_X12_63 dX12_setsAsked_23 ?_
  refine lv_iconst (v := 2) hx hb dX12_setsAsked_26 (by decide) ?_
  refine lv_aload_n hx hb dX12_setsAsked_27 rfl (lv_at hl 0 rfl) ?_
  refine th_getK hC cf_X12 hB.1 h0 ro_46 rfl (j := 2) (by decide) mm7 kf_X12_28 dX12_setsAsked_28 ?_
  refine lv_bipush (v := 38) hx hb dX12_setsAsked_31 (by decide) ?_
  refine lv_iload_n hx hb dX12_setsAsked_33 rfl (lv_at hl 1 rfl) ?_
  refine tr_iadd hx hb dX12_setsAsked_34 tk_38 (Eq.refl _) (by omega) (by omega) (fun x8 ex8 => ?_)
  replace hF := hF.trans (dv_bn (ex8.symm))
  refine th_ialdF hC hB.1 hb3 ro_48 rfl (Eq.refl _) (by omega) (by omega) (ek_b (by omega) (by omega)) dX12_setsAsked_35 (fun x9 mx9 lx9 ux9 => ?_)
  replace hF := hF.trans (dv_bn (dv_aldI hB.1 hU hb3 ow_48 (z := x8.toInt) mx9 (by omega)))
  have hIo := hB.1
  refine th_iastF hC hB hb1 (Or.inl hb1) ro_58 rfl (by decide) tk_2 (by omega) (by omega) th_sIa dX12_setsAsked_36 (fun H36 locs hB hf36 hst36 => ?_)
  have hf := hf36
  have mm10 := (th_F_o hf h0 ro_46 (j := 26) (by decide) (by decide)).trans mm6
  have mm11 := (th_F_o hf h0 ro_46 (j := 2) (by decide) (by decide)).trans mm7
  have hR := th_RC_F hB.1 hR hf (th_T_s hb1 ro_58 hst36) (by decide)
  replace hF := hF.trans (dv_bn (dv_stoI hIo hB.1 hU hb1 ow_58 (i := 2) hst36 (Eq.refl _) (by omega)))
  refine lv_aload_n hx hb dX12_setsAsked_37 rfl (lv_at hl 0 rfl) ?_
  refine th_getK hC cf_X12 hB.1 h0 ro_46 rfl (j := 26) (by decide) mm10 kf_X12_63 dX12_setsAsked_38 ?_
  refine lv_iconst (v := 3) hx hb dX12_setsAsked_41 (by decide) ?_
  refine lv_iload_n hx hb dX12_setsAsked_42 rfl (lv_at hl 2 rfl) ?_
  have hIo := hB.1
  refine th_iastF hC hB hb1 (Or.inl hb1) ro_58 rfl (by decide) tk_3 (by omega) (by omega) th_sIa dX12_setsAsked_43 (fun H43 locs hB hf43 hst43 => ?_)
  have hf := hf43
  have mm12 := (th_F_o hf h0 ro_46 (j := 26) (by decide) (by decide)).trans mm10
  have mm13 := (th_F_o hf h0 ro_46 (j := 2) (by decide) (by decide)).trans mm11
  have hR := th_RC_F hB.1 hR hf (th_T_s hb1 ro_58 hst43) (by decide)
  replace hF := hF.trans (dv_bn (dv_stoI hIo hB.1 hU hb1 ow_58 (i := 3) hst43 (Eq.refl _) (by omega)))
  refine lv_aload_n hx hb dX12_setsAsked_44 rfl (lv_at hl 0 rfl) ?_
  refine th_getK hC cf_X12 hB.1 h0 ro_46 rfl (j := 26) (by decide) mm12 kf_X12_63 dX12_setsAsked_45 ?_
  refine lv_iconst (v := 4) hx hb dX12_setsAsked_48 (by decide) ?_
  refine lv_iload_n hx hb dX12_setsAsked_49 rfl (lv_at hl 3 rfl) ?_
  have hIo := hB.1
  refine th_iastF hC hB hb1 (Or.inl hb1) ro_58 rfl (by decide) tk_4 (by omega) (by omega) th_sIa dX12_setsAsked_50 (fun H50 locs hB hf50 hst50 => ?_)
  have hf := hf50
  have mm14 := (th_F_o hf h0 ro_46 (j := 26) (by decide) (by decide)).trans mm12
  have mm15 := (th_F_o hf h0 ro_46 (j := 2) (by decide) (by decide)).trans mm13
  have hR := th_RC_F hB.1 hR hf (th_T_s hb1 ro_58 hst50) (by decide)
  replace hF := hF.trans (dv_bn (dv_stoI hIo hB.1 hU hb1 ow_58 (i := 4) hst50 (Eq.refl _) (by omega)))
  refine lv_aload_n hx hb dX12_setsAsked_51 rfl (lv_at hl 0 rfl) ?_
  refine th_getK hC cf_X12 hB.1 h0 ro_46 rfl (j := 26) (by decide) mm14 kf_X12_63 dX12_setsAsked_52 ?_
  refine lv_iconst (v := 5) hx hb dX12_setsAsked_55 (by decide) ?_
  refine lv_aload_n hx hb dX12_setsAsked_56 rfl (lv_at hl 0 rfl) ?_
  refine th_getK hC cf_X12 hB.1 h0 ro_46 rfl (j := 2) (by decide) mm15 kf_X12_28 dX12_setsAsked_57 ?_
  refine lv_bipush (v := 66) hx hb dX12_setsAsked_60 (by decide) ?_
  refine th_ialdF hC hB.1 hb3 ro_48 rfl tk_66 (by omega) (by omega) (ek_b (by omega) (by omega)) dX12_setsAsked_62 (fun x16 mx16 lx16 ux16 => ?_)
  replace hF := hF.trans (dv_bn (dv_aldI hB.1 hU hb3 ow_48 (z := 66) mx16 (by omega)))
  have hIo := hB.1
  refine th_iastF hC hB hb1 (Or.inl hb1) ro_58 rfl (by decide) tk_5 (by omega) (by omega) th_sIa dX12_setsAsked_63 (fun H63 locs hB hf63 hst63 => ?_)
  have hf := hf63
  have mm17 := (th_F_o hf h0 ro_46 (j := 26) (by decide) (by decide)).trans mm14
  have mm18 := (th_F_o hf h0 ro_46 (j := 2) (by decide) (by decide)).trans mm15
  have hR := th_RC_F hB.1 hR hf (th_T_s hb1 ro_58 hst63) (by decide)
  replace hF := hF.trans (dv_bn (dv_stoI hIo hB.1 hU hb1 ow_58 (i := 5) hst63 (Eq.refl _) (by omega)))
  refine lv_aload_n hx hb dX12_setsAsked_64 rfl (lv_at hl 0 rfl) ?_
  refine th_getK hC cf_X12 hB.1 h0 ro_46 rfl (j := 26) (by decide) mm17 kf_X12_63 dX12_setsAsked_65 ?_
  refine lv_bipush (v := 6) hx hb dX12_setsAsked_68 (by decide) ?_
  refine lv_aload_n hx hb dX12_setsAsked_70 rfl (lv_at hl 0 rfl) ?_
  refine th_getK hC cf_X12 hB.1 h0 ro_46 rfl (j := 2) (by decide) mm18 kf_X12_28 dX12_setsAsked_71 ?_
  refine lv_iconst (v := 0) hx hb dX12_setsAsked_74 (by decide) ?_
  refine lv_iload_n hx hb dX12_setsAsked_75 rfl (lv_at hl 1 rfl) ?_
  refine tr_iadd hx hb dX12_setsAsked_76 tk_0 (Eq.refl _) (by omega) (by omega) (fun x19 ex19 => ?_)
  replace hF := hF.trans (dv_bn (ex19.symm))
  refine th_ialdF hC hB.1 hb3 ro_48 rfl (Eq.refl _) (by omega) (by omega) (ek_a (by omega) (by omega)) dX12_setsAsked_77 (fun x20 mx20 lx20 ux20 => ?_)
  replace hF := hF.trans (dv_bn (dv_aldI hB.1 hU hb3 ow_48 (z := x19.toInt) mx20 (by omega)))
  have hIo := hB.1
  refine th_iastF hC hB hb1 (Or.inl hb1) ro_58 rfl (by decide) tk_6 (by omega) (by omega) th_sIa dX12_setsAsked_78 (fun H78 locs hB hf78 hst78 => ?_)
  have hf := hf78
  have mm21 := (th_F_o hf h0 ro_46 (j := 26) (by decide) (by decide)).trans mm17
  have mm22 := (th_F_o hf h0 ro_46 (j := 2) (by decide) (by decide)).trans mm18
  have hR := th_RC_F hB.1 hR hf (th_T_s hb1 ro_58 hst78) (by decide)
  replace hF := hF.trans (dv_bn (dv_stoI hIo hB.1 hU hb1 ow_58 (i := 6) hst78 (Eq.refl _) (by omega)))
  refine lv_aload_n hx hb dX12_setsAsked_79 rfl (lv_at hl 0 rfl) ?_
  refine th_getK hC cf_X12 hB.1 h0 ro_46 rfl (j := 26) (by decide) mm21 kf_X12_63 dX12_setsAsked_80 ?_
  refine lv_bipush (v := 7) hx hb dX12_setsAsked_83 (by decide) ?_
  refine lv_aload_n hx hb dX12_setsAsked_85 rfl (lv_at hl 0 rfl) ?_
  refine th_getK hC cf_X12 hB.1 h0 ro_46 rfl (j := 2) (by decide) mm22 kf_X12_28 dX12_setsAsked_86 ?_
  refine lv_bipush (v := 28) hx hb dX12_setsAsked_89 (by decide) ?_
  refine th_ialdF hC hB.1 hb3 ro_48 rfl tk_28 (by omega) (by omega) (ek_a (by omega) (by omega)) dX12_setsAsked_91 (fun x23 mx23 lx23 ux23 => ?_)
  replace hF := hF.trans (dv_bn (dv_aldI hB.1 hU hb3 ow_48 (z := 28) mx23 (by omega)))
  have hIo := hB.1
  refine th_iastF hC hB hb1 (Or.inl hb1) ro_58 rfl (by decide) tk_7 (by omega) (by omega) th_sIa dX12_setsAsked_92 (fun H92 locs hB hf92 hst92 => ?_)
  have hf := hf92
  have mm24 := (th_F_o hf h0 ro_46 (j := 26) (by decide) (by decide)).trans mm21
  have mm25 := (th_F_o hf h0 ro_46 (j := 2) (by decide) (by decide)).trans mm22
  have hR := th_RC_F hB.1 hR hf (th_T_s hb1 ro_58 hst92) (by decide)
  replace hF := hF.trans (dv_bn (dv_stoI hIo hB.1 hU hb1 ow_58 (i := 7) hst92 (Eq.refl _) (by omega)))
  exact th_vret hC hH hr hlocks hB.2.1 ⟨rfl, hB.1, hB.2.2, hR, (hF0.symm.trans hF)⟩ dX12_setsAsked_93

set_option maxHeartbeats 4000000 in
set_option maxRecDepth 100000 in
theorem c_X12_tells (l : Launch) (G : th_G) (Γ : th_Ga) (H0 : Heap) (hI : th_I G Γ H0) (hU : dv_U Γ) (a0 : Nat) (h0 : Γ a0 = (46, 0)) (hR : th_RE a0 G Γ H0) (p1 : Int32) (p2 : Int32) (f2 : 0 ≤ p2.toInt) (g2 : p2.toInt ≤ 8) (p3 : Int32) (p4 : Int32) (p5 : Int32) (f5 : 0 ≤ p5.toInt) (g5 : p5.toInt ≤ 99) (p6 : Int32) (f6 : 0 ≤ p6.toInt) (g6 : p6.toInt ≤ 99) : Met l yX12_tells (.code yX12_tells cX12_tells 14 (some FieldType.int) :: th_tb) ({ frames := 50, cells := 0, slots := 0, locals := 1594 } : Room) (th_P [.ref a0, .int p1, .int p2, .int p3, .int p4, .int p5, .int p6] G H0) (th_Q (fun (v : Option Value) (H1 : Heap) => ∃ r : Int32, v = some (.int r) ∧ 0 ≤ r.toInt ∧ r.toInt ≤ 99 ∧ th_I G Γ H1 ∧ th_F G Γ [(46, 22), (46, 24), (58, 0), (46, 23), (46, 25)] H0 H1 ∧ th_RE a0 G Γ H1 ∧ (f_X12_tells (dv G Γ H0) (a0 : Int) p1.toInt p2.toInt p3.toInt p4.toInt p5.toInt p6.toInt = (dv G Γ H1, r.toInt))) G) 0 0 (fun q => G.2.2 ≤ q) := by
  refine th_met RX12 (by decide) rfl (Nat.le_of_ble_eq_true rfl) ?_
  intro p e s m below meth c hC hH hr hlocks hnm ls hl
  have hx := hC.1
  have hb := hC.2.1
  have hB : th_B G Γ Γ [(46, 22), (46, 24), (58, 0), (46, 23), (46, 25)] H0 H0 [] := ⟨hI, va_S.rf, th_F_rf⟩
  have hl : lv_has ls 14 [(0, .ref a0), (1, .int p1), (2, .int p2), (3, .int p3), (4, .int p4), (5, .int p5), (6, .int p6)] := hl
  have lp1 := ti_lo p1; have up1 := ti_hi p1
  have lp2 := ti_lo p2; have up2 := ti_hi p2
  have lp3 := ti_lo p3; have up3 := ti_hi p3
  have lp4 := ti_lo p4; have up4 := ti_hi p4
  have lp5 := ti_lo p5; have up5 := ti_hi p5
  have lp6 := ti_lo p6; have up6 := ti_hi p6
  obtain ⟨F, hF0⟩ : ∃ F, F = f_X12_tells (dv G Γ H0) ((a0 : Int)) (p1.toInt) (p2.toInt) (p3.toInt) (p4.toInt) (p5.toInt) (p6.toInt) := ⟨_, rfl⟩
  have hF := hF0.trans (f_X12_tells.eq_1 (dv G Γ H0) ((a0 : Int)) (p1.toInt) (p2.toInt) (p3.toInt) (p4.toInt) (p5.toInt) (p6.toInt))
  refine lv_aload_n hx hb dX12_tells_0 rfl (lv_at hl 0 rfl) ?_
  have hRs := hR.2
  refine th_getO (j := 2) (r2 := 48) hC cf_X12 hB.1 h0 ro_46 rfl rfl kf_X12_28 dX12_tells_1 (fun b1 mb1 hb1 => ?_)
  refine lv_bipush (v := 72) hx hb dX12_tells_4 (by decide) ?_
  refine th_ialdF hC hB.1 hb1 ro_48 rfl tk_72 (by omega) (by omega) (ek_force (by omega) (by omega)) dX12_tells_6 (fun x2 mx2 lx2 ux2 => ?_)
  replace hF := hF.trans (dv_bn (dv_aldI hB.1 hU hb1 ow_48 (z := 72) mx2 (by omega)))
  have vgx2 : mo_v G H0 a0 2 72 = x2.toInt := by rw [show (72 : Int) = 72 by omega]; exact mo_vat mb1 mx2 (by omega)
  refine lv_iconst (v := (-1)) hx hb dX12_tells_7 (by decide) ?_
  refine tr_icmp_ne (tgt := 14) hx hb dX12_tells_8 (by decide) (Eq.refl _) tk_m1 (fun c8 => ?_) (fun c8 => ?_)
  · replace hF := hF.trans (if_pos c8)
    refine lv_aload_n hx hb dX12_tells_14 rfl (lv_at hl 0 rfl) ?_
    refine lv_iload_n hx hb dX12_tells_15 rfl (lv_at hl 2 rfl) ?_
    refine lv_iload_n hx hb dX12_tells_16 rfl (lv_at hl 3 rfl) ?_
    refine lv_iload hx hb dX12_tells_17 (lv_at hl 4 rfl) ?_
    refine th_call (th_runV (As := [.int p2, .int p3, .int p4]) (rest := []) hC mf_X12_setsAsked km_X12_338 im_X12_setsAsked se_X12_setsAsked (c_X12_setsAsked l G Γ H0 hB.1 hR.1 hU a0 h0 p2 (by omega) (by omega) p3 p4) rfl rfl ⟨Nat.le_of_ble_eq_true rfl, Nat.le_of_ble_eq_true rfl⟩ hB.1 h0 ro_46 rfl rfl hl.1 rfl (Nat.le_of_ble_eq_true rfl) dX12_tells_19 ⟨Nat.le_refl _, Nat.le_refl _⟩) hB.2.1 (fun v19 H19 locs hp hz hS => ?_)
    have hRD := hR
    obtain ⟨rfl, hI1, hf, hR, z19_0⟩ := hp
    have hR := th_RE_c hR hRD hI1 h0 hf (by decide)
    have hB := th_B_c hB hI1 hS hf (by decide)
    have mm3 := (th_F_o hf h0 ro_46 (j := 2) (by decide) (by decide)).trans mb1
    have fv_H19_22 : mo_f G H19 a0 22 = mo_f G H0 a0 22 := mo_f_F hf h0 (by decide) (by decide)
    have fv_H19_23 : mo_f G H19 a0 23 = mo_f G H0 a0 23 := mo_f_F hf h0 (by decide) (by decide)
    have fv_H19_25 : mo_f G H19 a0 25 = mo_f G H0 a0 25 := mo_f_F hf h0 (by decide) (by decide)
    have vv_H19_2 : mo_v G H19 a0 2 = mo_v G H0 a0 2 := mo_v_F (r := 48) hB.1 hf h0 rfl ro_48 (by decide) (by decide)
    replace hF := hF.trans (dv_bn2 (z19_0))
    refine W.eq (g2 := F0 m 22 ls []) rfl ?_
    refine lv_aload_n hx hb dX12_tells_22 rfl (lv_at hl 0 rfl) ?_
    refine lv_iconst (v := 0) hx hb dX12_tells_23 (by decide) ?_
    refine th_put hC cf_X12 hB h0 (Or.inl h0) ro_46 rfl (j := 25) rfl (th_sI (by decide) (by decide)) (by decide) rfl narrow_b0 rfl kf_X12_311 dX12_tells_24 (fun H24 locs hB hf hst24 => ?_)
    have mm4 := (th_F_o hf h0 ro_46 (j := 2) (by decide) (by decide)).trans mm3
    have hR := th_RE_F hB.1 hR h0 hf (th_T_s h0 ro_46 hst24) (by decide)
    have fv_H24_22 : mo_f G H24 a0 22 = mo_f G H19 a0 22 := mo_f_F hf h0 (by decide) (by decide)
    have fv_H24_23 : mo_f G H24 a0 23 = mo_f G H19 a0 23 := mo_f_F hf h0 (by decide) (by decide)
    have vv_H24_2 : mo_v G H24 a0 2 = mo_v G H19 a0 2 := mo_v_F (r := 48) hB.1 hf h0 rfl ro_48 (by decide) (by decide)
    replace hF := hF.trans (dv_bn (dv_putI hB.1 h0 ro_46 (j := 25) rfl (th_apart hC cf_X12) hst24 tk_0 (by decide)))
    have fp24 : mo_f G H24 a0 25 = 0 := (mo_f_St hst24).trans tk_0
    refine lv_iload hx hb dX12_tells_27 (lv_at hl 6 rfl) ?_
    refine lv_i2l hx hb dX12_tells_29 rfl ?_
    refine lv_topl (fun y5 ey5 => ?_)
    replace hF := hF.trans (dv_bn (dv_i2l_e (Eq.refl _) ey5))
    have i2y5 := ti_i2l ey5
    refine lv_lstore (lv' := [(7, .long y5), (0, .ref a0), (1, .int p1), (2, .int p2), (3, .int p3), (4, .int p4), (5, .int p5), (6, .int p6)]) hx hb dX12_tells_30 hl (by decide) rfl (fun ls hl => ?_)
    refine lv_aload_n hx hb dX12_tells_32 rfl (lv_at hl 1 rfl) ?_
    refine lv_sipush (v := 400) hx hb dX12_tells_33 (by decide) ?_
    refine lv_aload_n hx hb dX12_tells_36 rfl (lv_at hl 1 rfl) ?_
    refine th_getK hC cf_X12 hB.1 h0 ro_46 rfl (j := 2) (by decide) mm4 kf_X12_28 dX12_tells_37 ?_
    refine lv_bipush (v := 72) hx hb dX12_tells_40 (by decide) ?_
    refine th_ialdF hC hB.1 hb1 ro_48 rfl tk_72 (by omega) (by omega) (ek_force (by omega) (by omega)) dX12_tells_42 (fun x6 mx6 lx6 ux6 => ?_)
    replace hF := hF.trans (dv_bn (dv_aldI hB.1 hU hb1 ow_48 (z := 72) mx6 (by omega)))
    have vgx6 : mo_v G H0 a0 2 72 = x6.toInt := by rw [← (mo_v_F (r := 48) hB.1 hB.2.2 h0 rfl ro_48 (by decide) (by decide) : mo_v G H24 a0 2 = _)]; rw [show (72 : Int) = 72 by omega]; exact mo_vat mm4 mx6 (by omega)
    refine tr_imul hx hb dX12_tells_43 tk_400 (Eq.refl _) (by omega) (by omega) (fun x7 ex7 => ?_)
    replace hF := hF.trans (dv_bn (ex7.symm))
    refine th_put hC cf_X12 hB h0 (Or.inl h0) ro_46 rfl (j := 22) rfl th_sIa (by decide) rfl rfl rfl kf_X12_281 dX12_tells_44 (fun H44 locs hB hf hst44 => ?_)
    have mm8 := (th_F_o hf h0 ro_46 (j := 2) (by decide) (by decide)).trans mm4
    have hR := th_RE_F hB.1 hR h0 hf (th_T_s h0 ro_46 hst44) (by decide)
    have fv_H44_23 : mo_f G H44 a0 23 = mo_f G H24 a0 23 := mo_f_F hf h0 (by decide) (by decide)
    have fv_H44_25 : mo_f G H44 a0 25 = mo_f G H24 a0 25 := mo_f_F hf h0 (by decide) (by decide)
    have vv_H44_2 : mo_v G H44 a0 2 = mo_v G H24 a0 2 := mo_v_F (r := 48) hB.1 hf h0 rfl ro_48 (by decide) (by decide)
    replace hF := hF.trans (dv_bn (dv_putI hB.1 h0 ro_46 (j := 22) rfl (th_apart hC cf_X12) hst44 (Eq.refl _) (by decide)))
    have fp44 : mo_f G H44 a0 22 = x7.toInt := mo_f_St hst44
    have mm9 := hst44.2.1
    refine lv_aload_n hx hb dX12_tells_47 rfl (lv_at hl 1 rfl) ?_
    refine lv_aload_n hx hb dX12_tells_48 rfl (lv_at hl 1 rfl) ?_
    refine th_getK hC cf_X12 hB.1 h0 ro_46 rfl (j := 22) (by decide) mm9 kf_X12_281 dX12_tells_49 ?_
    replace hF := hF.trans (dv_bn (dv_getI h0 ro_46 (j := 22) rfl mm9 (by decide)))
    have fg10 : mo_f G H44 a0 22 = x7.toInt := mo_fat mm9
    refine lv_aload_n hx hb dX12_tells_52 rfl (lv_at hl 1 rfl) ?_
    refine th_getK hC cf_X12 hB.1 h0 ro_46 rfl (j := 2) (by decide) mm8 kf_X12_28 dX12_tells_53 ?_
    refine lv_bipush (v := 73) hx hb dX12_tells_56 (by decide) ?_
    refine lv_aload_n hx hb dX12_tells_58 rfl (lv_at hl 1 rfl) ?_
    refine th_getK hC cf_X12 hB.1 h0 ro_46 rfl (j := 2) (by decide) mm8 kf_X12_28 dX12_tells_59 ?_
    refine lv_bipush (v := 72) hx hb dX12_tells_62 (by decide) ?_
    refine th_ialdF hC hB.1 hb1 ro_48 rfl tk_72 (by omega) (by omega) (ek_force (by omega) (by omega)) dX12_tells_64 (fun x11 mx11 lx11 ux11 => ?_)
    replace hF := hF.trans (dv_bn (dv_aldI hB.1 hU hb1 ow_48 (z := 72) mx11 (by omega)))
    have vgx11 : mo_v G H0 a0 2 72 = x11.toInt := by rw [← (mo_v_F (r := 48) hB.1 hB.2.2 h0 rfl ro_48 (by decide) (by decide) : mo_v G H44 a0 2 = _)]; rw [show (72 : Int) = 72 by omega]; exact mo_vat mm8 mx11 (by omega)
    refine tr_iadd hx hb dX12_tells_65 tk_73 (Eq.refl _) (by omega) (by omega) (fun x12 ex12 => ?_)
    replace hF := hF.trans (dv_bn (ex12.symm))
    refine th_ialdF hC hB.1 hb1 ro_48 rfl (Eq.refl _) (by omega) (by omega) (ek_size (by omega) (by omega)) dX12_tells_66 (fun x13 mx13 lx13 ux13 => ?_)
    replace hF := hF.trans (dv_bn (dv_aldI hB.1 hU hb1 ow_48 (z := x12.toInt) mx13 (by omega)))
    have vgx13 : mo_v G H0 a0 2 (73 + x11.toInt) = x13.toInt := by rw [← (mo_v_F (r := 48) hB.1 hB.2.2 h0 rfl ro_48 (by decide) (by decide) : mo_v G H44 a0 2 = _)]; rw [show ((73 + x11.toInt) : Int) = x12.toInt by omega]; exact mo_vat mm8 mx13 (by omega)
    refine tr_iadd hx hb dX12_tells_67 (Eq.refl _) (Eq.refl _) (by omega) (by omega) (fun x14 ex14 => ?_)
    replace hF := hF.trans (dv_bn (ex14.symm))
    refine th_put hC cf_X12 hB h0 (Or.inl h0) ro_46 rfl (j := 23) rfl th_sIa (by decide) rfl rfl rfl kf_X12_278 dX12_tells_68 (fun H68 locs hB hf hst68 => ?_)
    have mm15 := (th_F_o hf h0 ro_46 (j := 2) (by decide) (by decide)).trans mm8
    have mm16 := (th_F_o hf h0 ro_46 (j := 22) (by decide) (by decide)).trans mm9
    have hR := th_RE_F hB.1 hR h0 hf (th_T_s h0 ro_46 hst68) (by decide)
    have fv_H68_22 : mo_f G H68 a0 22 = mo_f G H44 a0 22 := mo_f_F hf h0 (by decide) (by decide)
    have fv_H68_25 : mo_f G H68 a0 25 = mo_f G H44 a0 25 := mo_f_F hf h0 (by decide) (by decide)
    have vv_H68_2 : mo_v G H68 a0 2 = mo_v G H44 a0 2 := mo_v_F (r := 48) hB.1 hf h0 rfl ro_48 (by decide) (by decide)
    replace hF := hF.trans (dv_bn (dv_putI hB.1 h0 ro_46 (j := 23) rfl (th_apart hC cf_X12) hst68 (Eq.refl _) (by decide)))
    have fp68 : mo_f G H68 a0 23 = x14.toInt := mo_f_St hst68
    have mm17 := hst68.2.1
    obtain ⟨B, eB⟩ : ∃ B : Int, B = 400 * x2.toInt := ⟨_, rfl⟩
    obtain ⟨n0, en0⟩ : ∃ n : Int, n = mo_v G H0 a0 2 (73 + x2.toInt) := ⟨_, rfl⟩
    obtain ⟨T, eT⟩ : ∃ T : Int → Int, T = mo_tf (mo_v G H0 a0 2) (80 + B) n0 := ⟨_, rfl⟩
    have ex73 : mo_v G H0 a0 2 (73 + x11.toInt) = mo_v G H0 a0 2 (73 + x2.toInt) := by rw [show x11.toInt = x2.toInt by omega]
    have tx : n0 ≤ 400 ∧ mo_text 0 T n0 := by have q9 := hRs.2.2 x2.toInt (by omega) (by have w9 := hRs.1; omega); rw [eT, eB, en0]; exact q9
    have tx0 := tx.1
    have lp71 : ∀ (n71 : Nat) (H71 : Heap) (locs : List Loc) (ls : Array Slot) (j71_7 : Int64), th_B G Γ Γ [(46, 22), (46, 24), (58, 0), (46, 23), (46, 25)] H0 H71 locs → th_RE a0 G Γ H71 → lv_has ls 14 [(0, .ref a0), (1, .int p1), (5, .int p5), (7, .long j71_7)] → F = dv_lp f_X12_tells_71b (dv G Γ H71, (a0 : Int), p1.toInt, p5.toInt, j71_7.toInt) → (∃ m : Int, mo_f G H71 a0 22 = B + m ∧ 0 ≤ m ∧ (m = n0 + 1 ∨ mo_chain T (mo_clause 0 T) (mo_is 159) m n0)) → mo_f G H71 a0 23 = B + n0 → mo_f G H71 a0 25 = 0 → (0 ≤ j71_7.toInt ∧ j71_7.toInt ≤ 99) → th_sl H71 a0 (G.1.2 12 23) = .int x14 → (B + n0 + 3 - mo_f G H71 a0 22) ≤ (n71 : Int) → W p l e ({ frames := 50, cells := 0, slots := 0, locals := 1594 } : Room) s m ([.ref a0, .int p1, .int p2, .int p3, .int p4, .int p5, .int p6] : List Value).toArray below meth c H71 locs 0 0 (MQ below (th_Q (fun (v : Option Value) (H1 : Heap) => ∃ r : Int32, v = some (.int r) ∧ 0 ≤ r.toInt ∧ r.toInt ≤ 99 ∧ th_I G Γ H1 ∧ th_F G Γ [(46, 22), (46, 24), (58, 0), (46, 23), (46, 25)] H0 H1 ∧ th_RE a0 G Γ H1 ∧ (f_X12_tells (dv G Γ H0) (a0 : Int) p1.toInt p2.toInt p3.toInt p4.toInt p5.toInt p6.toInt = (dv G Γ H1, r.toInt))) G) ([.ref a0, .int p1, .int p2, .int p3, .int p4, .int p5, .int p6] : List Value).toArray s 0 0 (fun q => G.2.2 ≤ q)) (F0 m 71 ls []) := by
      intro n71
      induction n71 with
      | zero => intro H71 locs ls j71_7 hB hR hl hF g71_0 g71_1 g71_2 g71_3 g71_4 hm71; exact absurd hm71 (by have := mo_lpt (mo_clause_lt _ _) g71_0; omega)
      | succ n71 ih71 =>
        intro H71 locs ls j71_7 hB hR hl hF g71_0 g71_1 g71_2 g71_3 g71_4 hm71
        have vw_H71_2 : mo_v G H71 a0 2 = mo_v G H0 a0 2 := mo_v_F (r := 48) hB.1 hB.2.2 h0 rfl ro_48 (by decide) (by decide)
        have hm71 : (B + n0 + 3 - mo_f G H71 a0 22) ≤ (n71 : Int) + 1 := by omega
        replace hF := hF.trans (dv_lp_eq)
        replace hF := hF.trans (congrArg (dv_k f_X12_tells_71b) (f_X12_tells_71c.eq_1 (dv G Γ H71) ((a0 : Int)) (p1.toInt) (p5.toInt) (j71_7.toInt)))
        refine lv_aload_n hx hb dX12_tells_71 rfl (lv_at hl 0 rfl) ?_
        obtain ⟨m6, a6, b6, r6⟩ := g71_0
        refine th_getI (j := 22) hC cf_X12 hB.1 h0 ro_46 rfl rfl kf_X12_281 dX12_tells_72 (fun x18 mx18 lx18 ux18 => ?_)
        replace hF := hF.trans (congrArg (dv_k f_X12_tells_71b) (dv_bn (dv_getI h0 ro_46 (j := 22) rfl mx18 (by decide))))
        have fg19 : mo_f G H71 a0 22 = x18.toInt := mo_fat mx18
        refine lv_aload_n hx hb dX12_tells_75 rfl (lv_at hl 0 rfl) ?_
        refine th_getK hC cf_X12 hB.1 h0 ro_46 rfl (j := 23) (by decide) g71_4 kf_X12_278 dX12_tells_76 ?_
        replace hF := hF.trans (congrArg (dv_k f_X12_tells_71b) (dv_bn (dv_getI h0 ro_46 (j := 23) rfl g71_4 (by decide))))
        have fg20 : mo_f G H71 a0 23 = x14.toInt := mo_fat g71_4
        refine tr_icmp_ge (tgt := 224) hx hb dX12_tells_79 (by decide) (Eq.refl _) (Eq.refl _) (fun c79 => ?_) (fun c79 => ?_)
        · replace hF := hF.trans (congrArg (dv_k f_X12_tells_71b) (if_pos c79))
          refine lv_lload hx hb dX12_tells_224 (lv_at hl 3 rfl) ?_
          refine lv_l2i hx hb dX12_tells_226 rfl ?_
          refine lv_topi (fun x21 ex21 => ?_)
          have lx21 := ti_lo x21; have ux21 := ti_hi x21
          replace hF := hF.trans (congrArg (dv_k f_X12_tells_71b) (dv_bn (dv_l2i_e (Eq.refl (j71_7.toInt)) ex21)))
          have f226 := ti_l2i ex21 (by omega) (by omega)
          replace hF := hF.trans (dv_kr)
          exact th_iret hC hH hr hlocks rfl hB.2.1 ⟨_, rfl, by omega, by omega, hB.1, hB.2.2, hR, (hF0.symm.trans hF)⟩ dX12_tells_227
        · replace hF := hF.trans (congrArg (dv_k f_X12_tells_71b) (if_neg (Int.not_le.mpr c79)))
          refine lv_aload_n hx hb dX12_tells_82 rfl (lv_at hl 0 rfl) ?_
          have ch6 := r6.resolve_left (by omega)
          obtain ⟨m1, c1, r1⟩ := mo_chain_open ch6
          have lt1 := mo_clause_lt _ _ _ _ c1
          have le1 := mo_rest_le (mo_clause_lt _ _) r1
          have cl : mo_cla T m6 m1 := by rcases c1 with ⟨-, c1⟩ | ⟨q9, -⟩; exact c1; exact absurd q9 (by decide)
          refine lv_aload_n hx hb dX12_tells_83 rfl (lv_at hl 0 rfl) ?_
          refine th_getK hC cf_X12 hB.1 h0 ro_46 rfl (j := 22) (by decide) mx18 kf_X12_281 dX12_tells_84 ?_
          replace hF := hF.trans (congrArg (dv_k f_X12_tells_71b) (dv_bn (dv_getI h0 ro_46 (j := 22) rfl mx18 (by decide))))
          have fg22 : mo_f G H71 a0 22 = x18.toInt := mo_fat mx18
          refine th_call (th_runV (As := [.int x18]) (rest := []) hC mf_X12_codeAt km_X12_284 im_X12_codeAt se_X12_codeAt (c_X12_codeAt l G Γ H71 hB.1 hU a0 h0 x18 (by omega) B (by omega) (by omega)) rfl rfl ⟨Nat.le_of_ble_eq_true rfl, Nat.le_of_ble_eq_true rfl⟩ hB.1 h0 ro_46 rfl rfl hl.1 rfl (Nat.le_of_ble_eq_true rfl) dX12_tells_87 ⟨Nat.le_refl _, Nat.le_refl _⟩) hB.2.1 (fun v87 H87 locs hp hz hS => ?_)
          obtain ⟨x23, rfl, q87_0, q87_1, rfl⟩ := hp
          have hB := th_B_s hB hS
          replace hF := hF.trans (congrArg (dv_k f_X12_tells_71b) (dv_bn2 (q87_1)))
          refine W.eq (g2 := F0 m 90 ls [.int x23]) rfl ?_
          have cd87 : T m6 = x23.toInt := by have q9 := q87_0; rw [((mo_ce_T (mo_v_F (r := 48) hB.1 hB.2.2 h0 rfl ro_48 (by decide) (by decide)) (show mo_f G H71 a0 23 = B + n0 by omega)).trans eT.symm)] at q9; rw [q9]; congr 1; omega
          refine lv_istore (lv' := [(9, .int x23), (0, .ref a0), (1, .int p1), (5, .int p5), (7, .long j71_7)]) hx hb dX12_tells_90 hl (by decide) rfl (fun ls hl => ?_)
          refine lv_aload_n hx hb dX12_tells_92 rfl (lv_at hl 1 rfl) ?_
          refine lv_iconst (v := 0) hx hb dX12_tells_93 (by decide) ?_
          refine th_put hC cf_X12 hB h0 (Or.inl h0) ro_46 rfl (j := 24) rfl (th_sI (by decide) (by decide)) (by decide) rfl narrow_b0 rfl kf_X12_291 dX12_tells_94 (fun H94 locs hB hf hst94 => ?_)
          have mm24 := (th_F_o hf h0 ro_46 (j := 23) (by decide) (by decide)).trans g71_4
          have mm25 := (th_F_o hf h0 ro_46 (j := 22) (by decide) (by decide)).trans mx18
          have hR := th_RE_F hB.1 hR h0 hf (th_T_s h0 ro_46 hst94) (by decide)
          have fv_H94_22 : mo_f G H94 a0 22 = mo_f G H71 a0 22 := mo_f_F hf h0 (by decide) (by decide)
          have fv_H94_23 : mo_f G H94 a0 23 = mo_f G H71 a0 23 := mo_f_F hf h0 (by decide) (by decide)
          have fv_H94_25 : mo_f G H94 a0 25 = mo_f G H71 a0 25 := mo_f_F hf h0 (by decide) (by decide)
          have vv_H94_2 : mo_v G H94 a0 2 = mo_v G H71 a0 2 := mo_v_F (r := 48) hB.1 hf h0 rfl ro_48 (by decide) (by decide)
          replace hF := hF.trans (congrArg (dv_k f_X12_tells_71b) (dv_bn (dv_putI hB.1 h0 ro_46 (j := 24) rfl (th_apart hC cf_X12) hst94 tk_0 (by decide))))
          have mm26 := hst94.2.1
          refine lv_aload_n hx hb dX12_tells_97 rfl (lv_at hl 1 rfl) ?_
          refine lv_dup hx hb dX12_tells_98 rfl ?_
          refine th_getK hC cf_X12 hB.1 h0 ro_46 rfl (j := 22) (by decide) mm25 kf_X12_281 dX12_tells_99 ?_
          replace hF := hF.trans (congrArg (dv_k f_X12_tells_71b) (dv_bn (dv_getI h0 ro_46 (j := 22) rfl mm25 (by decide))))
          have fg27 : mo_f G H94 a0 22 = x18.toInt := mo_fat mm25
          refine lv_iconst (v := 1) hx hb dX12_tells_102 (by decide) ?_
          refine tr_iadd hx hb dX12_tells_103 (Eq.refl _) tk_1 (by omega) (by omega) (fun x28 ex28 => ?_)
          replace hF := hF.trans (congrArg (dv_k f_X12_tells_71b) (dv_bn (ex28.symm)))
          refine th_put hC cf_X12 hB h0 (Or.inl h0) ro_46 rfl (j := 22) rfl th_sIa (by decide) rfl rfl rfl kf_X12_281 dX12_tells_104 (fun H104 locs hB hf hst104 => ?_)
          have mm29 := (th_F_o hf h0 ro_46 (j := 23) (by decide) (by decide)).trans mm24
          have mm30 := (th_F_o hf h0 ro_46 (j := 24) (by decide) (by decide)).trans mm26
          have hR := th_RE_F hB.1 hR h0 hf (th_T_s h0 ro_46 hst104) (by decide)
          have fv_H104_23 : mo_f G H104 a0 23 = mo_f G H94 a0 23 := mo_f_F hf h0 (by decide) (by decide)
          have fv_H104_25 : mo_f G H104 a0 25 = mo_f G H94 a0 25 := mo_f_F hf h0 (by decide) (by decide)
          have vv_H104_2 : mo_v G H104 a0 2 = mo_v G H94 a0 2 := mo_v_F (r := 48) hB.1 hf h0 rfl ro_48 (by decide) (by decide)
          replace hF := hF.trans (congrArg (dv_k f_X12_tells_71b) (dv_bn (dv_putI hB.1 h0 ro_46 (j := 22) rfl (th_apart hC cf_X12) hst104 (Eq.refl _) (by decide))))
          have fp104 : mo_f G H104 a0 22 = x28.toInt := mo_f_St hst104
          have mm31 := hst104.2.1
          refine lv_iload hx hb dX12_tells_107 (lv_at hl 0 rfl) ?_
          refine lv_iconst (v := 3) hx hb dX12_tells_109 (by decide) ?_
          have jn122 : ∀ (H122 : Heap) (locs : List Loc) (ls : Array Slot) (s122_0 : Int64), th_B G Γ Γ [(46, 22), (46, 24), (58, 0), (46, 23), (46, 25)] H0 H122 locs → th_RE a0 G Γ H122 → lv_has ls 14 [(9, .int x23), (0, .ref a0), (1, .int p1), (5, .int p5), (7, .long j71_7)] → F = dv_k f_X12_tells_71b (f_X12_tells_122 (dv G Γ H122) (x23.toInt) ((a0 : Int)) (p1.toInt) (p5.toInt) (j71_7.toInt) (s122_0.toInt)) → (∃ q : Int, mo_f G H122 a0 22 = B + q ∧ 0 ≤ q ∧ mo_if 0 T q m1) → mo_f G H122 a0 23 = B + n0 → mo_f G H122 a0 25 = 0 → th_sl H122 a0 (G.1.2 12 23) = .int x14 → W p l e ({ frames := 50, cells := 0, slots := 0, locals := 1594 } : Room) s m ([.ref a0, .int p1, .int p2, .int p3, .int p4, .int p5, .int p6] : List Value).toArray below meth c H122 locs 0 0 (MQ below (th_Q (fun (v : Option Value) (H1 : Heap) => ∃ r : Int32, v = some (.int r) ∧ 0 ≤ r.toInt ∧ r.toInt ≤ 99 ∧ th_I G Γ H1 ∧ th_F G Γ [(46, 22), (46, 24), (58, 0), (46, 23), (46, 25)] H0 H1 ∧ th_RE a0 G Γ H1 ∧ (f_X12_tells (dv G Γ H0) (a0 : Int) p1.toInt p2.toInt p3.toInt p4.toInt p5.toInt p6.toInt = (dv G Γ H1, r.toInt))) G) ([.ref a0, .int p1, .int p2, .int p3, .int p4, .int p5, .int p6] : List Value).toArray s 0 0 (fun q => G.2.2 ≤ q)) (F0 m 122 ls [.long s122_0]) := by
            intro H122 locs ls s122_0 hB hR hl hF g122_0 g122_1 g122_2 g122_3
            have vw_H122_2 : mo_v G H122 a0 2 = mo_v G H0 a0 2 := mo_v_F (r := 48) hB.1 hB.2.2 h0 rfl ro_48 (by decide) (by decide)
            replace hF := hF.trans (congrArg (dv_k f_X12_tells_71b) (f_X12_tells_122.eq_1 (dv G Γ H122) (x23.toInt) ((a0 : Int)) (p1.toInt) (p5.toInt) (j71_7.toInt) (s122_0.toInt)))
            refine lv_lstore (lv' := [(10, .long s122_0), (9, .int x23), (0, .ref a0), (1, .int p1), (5, .int p5), (7, .long j71_7)]) hx hb dX12_tells_122 hl (by decide) rfl (fun ls hl => ?_)
            refine lv_aload_n hx hb dX12_tells_124 rfl (lv_at hl 2 rfl) ?_
            obtain ⟨p2_, a122, b122, if2⟩ := g122_0
            have le4 := mo_if_le if2
            refine th_getI (j := 24) hC cf_X12 hB.1 h0 ro_46 rfl rfl kf_X12_291 dX12_tells_125 (fun x32 mx32 lx32 ux32 => ?_)
            replace hF := hF.trans (congrArg (dv_k f_X12_tells_71b) (dv_bn (dv_getI h0 ro_46 (j := 24) rfl mx32 (by decide))))
            refine lv_istore (lv' := [(12, .int x32), (10, .long s122_0), (9, .int x23), (0, .ref a0), (1, .int p1), (5, .int p5), (7, .long j71_7)]) hx hb dX12_tells_128 hl (by decide) rfl (fun ls hl => ?_)
            refine lv_aload_n hx hb dX12_tells_130 rfl (lv_at hl 3 rfl) ?_
            refine lv_iconst (v := 0) hx hb dX12_tells_131 (by decide) ?_
            refine th_put hC cf_X12 hB h0 (Or.inl h0) ro_46 rfl (j := 24) rfl (th_sI (by decide) (by decide)) (by decide) rfl narrow_b0 rfl kf_X12_291 dX12_tells_132 (fun H132 locs hB hf hst132 => ?_)
            have mm33 := (th_F_o hf h0 ro_46 (j := 23) (by decide) (by decide)).trans g122_3
            have hR := th_RE_F hB.1 hR h0 hf (th_T_s h0 ro_46 hst132) (by decide)
            have fv_H132_22 : mo_f G H132 a0 22 = mo_f G H122 a0 22 := mo_f_F hf h0 (by decide) (by decide)
            have fv_H132_23 : mo_f G H132 a0 23 = mo_f G H122 a0 23 := mo_f_F hf h0 (by decide) (by decide)
            have fv_H132_25 : mo_f G H132 a0 25 = mo_f G H122 a0 25 := mo_f_F hf h0 (by decide) (by decide)
            have vv_H132_2 : mo_v G H132 a0 2 = mo_v G H122 a0 2 := mo_v_F (r := 48) hB.1 hf h0 rfl ro_48 (by decide) (by decide)
            replace hF := hF.trans (congrArg (dv_k f_X12_tells_71b) (dv_bn (dv_putI hB.1 h0 ro_46 (j := 24) rfl (th_apart hC cf_X12) hst132 tk_0 (by decide))))
            have mm34 := hst132.2.1
            refine lv_aload_n hx hb dX12_tells_135 rfl (lv_at hl 3 rfl) ?_
            refine lv_iconst (v := 4) hx hb dX12_tells_136 (by decide) ?_
            have ce137 : mo_ce G H132 a0 B p2_ = T p2_ := by rw [((mo_ce_T (mo_v_F (r := 48) hB.1 hB.2.2 h0 rfl ro_48 (by decide) (by decide)) (show mo_f G H132 a0 23 = B + n0 by omega)).trans eT.symm)]
            refine th_call (th_runV (As := [.int 4]) (rest := []) hC mf_X12_passes0 km_X12_305 im_X12_passes0 se_X12_passes0 (c_X12_passes0 l G Γ H132 hB.1 hR.1 hU a0 h0 4 (by decide) B p2_ ⟨by omega, by omega, by omega, by omega⟩) rfl rfl ⟨Nat.le_of_ble_eq_true rfl, Nat.le_of_ble_eq_true rfl⟩ hB.1 h0 ro_46 rfl rfl hl.1 rfl (Nat.le_of_ble_eq_true rfl) dX12_tells_137 ⟨Nat.le_refl _, Nat.le_refl _⟩) hB.2.1 (fun v137 H137 locs hp hz hS => ?_)
            have hRD := hR
            obtain ⟨x35, rfl, lx35, ux35, hI1, hf, hR, z137_0, z137_1, z137_2⟩ := hp
            have hR := th_RE_c hR hRD hI1 h0 hf (by decide)
            have hB := th_B_c hB hI1 hS hf (by decide)
            have mm36 := (th_F_o hf h0 ro_46 (j := 23) (by decide) (by decide)).trans mm33
            have mm37 := (th_F_o hf h0 ro_46 (j := 24) (by decide) (by decide)).trans mm34
            have fv_H137_23 : mo_f G H137 a0 23 = mo_f G H132 a0 23 := mo_f_F hf h0 (by decide) (by decide)
            have fv_H137_25 : mo_f G H137 a0 25 = mo_f G H132 a0 25 := mo_f_F hf h0 (by decide) (by decide)
            have vv_H137_2 : mo_v G H137 a0 2 = mo_v G H132 a0 2 := mo_v_F (r := 48) hB.1 hf h0 rfl ro_48 (by decide) (by decide)
            have zf137 := z137_2
            rw [tk_4] at zf137
            replace hF := hF.trans (congrArg (dv_k f_X12_tells_71b) (dv_bn2 (zf137)))
            refine W.eq (g2 := F0 m 140 ls [.int x35]) rfl ?_
            have tk4 := tk_4
            
            
            have jn156 : ∀ (H156 : Heap) (locs : List Loc) (ls : Array Slot) (s156_0 : Int32), th_B G Γ Γ [(46, 22), (46, 24), (58, 0), (46, 23), (46, 25)] H0 H156 locs → th_RE a0 G Γ H156 → lv_has ls 14 [(12, .int x32), (10, .long s122_0), (9, .int x23), (0, .ref a0), (1, .int p1), (5, .int p5), (7, .long j71_7)] → F = dv_k f_X12_tells_71b (f_X12_tells_156 (dv G Γ H156) (x32.toInt) (s122_0.toInt) (x23.toInt) ((a0 : Int)) (p1.toInt) (p5.toInt) (j71_7.toInt) (s156_0.toInt)) → 0 ≤ s156_0.toInt → s156_0.toInt ≤ 1 → mo_f G H156 a0 22 = B + m1 → mo_f G H156 a0 23 = B + n0 → mo_f G H156 a0 25 = 0 → th_sl H156 a0 (G.1.2 12 23) = .int x14 → W p l e ({ frames := 50, cells := 0, slots := 0, locals := 1594 } : Room) s m ([.ref a0, .int p1, .int p2, .int p3, .int p4, .int p5, .int p6] : List Value).toArray below meth c H156 locs 0 0 (MQ below (th_Q (fun (v : Option Value) (H1 : Heap) => ∃ r : Int32, v = some (.int r) ∧ 0 ≤ r.toInt ∧ r.toInt ≤ 99 ∧ th_I G Γ H1 ∧ th_F G Γ [(46, 22), (46, 24), (58, 0), (46, 23), (46, 25)] H0 H1 ∧ th_RE a0 G Γ H1 ∧ (f_X12_tells (dv G Γ H0) (a0 : Int) p1.toInt p2.toInt p3.toInt p4.toInt p5.toInt p6.toInt = (dv G Γ H1, r.toInt))) G) ([.ref a0, .int p1, .int p2, .int p3, .int p4, .int p5, .int p6] : List Value).toArray s 0 0 (fun q => G.2.2 ≤ q)) (F0 m 156 ls [.int s156_0]) := by
              intro H156 locs ls s156_0 hB hR hl hF g156_0 g156_1 g156_2 g156_3 g156_4 g156_5
              have ls156_0 := ti_lo s156_0; have us156_0 := ti_hi s156_0
              have vw_H156_2 : mo_v G H156 a0 2 = mo_v G H0 a0 2 := mo_v_F (r := 48) hB.1 hB.2.2 h0 rfl ro_48 (by decide) (by decide)
              replace hF := hF.trans (congrArg (dv_k f_X12_tells_71b) (f_X12_tells_156.eq_1 (dv G Γ H156) (x32.toInt) (s122_0.toInt) (x23.toInt) ((a0 : Int)) (p1.toInt) (p5.toInt) (j71_7.toInt) (s156_0.toInt)))
              refine lv_istore (lv' := [(13, .int s156_0), (12, .int x32), (10, .long s122_0), (9, .int x23), (0, .ref a0), (1, .int p1), (5, .int p5), (7, .long j71_7)]) hx hb dX12_tells_156 hl (by decide) rfl (fun ls hl => ?_)
              refine lv_iload hx hb dX12_tells_158 (lv_at hl 3 rfl) ?_
              refine lv_iload_n hx hb dX12_tells_160 rfl (lv_at hl 5 rfl) ?_
              have jn211 : ∀ (locs : List Loc) (ls : Array Slot) (j211_7 : Int64), th_B G Γ Γ [(46, 22), (46, 24), (58, 0), (46, 23), (46, 25)] H0 H156 locs → lv_has ls 14 [(0, .ref a0), (1, .int p1), (5, .int p5), (7, .long j211_7)] → F = dv_k f_X12_tells_71b (f_X12_tells_211 (dv G Γ H156) ((a0 : Int)) (p1.toInt) (p5.toInt) (j211_7.toInt)) → (0 ≤ j211_7.toInt ∧ j211_7.toInt ≤ 99) → W p l e ({ frames := 50, cells := 0, slots := 0, locals := 1594 } : Room) s m ([.ref a0, .int p1, .int p2, .int p3, .int p4, .int p5, .int p6] : List Value).toArray below meth c H156 locs 0 0 (MQ below (th_Q (fun (v : Option Value) (H1 : Heap) => ∃ r : Int32, v = some (.int r) ∧ 0 ≤ r.toInt ∧ r.toInt ≤ 99 ∧ th_I G Γ H1 ∧ th_F G Γ [(46, 22), (46, 24), (58, 0), (46, 23), (46, 25)] H0 H1 ∧ th_RE a0 G Γ H1 ∧ (f_X12_tells (dv G Γ H0) (a0 : Int) p1.toInt p2.toInt p3.toInt p4.toInt p5.toInt p6.toInt = (dv G Γ H1, r.toInt))) G) ([.ref a0, .int p1, .int p2, .int p3, .int p4, .int p5, .int p6] : List Value).toArray s 0 0 (fun q => G.2.2 ≤ q)) (F0 m 211 ls []) := by
                intro locs ls j211_7 hB hl hF g211_0
                replace hF := hF.trans (congrArg (dv_k f_X12_tells_71b) (f_X12_tells_211.eq_1 (dv G Γ H156) ((a0 : Int)) (p1.toInt) (p5.toInt) (j211_7.toInt)))
                refine lv_aload_n hx hb dX12_tells_211 rfl (lv_at hl 0 rfl) ?_
                refine lv_dup hx hb dX12_tells_212 rfl ?_
                refine th_getI (j := 22) hC cf_X12 hB.1 h0 ro_46 rfl rfl kf_X12_281 dX12_tells_213 (fun x38 mx38 lx38 ux38 => ?_)
                replace hF := hF.trans (congrArg (dv_k f_X12_tells_71b) (dv_bn (dv_getI h0 ro_46 (j := 22) rfl mx38 (by decide))))
                have fg39 : mo_f G H156 a0 22 = x38.toInt := mo_fat mx38
                refine lv_iconst (v := 1) hx hb dX12_tells_216 (by decide) ?_
                refine tr_iadd hx hb dX12_tells_217 (Eq.refl _) tk_1 (by omega) (by omega) (fun x40 ex40 => ?_)
                replace hF := hF.trans (congrArg (dv_k f_X12_tells_71b) (dv_bn (ex40.symm)))
                refine th_put hC cf_X12 hB h0 (Or.inl h0) ro_46 rfl (j := 22) rfl th_sIa (by decide) rfl rfl rfl kf_X12_281 dX12_tells_218 (fun H218 locs hB hf hst218 => ?_)
                have mm41 := (th_F_o hf h0 ro_46 (j := 23) (by decide) (by decide)).trans g156_5
                have hR := th_RE_F hB.1 hR h0 hf (th_T_s h0 ro_46 hst218) (by decide)
                have fv_H218_23 : mo_f G H218 a0 23 = mo_f G H156 a0 23 := mo_f_F hf h0 (by decide) (by decide)
                have fv_H218_25 : mo_f G H218 a0 25 = mo_f G H156 a0 25 := mo_f_F hf h0 (by decide) (by decide)
                have vv_H218_2 : mo_v G H218 a0 2 = mo_v G H156 a0 2 := mo_v_F (r := 48) hB.1 hf h0 rfl ro_48 (by decide) (by decide)
                replace hF := hF.trans (congrArg (dv_k f_X12_tells_71b) (dv_bn (dv_putI hB.1 h0 ro_46 (j := 22) rfl (th_apart hC cf_X12) hst218 (Eq.refl _) (by decide))))
                have fp218 : mo_f G H218 a0 22 = x40.toInt := mo_f_St hst218
                have mm42 := hst218.2.1
                refine lv_goto (tgt := 71) hx hb dX12_tells_221 (by decide) ?_
                replace hF := hF.trans (dv_kl)
                exact ih71 H218 locs ls j211_7 hB hR (lv_sub hl [0, 1, 2, 3] rfl) hF ⟨m1 + 1, by omega, by omega, by rcases r1 with ⟨q9, -⟩ | ⟨-, q9⟩; exact Or.inl (by omega); exact Or.inr q9⟩ (by omega) (by omega) (by have l0 : (0 : Int64).toInt = 0 := rfl; first | omega | decide) mm41 (by omega)
              refine tr_icmp_ne (tgt := 211) hx hb dX12_tells_161 (by decide) (Eq.refl _) (Eq.refl _) (fun c161 => ?_) (fun c161 => ?_)
              · replace hF := hF.trans (congrArg (dv_k f_X12_tells_71b) (if_pos c161))
                exact jn211 locs ls j71_7 hB (lv_sub hl [4, 5, 6, 7] rfl) hF (by have l0 : (0 : Int64).toInt = 0 := rfl; first | omega | decide)
              · replace hF := hF.trans (congrArg (dv_k f_X12_tells_71b) (if_neg (not_not_intro c161)))
                refine lv_iload hx hb dX12_tells_164 (lv_at hl 0 rfl) ?_
                refine tr_if_eq (tgt := 211) hx hb dX12_tells_166 (by decide) (Eq.refl _) (fun c166 => ?_) (fun c166 => ?_)
                · replace hF := hF.trans (congrArg (dv_k f_X12_tells_71b) (if_pos c166))
                  exact jn211 locs ls j71_7 hB (lv_sub hl [4, 5, 6, 7] rfl) hF (by have l0 : (0 : Int64).toInt = 0 := rfl; first | omega | decide)
                · replace hF := hF.trans (congrArg (dv_k f_X12_tells_71b) (if_neg c166))
                  refine lv_aload_n hx hb dX12_tells_169 rfl (lv_at hl 4 rfl) ?_
                  refine th_getI (j := 24) hC cf_X12 hB.1 h0 ro_46 rfl rfl kf_X12_291 dX12_tells_170 (fun x43 mx43 lx43 ux43 => ?_)
                  replace hF := hF.trans (congrArg (dv_k f_X12_tells_71b) (dv_bn (dv_getI h0 ro_46 (j := 24) rfl mx43 (by decide))))
                  refine tr_if_ne (tgt := 211) hx hb dX12_tells_173 (by decide) (Eq.refl _) (fun c173 => ?_) (fun c173 => ?_)
                  · replace hF := hF.trans (congrArg (dv_k f_X12_tells_71b) (if_pos c173))
                    exact jn211 locs ls j71_7 hB (lv_sub hl [4, 5, 6, 7] rfl) hF (by have l0 : (0 : Int64).toInt = 0 := rfl; first | omega | decide)
                  · replace hF := hF.trans (congrArg (dv_k f_X12_tells_71b) (if_neg (not_not_intro c173)))
                    refine lv_iload hx hb dX12_tells_176 (lv_at hl 1 rfl) ?_
                    refine tr_if_ne (tgt := 211) hx hb dX12_tells_178 (by decide) (Eq.refl _) (fun c178 => ?_) (fun c178 => ?_)
                    · replace hF := hF.trans (congrArg (dv_k f_X12_tells_71b) (if_pos c178))
                      exact jn211 locs ls j71_7 hB (lv_sub hl [4, 5, 6, 7] rfl) hF (by have l0 : (0 : Int64).toInt = 0 := rfl; first | omega | decide)
                    · replace hF := hF.trans (congrArg (dv_k f_X12_tells_71b) (if_neg (not_not_intro c178)))
                      refine lv_lload hx hb dX12_tells_181 (lv_at hl 2 rfl) ?_
                      refine lv_lconst (v := 0) hx hb dX12_tells_183 rfl ?_
                      refine tr_lcmp2 hx hb dX12_tells_184 (fun x44 fx44 gx44 ix44 => ?_)
                      replace hF := hF.trans (congrArg (dv_k f_X12_tells_71b) (dv_bn (dv_lcmp_e (Eq.refl (s122_0.toInt)) (rfl : (0 : Int64).toInt = 0) fx44 ix44)))
                      refine tr_if_ge (tgt := 192) hx hb dX12_tells_185 (by decide) (Eq.refl _) (fun c185 => ?_) (fun c185 => ?_)
                      · replace hF := hF.trans (congrArg (dv_k f_X12_tells_71b) (if_pos c185))
                        refine lv_lload hx hb dX12_tells_192 (lv_at hl 2 rfl) ?_
                        refine lv_iload hx hb dX12_tells_194 (lv_at hl 6 rfl) ?_
                        refine lv_i2l hx hb dX12_tells_196 rfl ?_
                        refine lv_topl (fun y45 ey45 => ?_)
                        replace hF := hF.trans (congrArg (dv_k f_X12_tells_71b) (dv_bn (dv_i2l_e (Eq.refl _) ey45)))
                        have i2y45 := ti_i2l ey45
                        refine tr_lcmp2 hx hb dX12_tells_197 (fun x46 fx46 gx46 ix46 => ?_)
                        replace hF := hF.trans (congrArg (dv_k f_X12_tells_71b) (dv_bn (dv_lcmp_e (Eq.refl (s122_0.toInt)) (Eq.refl (y45.toInt)) fx46 ix46)))
                        refine tr_if_le (tgt := 207) hx hb dX12_tells_198 (by decide) (Eq.refl _) (fun c198 => ?_) (fun c198 => ?_)
                        · replace hF := hF.trans (congrArg (dv_k f_X12_tells_71b) (if_pos c198))
                          refine lv_lload hx hb dX12_tells_207 (lv_at hl 2 rfl) ?_
                          refine lv_lstore (lv' := [(7, .long s122_0), (13, .int s156_0), (12, .int x32), (10, .long s122_0), (9, .int x23), (0, .ref a0), (1, .int p1), (5, .int p5)]) hx hb dX12_tells_209 hl (by decide) rfl (fun ls hl => ?_)
                          exact jn211 locs ls s122_0 hB (lv_sub hl [5, 6, 7, 0] rfl) hF (by have l0 : (0 : Int64).toInt = 0 := rfl; first | omega | decide)
                        · replace hF := hF.trans (congrArg (dv_k f_X12_tells_71b) (if_neg (Int.not_le.mpr c198)))
                          refine lv_iload hx hb dX12_tells_201 (lv_at hl 6 rfl) ?_
                          refine lv_i2l hx hb dX12_tells_203 rfl ?_
                          refine lv_topl (fun y47 ey47 => ?_)
                          replace hF := hF.trans (congrArg (dv_k f_X12_tells_71b) (dv_bn (dv_i2l_e (Eq.refl _) ey47)))
                          have i2y47 := ti_i2l ey47
                          refine lv_goto (tgt := 209) hx hb dX12_tells_204 (by decide) ?_
                          refine lv_lstore (lv' := [(7, .long y47), (13, .int s156_0), (12, .int x32), (10, .long s122_0), (9, .int x23), (0, .ref a0), (1, .int p1), (5, .int p5)]) hx hb dX12_tells_209 hl (by decide) rfl (fun ls hl => ?_)
                          exact jn211 locs ls y47 hB (lv_sub hl [5, 6, 7, 0] rfl) hF (by have l0 : (0 : Int64).toInt = 0 := rfl; first | omega | decide)
                      · replace hF := hF.trans (congrArg (dv_k f_X12_tells_71b) (if_neg (Int.not_le.mpr c185)))
                        refine lv_lconst (v := 0) hx hb dX12_tells_188 rfl ?_
                        refine lv_goto (tgt := 209) hx hb dX12_tells_189 (by decide) ?_
                        refine lv_lstore (lv' := [(7, .long 0), (13, .int s156_0), (12, .int x32), (10, .long s122_0), (9, .int x23), (0, .ref a0), (1, .int p1), (5, .int p5)]) hx hb dX12_tells_209 hl (by decide) rfl (fun ls hl => ?_)
                        exact jn211 locs ls 0 hB (lv_sub hl [5, 6, 7, 0] rfl) (by rw [show (0 : Int64).toInt = 0 from rfl]; exact hF) (by have l0 : (0 : Int64).toInt = 0 := rfl; first | omega | decide)
            have jn151 : ∀ (H151 : Heap) (locs : List Loc) (ls : Array Slot) , th_B G Γ Γ [(46, 22), (46, 24), (58, 0), (46, 23), (46, 25)] H0 H151 locs → th_RE a0 G Γ H151 → lv_has ls 14 [(12, .int x32), (10, .long s122_0), (9, .int x23), (0, .ref a0), (1, .int p1), (5, .int p5), (7, .long j71_7)] → F = dv_k f_X12_tells_71b (f_X12_tells_151 (dv G Γ H151) (x32.toInt) (s122_0.toInt) (x23.toInt) ((a0 : Int)) (p1.toInt) (p5.toInt) (j71_7.toInt)) → mo_f G H151 a0 22 = B + m1 → mo_f G H151 a0 23 = B + n0 → mo_f G H151 a0 25 = 0 → th_sl H151 a0 (G.1.2 12 23) = .int x14 → W p l e ({ frames := 50, cells := 0, slots := 0, locals := 1594 } : Room) s m ([.ref a0, .int p1, .int p2, .int p3, .int p4, .int p5, .int p6] : List Value).toArray below meth c H151 locs 0 0 (MQ below (th_Q (fun (v : Option Value) (H1 : Heap) => ∃ r : Int32, v = some (.int r) ∧ 0 ≤ r.toInt ∧ r.toInt ≤ 99 ∧ th_I G Γ H1 ∧ th_F G Γ [(46, 22), (46, 24), (58, 0), (46, 23), (46, 25)] H0 H1 ∧ th_RE a0 G Γ H1 ∧ (f_X12_tells (dv G Γ H0) (a0 : Int) p1.toInt p2.toInt p3.toInt p4.toInt p5.toInt p6.toInt = (dv G Γ H1, r.toInt))) G) ([.ref a0, .int p1, .int p2, .int p3, .int p4, .int p5, .int p6] : List Value).toArray s 0 0 (fun q => G.2.2 ≤ q)) (F0 m 151 ls []) := by
              intro H151 locs ls hB hR hl hF g151_0 g151_1 g151_2 g151_3
              have vw_H151_2 : mo_v G H151 a0 2 = mo_v G H0 a0 2 := mo_v_F (r := 48) hB.1 hB.2.2 h0 rfl ro_48 (by decide) (by decide)
              replace hF := hF.trans (congrArg (dv_k f_X12_tells_71b) (f_X12_tells_151.eq_1 (dv G Γ H151) (x32.toInt) (s122_0.toInt) (x23.toInt) ((a0 : Int)) (p1.toInt) (p5.toInt) (j71_7.toInt)))
              refine lv_iconst (v := 1) hx hb dX12_tells_151 (by decide) ?_
              refine lv_goto (tgt := 156) hx hb dX12_tells_152 (by decide) ?_
              exact jn156 H151 locs ls 1 hB hR (lv_sub hl [0, 1, 2, 3, 4, 5, 6] rfl) (by rw [tk_1]; exact hF) (by decide) (by decide) (by first | omega | (rcases if2 with ⟨q9, -⟩ | ⟨-, q9⟩; exact absurd q9 (by omega); omega)) (by have w0 := tk_1; omega) (by have w0 := tk_1; omega) g151_3
            refine tr_if_eq (tgt := 151) hx hb dX12_tells_140 (by decide) (Eq.refl _) (fun c140 => ?_) (fun c140 => ?_)
            · replace hF := hF.trans (congrArg (dv_k f_X12_tells_71b) (if_pos c140))
              exact jn151 H137 locs ls hB hR (lv_sub hl [0, 1, 2, 3, 4, 5, 6] rfl) hF (by first | omega | (rcases if2 with ⟨q9, -⟩ | ⟨-, q9⟩; exact absurd q9 (by omega); omega)) (by omega) (by omega) mm36
            · replace hF := hF.trans (congrArg (dv_k f_X12_tells_71b) (if_neg c140))
              refine lv_aload_n hx hb dX12_tells_143 rfl (lv_at hl 3 rfl) ?_
              refine lv_iconst (v := 1) hx hb dX12_tells_144 (by decide) ?_
              have ts : mo_test 0 T 8 (p2_ + 1) m1 := by rcases if2 with ⟨-, q9⟩ | ⟨q9, -⟩; exact q9; exact absurd (show T p2_ = 4 by omega) q9
              refine th_call (th_runV (As := [.int 1]) (rest := []) hC mf_X12_testOf km_X12_335 im_X12_testOf se_X12_testOf (c_X12_testOf_d 8 l G Γ H137 hB.1 hR.1 hU a0 h0 1 (by decide) (by decide) B (p2_ + 1) m1 ⟨by omega, by omega, by omega, by omega⟩ (by rw [((mo_ce_T (mo_v_F (r := 48) hB.1 hB.2.2 h0 rfl ro_48 (by decide) (by decide)) (show mo_f G H137 a0 23 = B + n0 by omega)).trans eT.symm), show mo_f G H137 a0 25 = 0 by omega]; exact ts)) rfl rfl ⟨Nat.le_of_ble_eq_true rfl, Nat.le_of_ble_eq_true rfl⟩ hB.1 h0 ro_46 rfl rfl hl.1 rfl (Nat.le_of_ble_eq_true rfl) dX12_tells_145 ⟨Nat.le_refl _, Nat.le_refl _⟩) hB.2.1 (fun v145 H145 locs hp hz hS => ?_)
              have hRD := hR
              obtain ⟨x48, rfl, lx48, ux48, hI1, hf, hR, z145_0, z145_1⟩ := hp
              have hR := th_RE_c hR hRD hI1 h0 hf (by decide)
              have hB := th_B_c hB hI1 hS hf (by decide)
              have mm49 := (th_F_o hf h0 ro_46 (j := 23) (by decide) (by decide)).trans mm36
              have fv_H145_23 : mo_f G H145 a0 23 = mo_f G H137 a0 23 := mo_f_F hf h0 (by decide) (by decide)
              have fv_H145_25 : mo_f G H145 a0 25 = mo_f G H137 a0 25 := mo_f_F hf h0 (by decide) (by decide)
              have vv_H145_2 : mo_v G H145 a0 2 = mo_v G H137 a0 2 := mo_v_F (r := 48) hB.1 hf h0 rfl ro_48 (by decide) (by decide)
              have zf145 := z145_1
              rw [tk_1] at zf145
              replace hF := hF.trans (congrArg (dv_k f_X12_tells_71b) (dv_bn2 (zf145)))
              refine W.eq (g2 := F0 m 148 ls [.int x48]) rfl ?_
              refine tr_if_eq (tgt := 155) hx hb dX12_tells_148 (by decide) (Eq.refl _) (fun c148 => ?_) (fun c148 => ?_)
              · replace hF := hF.trans (congrArg (dv_k f_X12_tells_71b) (if_pos c148))
                refine lv_iconst (v := 0) hx hb dX12_tells_155 (by decide) ?_
                exact jn156 H145 locs ls 0 hB hR (lv_sub hl [0, 1, 2, 3, 4, 5, 6] rfl) (by rw [tk_0]; exact hF) (by decide) (by decide) (by first | omega | (rcases if2 with ⟨q9, -⟩ | ⟨-, q9⟩; exact absurd q9 (by omega); omega)) (by have w0 := tk_0; omega) (by have w0 := tk_0; omega) mm49
              · replace hF := hF.trans (congrArg (dv_k f_X12_tells_71b) (if_neg c148))
                exact jn151 H145 locs ls hB hR (lv_sub hl [0, 1, 2, 3, 4, 5, 6] rfl) hF (by first | omega | (rcases if2 with ⟨q9, -⟩ | ⟨-, q9⟩; exact absurd q9 (by omega); omega)) (by omega) (by omega) mm49
          refine tr_icmp_ne (tgt := 117) hx hb dX12_tells_110 (by decide) (Eq.refl _) tk_3 (fun c110 => ?_) (fun c110 => ?_)
          · replace hF := hF.trans (congrArg (dv_k f_X12_tells_71b) (if_pos c110))
            refine lv_aload_n hx hb dX12_tells_117 rfl (lv_at hl 1 rfl) ?_
            refine lv_iconst (v := 1) hx hb dX12_tells_118 (by decide) ?_
            obtain ⟨p1_, sm, if1⟩ : ∃ p, mo_sum 0 T 8 (m6 + 1) p ∧ mo_if 0 T p m1 := by rcases cl with ⟨-, q9⟩ | ⟨q9, -⟩; exact q9; exact absurd q9 (by omega)
            have lt3 := mo_sum_lt _ _ _ _ _ sm
            have le3 := mo_if_le if1
            refine th_call (th_runV (As := [.int 1]) (rest := []) hC mf_X12_sumOf km_X12_308 im_X12_sumOf se_X12_sumOf (c_X12_sumOf_d 8 l G Γ H104 hB.1 hR.1 hU a0 h0 1 (by decide) (by decide) B (m6 + 1) p1_ ⟨by omega, by omega, by omega, by omega⟩ (by rw [((mo_ce_T (mo_v_F (r := 48) hB.1 hB.2.2 h0 rfl ro_48 (by decide) (by decide)) (show mo_f G H104 a0 23 = B + n0 by omega)).trans eT.symm), show mo_f G H104 a0 25 = 0 by omega]; exact sm)) rfl rfl ⟨Nat.le_of_ble_eq_true rfl, Nat.le_of_ble_eq_true rfl⟩ hB.1 h0 ro_46 rfl rfl hl.1 rfl (Nat.le_of_ble_eq_true rfl) dX12_tells_119 ⟨Nat.le_refl _, Nat.le_refl _⟩) hB.2.1 (fun v119 H119 locs hp hz hS => ?_)
            have hRD := hR
            obtain ⟨y50, rfl, hI1, hf, hR, z119_0, z119_1⟩ := hp
            have hR := th_RE_c hR hRD hI1 h0 hf (by decide)
            have hB := th_B_c hB hI1 hS hf (by decide)
            have mm51 := (th_F_o hf h0 ro_46 (j := 23) (by decide) (by decide)).trans mm29
            have fv_H119_23 : mo_f G H119 a0 23 = mo_f G H104 a0 23 := mo_f_F hf h0 (by decide) (by decide)
            have fv_H119_25 : mo_f G H119 a0 25 = mo_f G H104 a0 25 := mo_f_F hf h0 (by decide) (by decide)
            have vv_H119_2 : mo_v G H119 a0 2 = mo_v G H104 a0 2 := mo_v_F (r := 48) hB.1 hf h0 rfl ro_48 (by decide) (by decide)
            have zf119 := z119_1
            rw [tk_1] at zf119
            replace hF := hF.trans (congrArg (dv_k f_X12_tells_71b) (dv_bn2 (zf119)))
            refine W.eq (g2 := F0 m 122 ls [.long y50]) rfl ?_
            exact jn122 H119 locs ls y50 hB hR (lv_sub hl [0, 1, 2, 3, 4] rfl) hF ⟨p1_, by omega, by omega, if1⟩ (by omega) (by omega) mm51
          · replace hF := hF.trans (congrArg (dv_k f_X12_tells_71b) (if_neg (not_not_intro c110)))
            refine lv_lconst (v := 1) hx hb dX12_tells_113 rfl ?_
            refine lv_goto (tgt := 122) hx hb dX12_tells_114 (by decide) ?_
            exact jn122 H104 locs ls 1 hB hR (lv_sub hl [0, 1, 2, 3, 4] rfl) (by rw [show (1 : Int64).toInt = 1 from rfl]; exact hF) ⟨m6 + 1, by omega, by omega, by rcases cl with ⟨q9, -⟩ | ⟨-, q9⟩; exact absurd q9 (by omega); exact q9⟩ (by omega) (by omega) mm29
    exact lp71 ((B + n0 + 3 - mo_f G H68 a0 22)).toNat H68 locs ls y5 hB hR (lv_sub hl [1, 2, 6, 0] rfl) hF ⟨0, by omega, by omega, Or.inr tx.2⟩ (by omega) (by omega) (by have l0 : (0 : Int64).toInt = 0 := rfl; first | omega | decide) mm17 (by omega)
  · replace hF := hF.trans (if_neg (not_not_intro c8))
    refine lv_iload hx hb dX12_tells_11 (lv_at hl 6 rfl) ?_
    exact th_iret hC hH hr hlocks rfl hB.2.1 ⟨_, rfl, by omega, by omega, hB.1, hB.2.2, hR, (hF0.symm.trans hF)⟩ dX12_tells_13

set_option maxHeartbeats 4000000 in
set_option maxRecDepth 100000 in
theorem c_X12_costsAt (l : Launch) (G : th_G) (Γ : th_Ga) (H0 : Heap) (hI : th_I G Γ H0) (hU : dv_U Γ) (a0 : Nat) (h0 : Γ a0 = (46, 0)) (hR : th_RE a0 G Γ H0) (p1 : Int32) (f1 : 0 ≤ p1.toInt) (g1 : p1.toInt ≤ 8) (p2 : Int32) (p3 : Int32) : Met l yX12_costsAt (.code yX12_costsAt cX12_costsAt 4 (some FieldType.int) :: th_tb) ({ frames := 51, cells := 0, slots := 0, locals := 1627 } : Room) (th_P [.ref a0, .int p1, .int p2, .int p3] G H0) (th_Q (fun (v : Option Value) (H1 : Heap) => ∃ r : Int32, v = some (.int r) ∧ 0 ≤ r.toInt ∧ r.toInt ≤ 99 ∧ th_I G Γ H1 ∧ th_F G Γ [(46, 22), (46, 24), (58, 0), (46, 23), (46, 25)] H0 H1 ∧ th_RE a0 G Γ H1 ∧ (f_X12_costsAt (dv G Γ H0) (a0 : Int) p1.toInt p2.toInt p3.toInt = (dv G Γ H1, r.toInt))) G) 0 0 (fun q => G.2.2 ≤ q) := by
  refine th_met RX12 (by decide) rfl (Nat.le_of_ble_eq_true rfl) ?_
  intro p e s m below meth c hC hH hr hlocks hnm ls hl
  have hx := hC.1
  have hb := hC.2.1
  have hB : th_B G Γ Γ [(46, 22), (46, 24), (58, 0), (46, 23), (46, 25)] H0 H0 [] := ⟨hI, va_S.rf, th_F_rf⟩
  have hl : lv_has ls 4 [(0, .ref a0), (1, .int p1), (2, .int p2), (3, .int p3)] := hl
  have lp1 := ti_lo p1; have up1 := ti_hi p1
  have lp2 := ti_lo p2; have up2 := ti_hi p2
  have lp3 := ti_lo p3; have up3 := ti_hi p3
  obtain ⟨F, hF0⟩ : ∃ F, F = f_X12_costsAt (dv G Γ H0) ((a0 : Int)) (p1.toInt) (p2.toInt) (p3.toInt) := ⟨_, rfl⟩
  have hF := hF0.trans (f_X12_costsAt.eq_1 (dv G Γ H0) ((a0 : Int)) (p1.toInt) (p2.toInt) (p3.toInt))
  refine lv_aload_n hx hb dX12_costsAt_0 rfl (lv_at hl 0 rfl) ?_
  refine lv_iconst (v := 1) hx hb dX12_costsAt_1 (by decide) ?_
  refine lv_iload_n hx hb dX12_costsAt_2 rfl (lv_at hl 1 rfl) ?_
  refine lv_iload_n hx hb dX12_costsAt_3 rfl (lv_at hl 2 rfl) ?_
  refine lv_iload_n hx hb dX12_costsAt_4 rfl (lv_at hl 3 rfl) ?_
  refine lv_bipush (v := 99) hx hb dX12_costsAt_5 (by decide) ?_
  refine lv_aload_n hx hb dX12_costsAt_7 rfl (lv_at hl 0 rfl) ?_
  refine th_getO (j := 2) (r2 := 48) hC cf_X12 hB.1 h0 ro_46 rfl rfl kf_X12_28 dX12_costsAt_8 (fun b1 mb1 hb1 => ?_)
  refine lv_bipush (v := 29) hx hb dX12_costsAt_11 (by decide) ?_
  refine lv_iload_n hx hb dX12_costsAt_13 rfl (lv_at hl 1 rfl) ?_
  refine tr_iadd hx hb dX12_costsAt_14 tk_29 (Eq.refl _) (by omega) (by omega) (fun x2 ex2 => ?_)
  replace hF := hF.trans (dv_bn (ex2.symm))
  refine th_ialdF hC hB.1 hb1 ro_48 rfl (Eq.refl _) (by omega) (by omega) (ek_side (by omega) (by omega)) dX12_costsAt_15 (fun x3 mx3 lx3 ux3 => ?_)
  replace hF := hF.trans (dv_bn (dv_aldI hB.1 hU hb1 ow_48 (z := x2.toInt) mx3 (by omega)))
  refine th_call (th_runV (As := [.int 1, .int p1, .int p2, .int p3, .int 99, .int x3]) (rest := []) hC mf_X12_tells km_X12_341 im_X12_tells se_X12_tells (c_X12_tells l G Γ H0 hB.1 hU a0 h0 hR 1 p1 (by omega) (by omega) p2 p3 99 (by decide) (by decide) x3 (by omega) (by omega)) rfl rfl ⟨Nat.le_of_ble_eq_true rfl, Nat.le_of_ble_eq_true rfl⟩ hB.1 h0 ro_46 rfl rfl hl.1 rfl (Nat.le_of_ble_eq_true rfl) dX12_costsAt_16 ⟨Nat.le_refl _, Nat.le_refl _⟩) hB.2.1 (fun v16 H16 locs hp hz hS => ?_)
  obtain ⟨x4, rfl, lx4, ux4, hI1, hf, hR, z16_0⟩ := hp
  have hB := th_B_c hB hI1 hS hf (by decide)
  have zf16 := z16_0
  rw [tk_1, tk_99] at zf16
  replace hF := hF.trans (dv_bn2 (zf16))
  refine W.eq (g2 := F0 m 19 ls [.int x4]) rfl ?_
  exact th_iret hC hH hr hlocks rfl hB.2.1 ⟨_, rfl, by omega, by omega, hB.1, hB.2.2, hR, (hF0.symm.trans hF)⟩ dX12_costsAt_19

set_option maxHeartbeats 4000000 in
set_option maxRecDepth 100000 in
theorem c_X12_isBarred (l : Launch) (G : th_G) (Γ : th_Ga) (H0 : Heap) (hI : th_I G Γ H0) (hU : dv_U Γ) (a0 : Nat) (h0 : Γ a0 = (46, 0)) (hR : th_RE a0 G Γ H0) (p1 : Int32) (f1 : 0 ≤ p1.toInt) (g1 : p1.toInt ≤ 8) (p2 : Int32) (p3 : Int32) : Met l yX12_isBarred (.code yX12_isBarred cX12_isBarred 4 (some FieldType.boolean) :: th_tb) ({ frames := 51, cells := 0, slots := 0, locals := 1627 } : Room) (th_P [.ref a0, .int p1, .int p2, .int p3] G H0) (th_Q (fun (v : Option Value) (H1 : Heap) => ∃ r : Int32, v = some (.int r) ∧ 0 ≤ r.toInt ∧ r.toInt ≤ 1 ∧ th_I G Γ H1 ∧ th_F G Γ [(46, 22), (46, 24), (58, 0), (46, 23), (46, 25)] H0 H1 ∧ th_RE a0 G Γ H1 ∧ (f_X12_isBarred (dv G Γ H0) (a0 : Int) p1.toInt p2.toInt p3.toInt = (dv G Γ H1, r.toInt))) G) 0 0 (fun q => G.2.2 ≤ q) := by
  refine th_met RX12 (by decide) rfl (Nat.le_of_ble_eq_true rfl) ?_
  intro p e s m below meth c hC hH hr hlocks hnm ls hl
  have hx := hC.1
  have hb := hC.2.1
  have hB : th_B G Γ Γ [(46, 22), (46, 24), (58, 0), (46, 23), (46, 25)] H0 H0 [] := ⟨hI, va_S.rf, th_F_rf⟩
  have hl : lv_has ls 4 [(0, .ref a0), (1, .int p1), (2, .int p2), (3, .int p3)] := hl
  have lp1 := ti_lo p1; have up1 := ti_hi p1
  have lp2 := ti_lo p2; have up2 := ti_hi p2
  have lp3 := ti_lo p3; have up3 := ti_hi p3
  obtain ⟨F, hF0⟩ : ∃ F, F = f_X12_isBarred (dv G Γ H0) ((a0 : Int)) (p1.toInt) (p2.toInt) (p3.toInt) := ⟨_, rfl⟩
  have hF := hF0.trans (f_X12_isBarred.eq_1 (dv G Γ H0) ((a0 : Int)) (p1.toInt) (p2.toInt) (p3.toInt))
  refine lv_aload_n hx hb dX12_isBarred_0 rfl (lv_at hl 0 rfl) ?_
  refine lv_iconst (v := 3) hx hb dX12_isBarred_1 (by decide) ?_
  refine lv_iload_n hx hb dX12_isBarred_2 rfl (lv_at hl 1 rfl) ?_
  refine lv_iload_n hx hb dX12_isBarred_3 rfl (lv_at hl 2 rfl) ?_
  refine lv_iload_n hx hb dX12_isBarred_4 rfl (lv_at hl 3 rfl) ?_
  refine lv_iconst (v := 1) hx hb dX12_isBarred_5 (by decide) ?_
  refine lv_iconst (v := 0) hx hb dX12_isBarred_6 (by decide) ?_
  refine th_call (th_runV (As := [.int 3, .int p1, .int p2, .int p3, .int 1, .int 0]) (rest := []) hC mf_X12_tells km_X12_341 im_X12_tells se_X12_tells (c_X12_tells l G Γ H0 hB.1 hU a0 h0 hR 3 p1 (by omega) (by omega) p2 p3 1 (by decide) (by decide) 0 (by decide) (by decide)) rfl rfl ⟨Nat.le_of_ble_eq_true rfl, Nat.le_of_ble_eq_true rfl⟩ hB.1 h0 ro_46 rfl rfl hl.1 rfl (Nat.le_of_ble_eq_true rfl) dX12_isBarred_7 ⟨Nat.le_refl _, Nat.le_refl _⟩) hB.2.1 (fun v7 H7 locs hp hz hS => ?_)
  obtain ⟨x1, rfl, lx1, ux1, hI1, hf, hR, z7_0⟩ := hp
  have hB := th_B_c hB hI1 hS hf (by decide)
  have zf7 := z7_0
  rw [tk_3, tk_1, tk_0] at zf7
  replace hF := hF.trans (dv_bn2 (zf7))
  refine W.eq (g2 := F0 m 10 ls [.int x1]) rfl ?_
  refine lv_iconst (v := 1) hx hb dX12_isBarred_10 (by decide) ?_
  refine tr_icmp_ne (tgt := 18) hx hb dX12_isBarred_11 (by decide) (Eq.refl _) tk_1 (fun c11 => ?_) (fun c11 => ?_)
  · replace hF := hF.trans (if_pos c11)
    refine lv_iconst (v := 0) hx hb dX12_isBarred_18 (by decide) ?_
    exact th_iret hC hH hr hlocks narrow_b0 hB.2.1 ⟨_, rfl, by decide, by decide, hB.1, hB.2.2, hR, (hF0.symm.trans (hF.trans (by rw [tk_0])))⟩ dX12_isBarred_19
  · replace hF := hF.trans (if_neg (not_not_intro c11))
    refine lv_iconst (v := 1) hx hb dX12_isBarred_14 (by decide) ?_
    refine lv_goto (tgt := 19) hx hb dX12_isBarred_15 (by decide) ?_
    exact th_iret hC hH hr hlocks narrow_b1 hB.2.1 ⟨_, rfl, by decide, by decide, hB.1, hB.2.2, hR, (hF0.symm.trans (hF.trans (by rw [tk_1])))⟩ dX12_isBarred_19

set_option maxHeartbeats 4000000 in
set_option maxRecDepth 100000 in
theorem c_X12_wearsNow (l : Launch) (G : th_G) (Γ : th_Ga) (H0 : Heap) (hI : th_I G Γ H0) (hU : dv_U Γ) (a0 : Nat) (h0 : Γ a0 = (46, 0)) (hR : th_RE a0 G Γ H0) (p1 : Int32) (f1 : 0 ≤ p1.toInt) (g1 : p1.toInt ≤ 8) : Met l yX12_wearsNow (.code yX12_wearsNow cX12_wearsNow 2 (some FieldType.int) :: th_tb) ({ frames := 51, cells := 0, slots := 0, locals := 1627 } : Room) (th_P [.ref a0, .int p1] G H0) (th_Q (fun (v : Option Value) (H1 : Heap) => ∃ r : Int32, v = some (.int r) ∧ 0 ≤ r.toInt ∧ r.toInt ≤ 99 ∧ th_I G Γ H1 ∧ th_F G Γ [(46, 22), (46, 24), (58, 0), (46, 23), (46, 25)] H0 H1 ∧ th_RE a0 G Γ H1 ∧ (f_X12_wearsNow (dv G Γ H0) (a0 : Int) p1.toInt = (dv G Γ H1, r.toInt))) G) 0 0 (fun q => G.2.2 ≤ q) := by
  refine th_met RX12 (by decide) rfl (Nat.le_of_ble_eq_true rfl) ?_
  intro p e s m below meth c hC hH hr hlocks hnm ls hl
  have hx := hC.1
  have hb := hC.2.1
  have hB : th_B G Γ Γ [(46, 22), (46, 24), (58, 0), (46, 23), (46, 25)] H0 H0 [] := ⟨hI, va_S.rf, th_F_rf⟩
  have hl : lv_has ls 2 [(0, .ref a0), (1, .int p1)] := hl
  have lp1 := ti_lo p1; have up1 := ti_hi p1
  obtain ⟨F, hF0⟩ : ∃ F, F = f_X12_wearsNow (dv G Γ H0) ((a0 : Int)) (p1.toInt) := ⟨_, rfl⟩
  have hF := hF0.trans (f_X12_wearsNow.eq_1 (dv G Γ H0) ((a0 : Int)) (p1.toInt))
  refine lv_aload_n hx hb dX12_wearsNow_0 rfl (lv_at hl 0 rfl) ?_
  refine lv_iconst (v := 2) hx hb dX12_wearsNow_1 (by decide) ?_
  refine lv_iload_n hx hb dX12_wearsNow_2 rfl (lv_at hl 1 rfl) ?_
  refine lv_aload_n hx hb dX12_wearsNow_3 rfl (lv_at hl 0 rfl) ?_
  refine th_getO (j := 2) (r2 := 48) hC cf_X12 hB.1 h0 ro_46 rfl rfl kf_X12_28 dX12_wearsNow_4 (fun b1 mb1 hb1 => ?_)
  refine lv_bipush (v := 9) hx hb dX12_wearsNow_7 (by decide) ?_
  refine lv_iload_n hx hb dX12_wearsNow_9 rfl (lv_at hl 1 rfl) ?_
  refine tr_iadd hx hb dX12_wearsNow_10 tk_9 (Eq.refl _) (by omega) (by omega) (fun x2 ex2 => ?_)
  replace hF := hF.trans (dv_bn (ex2.symm))
  refine th_ialdF hC hB.1 hb1 ro_48 rfl (Eq.refl _) (by omega) (by omega) (ek_a (by omega) (by omega)) dX12_wearsNow_11 (fun x3 mx3 lx3 ux3 => ?_)
  replace hF := hF.trans (dv_bn (dv_aldI hB.1 hU hb1 ow_48 (z := x2.toInt) mx3 (by omega)))
  refine lv_aload_n hx hb dX12_wearsNow_12 rfl (lv_at hl 0 rfl) ?_
  refine th_getK hC cf_X12 hB.1 h0 ro_46 rfl (j := 2) (by decide) mb1 kf_X12_28 dX12_wearsNow_13 ?_
  refine lv_bipush (v := 18) hx hb dX12_wearsNow_16 (by decide) ?_
  refine lv_iload_n hx hb dX12_wearsNow_18 rfl (lv_at hl 1 rfl) ?_
  refine tr_iadd hx hb dX12_wearsNow_19 tk_18 (Eq.refl _) (by omega) (by omega) (fun x4 ex4 => ?_)
  replace hF := hF.trans (dv_bn (ex4.symm))
  refine th_ialdF hC hB.1 hb1 ro_48 rfl (Eq.refl _) (by omega) (by omega) (ek_a (by omega) (by omega)) dX12_wearsNow_20 (fun x5 mx5 lx5 ux5 => ?_)
  replace hF := hF.trans (dv_bn (dv_aldI hB.1 hU hb1 ow_48 (z := x4.toInt) mx5 (by omega)))
  refine lv_bipush (v := 9) hx hb dX12_wearsNow_21 (by decide) ?_
  refine lv_iconst (v := 1) hx hb dX12_wearsNow_23 (by decide) ?_
  refine th_call (th_runV (As := [.int 2, .int p1, .int x3, .int x5, .int 9, .int 1]) (rest := []) hC mf_X12_tells km_X12_341 im_X12_tells se_X12_tells (c_X12_tells l G Γ H0 hB.1 hU a0 h0 hR 2 p1 (by omega) (by omega) x3 x5 9 (by decide) (by decide) 1 (by decide) (by decide)) rfl rfl ⟨Nat.le_of_ble_eq_true rfl, Nat.le_of_ble_eq_true rfl⟩ hB.1 h0 ro_46 rfl rfl hl.1 rfl (Nat.le_of_ble_eq_true rfl) dX12_wearsNow_24 ⟨Nat.le_refl _, Nat.le_refl _⟩) hB.2.1 (fun v24 H24 locs hp hz hS => ?_)
  obtain ⟨x6, rfl, lx6, ux6, hI1, hf, hR, z24_0⟩ := hp
  have hB := th_B_c hB hI1 hS hf (by decide)
  have mm7 := (th_F_o hf h0 ro_46 (j := 2) (by decide) (by decide)).trans mb1
  have zf24 := z24_0
  rw [tk_2, tk_9, tk_1] at zf24
  replace hF := hF.trans (dv_bn2 (zf24))
  refine W.eq (g2 := F0 m 27 ls [.int x6]) rfl ?_
  exact th_iret hC hH hr hlocks rfl hB.2.1 ⟨_, rfl, by omega, by omega, hB.1, hB.2.2, hR, (hF0.symm.trans hF)⟩ dX12_wearsNow_27
