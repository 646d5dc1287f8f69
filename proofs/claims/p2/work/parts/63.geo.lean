set_option maxHeartbeats 4000000 in
set_option maxRecDepth 100000 in
theorem c_X12_adds (l : Launch) (G : th_G) (Γ : th_Ga) (H0 : Heap) (hI : th_I G Γ H0) (hU : dv_U Γ) (a0 : Nat) (h0 : Γ a0 = (46, 0)) (hR : th_RE a0 G Γ H0) (p1 : Int32) (f1 : 1 ≤ p1.toInt) (g1 : p1.toInt ≤ 12) (p2 : Int32) (p3 : Int32) (k1 : mo_v G H0 a0 2 69 < 9) : Met l yX12_adds (.code yX12_adds cX12_adds 5 (none) :: th_tb) ({ frames := 1, cells := 0, slots := 0, locals := 21 } : Room) (th_P [.ref a0, .int p1, .int p2, .int p3] G H0) (th_Q (fun (v : Option Value) (H1 : Heap) => v = none ∧ th_I G Γ H1 ∧ th_F G Γ [(48, 0)] H0 H1 ∧ th_RE a0 G Γ H1 ∧ (mo_v G H1 a0 2 = mo_ad (mo_v G H0 a0 2) (mo_v G H0 a0 2 69) p1.toInt p2.toInt p3.toInt) ∧ (f_X12_adds (dv G Γ H0) (a0 : Int) p1.toInt p2.toInt p3.toInt = (dv G Γ H1, 0))) G) 0 0 (fun q => G.2.2 ≤ q) := by
  refine th_met RX12 (by decide) rfl (Nat.le_of_ble_eq_true rfl) ?_
  intro p e s m below meth c hC hH hr hlocks hnm ls hl
  have hx := hC.1
  have hb := hC.2.1
  have hB : th_B G Γ Γ [(48, 0)] H0 H0 [] := ⟨hI, va_S.rf, th_F_rf⟩
  have hl : lv_has ls 5 [(0, .ref a0), (1, .int p1), (2, .int p2), (3, .int p3)] := hl
  have lp1 := ti_lo p1; have up1 := ti_hi p1
  have lp2 := ti_lo p2; have up2 := ti_hi p2
  have lp3 := ti_lo p3; have up3 := ti_hi p3
  obtain ⟨F, hF0⟩ : ∃ F, F = f_X12_adds (dv G Γ H0) ((a0 : Int)) (p1.toInt) (p2.toInt) (p3.toInt) := ⟨_, rfl⟩
  have hF := hF0.trans (f_X12_adds.eq_1 (dv G Γ H0) ((a0 : Int)) (p1.toInt) (p2.toInt) (p3.toInt))
  refine lv_aload_n hx hb dX12_adds_0 rfl (lv_at hl 0 rfl) ?_
  refine th_call (th_runV (As := []) (rest := []) hC mf_X12_many km_X12_115 im_X12_many se_X12_many (c_X12_many l G Γ H0 hB.1 hU a0 h0) rfl rfl ⟨Nat.le_of_ble_eq_true rfl, Nat.le_of_ble_eq_true rfl⟩ hB.1 h0 ro_46 rfl rfl hl.1 rfl (Nat.le_of_ble_eq_true rfl) dX12_adds_1 ⟨Nat.le_refl _, Nat.le_refl _⟩) hB.2.1 (fun v1 H1 locs hp hz hS => ?_)
  obtain ⟨x1, rfl, lx1, ux1, q1_0, q1_1, rfl⟩ := hp
  have hB := th_B_s hB hS
  replace hF := hF.trans (dv_bn2 (q1_1))
  refine W.eq (g2 := F0 m 4 ls [.int x1]) rfl ?_
  refine lv_istore (lv' := [(4, .int x1), (0, .ref a0), (1, .int p1), (2, .int p2), (3, .int p3)]) hx hb dX12_adds_4 hl (by decide) rfl (fun ls hl => ?_)
  refine lv_aload_n hx hb dX12_adds_6 rfl (lv_at hl 1 rfl) ?_
  refine th_getO (j := 2) (r2 := 48) hC cf_X12 hB.1 h0 ro_46 rfl rfl kf_X12_28 dX12_adds_7 (fun b2 mb2 hb2 => ?_)
  refine lv_bipush (v := 29) hx hb dX12_adds_10 (by decide) ?_
  refine lv_iload hx hb dX12_adds_12 (lv_at hl 0 rfl) ?_
  refine tr_iadd hx hb dX12_adds_14 tk_29 (Eq.refl _) (by omega) (by omega) (fun x3 ex3 => ?_)
  replace hF := hF.trans (dv_bn (ex3.symm))
  refine lv_iload_n hx hb dX12_adds_15 rfl (lv_at hl 2 rfl) ?_
  have hIo := hB.1
  refine th_iastF hC hB hb2 (Or.inl hb2) ro_48 rfl (by decide) (Eq.refl _) (by omega) (by omega) (by rw [(ek_side (by omega) (by omega))]; exact (th_sI (by omega) (by omega))) dX12_adds_16 (fun H16 locs hB hf16 hst16 => ?_)
  have hf := hf16
  have mm4 := (th_F_o hf h0 ro_46 (j := 2) (by decide) (by decide)).trans mb2
  have hRC := th_RC_F hB.1 hR.1 hf (th_T_s hb2 ro_48 hst16) (by decide)
  replace hF := hF.trans (dv_bn (dv_stoI hIo hB.1 hU hb2 ow_48 (i := x3.toInt) hst16 (Eq.refl _) (by omega)))
  have vs16 : mo_v G H16 a0 2 = mo_u (mo_v G H0 a0 2) (29 + x1.toInt) p1.toInt := by rw [show ((29 + x1.toInt) : Int) = x3.toInt by omega]; exact mo_v_st h0 hb2 (by decide) mb2 hst16 (by omega)
  have hR := th_RE_st hB.1 hR h0 hb2 mb2 hf16 hst16 (by omega) (by omega)
  refine lv_aload_n hx hb dX12_adds_17 rfl (lv_at hl 1 rfl) ?_
  refine th_getK hC cf_X12 hB.1 h0 ro_46 rfl (j := 2) (by decide) mm4 kf_X12_28 dX12_adds_18 ?_
  refine lv_bipush (v := 38) hx hb dX12_adds_21 (by decide) ?_
  refine lv_iload hx hb dX12_adds_23 (lv_at hl 0 rfl) ?_
  refine tr_iadd hx hb dX12_adds_25 tk_38 (Eq.refl _) (by omega) (by omega) (fun x5 ex5 => ?_)
  replace hF := hF.trans (dv_bn (ex5.symm))
  refine lv_iload_n hx hb dX12_adds_26 rfl (lv_at hl 3 rfl) ?_
  have hIo := hB.1
  refine th_iastF hC hB hb2 (Or.inl hb2) ro_48 rfl (by decide) (Eq.refl _) (by omega) (by omega) (by rw [(ek_b (by omega) (by omega))]; exact th_sIa) dX12_adds_27 (fun H27 locs hB hf27 hst27 => ?_)
  have hf := hf27
  have mm6 := (th_F_o hf h0 ro_46 (j := 2) (by decide) (by decide)).trans mm4
  have hRC := th_RC_F hB.1 hR.1 hf (th_T_s hb2 ro_48 hst27) (by decide)
  replace hF := hF.trans (dv_bn (dv_stoI hIo hB.1 hU hb2 ow_48 (i := x5.toInt) hst27 (Eq.refl _) (by omega)))
  have vs27 : mo_v G H27 a0 2 = mo_u (mo_v G H16 a0 2) (38 + x1.toInt) p2.toInt := by rw [show ((38 + x1.toInt) : Int) = x5.toInt by omega]; exact mo_v_st h0 hb2 (by decide) mm4 hst27 (by omega)
  have hR := th_RE_st hB.1 hR h0 hb2 mm4 hf27 hst27 (by omega) (by omega)
  refine lv_aload_n hx hb dX12_adds_28 rfl (lv_at hl 1 rfl) ?_
  refine th_getK hC cf_X12 hB.1 h0 ro_46 rfl (j := 2) (by decide) mm6 kf_X12_28 dX12_adds_29 ?_
  refine lv_iconst (v := 0) hx hb dX12_adds_32 (by decide) ?_
  refine lv_iload hx hb dX12_adds_33 (lv_at hl 0 rfl) ?_
  refine tr_iadd hx hb dX12_adds_35 tk_0 (Eq.refl _) (by omega) (by omega) (fun x7 ex7 => ?_)
  replace hF := hF.trans (dv_bn (ex7.symm))
  refine lv_iload_n hx hb dX12_adds_36 rfl (lv_at hl 4 rfl) ?_
  have hIo := hB.1
  refine th_iastF hC hB hb2 (Or.inl hb2) ro_48 rfl (by decide) (Eq.refl _) (by omega) (by omega) (by rw [(ek_a (by omega) (by omega))]; exact th_sIa) dX12_adds_37 (fun H37 locs hB hf37 hst37 => ?_)
  have hf := hf37
  have mm8 := (th_F_o hf h0 ro_46 (j := 2) (by decide) (by decide)).trans mm6
  have hRC := th_RC_F hB.1 hR.1 hf (th_T_s hb2 ro_48 hst37) (by decide)
  replace hF := hF.trans (dv_bn (dv_stoI hIo hB.1 hU hb2 ow_48 (i := x7.toInt) hst37 (Eq.refl _) (by omega)))
  have vs37 : mo_v G H37 a0 2 = mo_u (mo_v G H27 a0 2) (0 + x1.toInt) p3.toInt := by rw [show ((0 + x1.toInt) : Int) = x7.toInt by omega]; exact mo_v_st h0 hb2 (by decide) mm6 hst37 (by omega)
  have hR := th_RE_st hB.1 hR h0 hb2 mm6 hf37 hst37 (by omega) (by omega)
  refine lv_aload_n hx hb dX12_adds_38 rfl (lv_at hl 1 rfl) ?_
  refine lv_iload hx hb dX12_adds_39 (lv_at hl 0 rfl) ?_
  refine th_call (th_runV (As := [.int x1]) (rest := []) hC mf_X12_rolls km_X12_123 im_X12_rolls se_X12_rolls (c_X12_rolls l G Γ H37 hB.1 hU a0 h0 hR x1 (by omega) (by omega)) rfl rfl ⟨Nat.le_of_ble_eq_true rfl, Nat.le_of_ble_eq_true rfl⟩ hB.1 h0 ro_46 rfl rfl hl.1 rfl (Nat.le_of_ble_eq_true rfl) dX12_adds_41 ⟨Nat.le_refl _, Nat.le_refl _⟩) hB.2.1 (fun v41 H41 locs hp hz hS => ?_)
  obtain ⟨rfl, hI1, hf, hR, z41_0, z41_1⟩ := hp
  have hB := th_B_c hB hI1 hS hf (by decide)
  have mm9 := (th_F_o hf h0 ro_46 (j := 2) (by decide) (by decide)).trans mm8
  replace hF := hF.trans (dv_bn2 (z41_1))
  refine W.eq (g2 := F0 m 44 ls []) rfl ?_
  refine lv_aload_n hx hb dX12_adds_44 rfl (lv_at hl 1 rfl) ?_
  refine th_getK hC cf_X12 hB.1 h0 ro_46 rfl (j := 2) (by decide) mm9 kf_X12_28 dX12_adds_45 ?_
  refine lv_bipush (v := 69) hx hb dX12_adds_48 (by decide) ?_
  refine lv_dup2_11 hx hb dX12_adds_50 rfl rfl ?_
  refine th_ialdF hC hB.1 hb2 ro_48 rfl tk_69 (by omega) (by omega) (ek_many (by omega) (by omega)) dX12_adds_51 (fun x10 mx10 lx10 ux10 => ?_)
  replace hF := hF.trans (dv_bn (dv_aldI hB.1 hU hb2 ow_48 (z := 69) mx10 (by omega)))
  have vgx10 : mo_v G H41 a0 2 69 = x10.toInt := by rw [show (69 : Int) = 69 by omega]; exact mo_vat mm9 mx10 (by omega)
  have e51 : x10.toInt = x1.toInt := by rw [← vgx10, z41_0, mo_un (by omega), mo_un (by omega), vs37, mo_un (by omega), vs27, mo_un (by omega), vs16, mo_un (by omega)]; omega
  refine lv_iconst (v := 1) hx hb dX12_adds_52 (by decide) ?_
  refine tr_iadd hx hb dX12_adds_53 (Eq.refl _) tk_1 (by omega) (by omega) (fun x11 ex11 => ?_)
  replace hF := hF.trans (dv_bn (ex11.symm))
  have hIo := hB.1
  refine th_iastF hC hB hb2 (Or.inl hb2) ro_48 rfl (by decide) tk_69 (by omega) (by omega) (by rw [(ek_many (by omega) (by omega))]; exact (th_sI (by omega) (by omega))) dX12_adds_54 (fun H54 locs hB hf54 hst54 => ?_)
  have hf := hf54
  have mm12 := (th_F_o hf h0 ro_46 (j := 2) (by decide) (by decide)).trans mm9
  have hRC := th_RC_F hB.1 hR.1 hf (th_T_s hb2 ro_48 hst54) (by decide)
  replace hF := hF.trans (dv_bn (dv_stoI hIo hB.1 hU hb2 ow_48 (i := 69) hst54 (Eq.refl _) (by omega)))
  have vs54 : mo_v G H54 a0 2 = mo_u (mo_v G H41 a0 2) 69 x11.toInt := by rw [show (69 : Int) = 69 by omega]; exact mo_v_st h0 hb2 (by decide) mm9 hst54 (by omega)
  have hR := th_RE_st hB.1 hR h0 hb2 mm9 hf54 hst54 (by omega) (by omega)
  exact th_vret hC hH hr hlocks hB.2.1 ⟨rfl, hB.1, hB.2.2, hR, by rw [vs54, z41_0, vs37, vs27, vs16, ← q1_0, show x11.toInt = x1.toInt + 1 by omega]; rfl, (hF0.symm.trans hF)⟩ dX12_adds_55

set_option maxHeartbeats 4000000 in
set_option maxRecDepth 100000 in
theorem c_X12_hall (l : Launch) (G : th_G) (Γ : th_Ga) (H0 : Heap) (hI : th_I G Γ H0) (hU : dv_U Γ) (a0 : Nat) (h0 : Γ a0 = (46, 0)) (hR : th_RN a0 G Γ H0) (p1 : Int32) (p2 : Int32) : Met l yX12_hall (.code yX12_hall cX12_hall 3 (some FieldType.int) :: th_tb) ({ frames := 2, cells := 0, slots := 0, locals := 43 } : Room) (th_P [.ref a0, .int p1, .int p2] G H0) (th_Q (fun (v : Option Value) (H1 : Heap) => ∃ r : Int32, v = some (.int r) ∧ th_I G Γ H1 ∧ th_F G Γ [(47, 0), (46, 0), (48, 0), (46, 33)] H0 H1 ∧ th_RN a0 G Γ H1 ∧ (f_X12_hall (dv G Γ H0) (a0 : Int) p1.toInt p2.toInt = (dv G Γ H1, r.toInt))) G) 0 0 (fun q => G.2.2 ≤ q) := by
  refine th_met RX12 (by decide) rfl (Nat.le_of_ble_eq_true rfl) ?_
  intro p e s m below meth c hC hH hr hlocks hnm ls hl
  have hx := hC.1
  have hb := hC.2.1
  have hB : th_B G Γ Γ [(47, 0), (46, 0), (48, 0), (46, 33)] H0 H0 [] := ⟨hI, va_S.rf, th_F_rf⟩
  have hl : lv_has ls 3 [(0, .ref a0), (1, .int p1), (2, .int p2)] := hl
  have lp1 := ti_lo p1; have up1 := ti_hi p1
  have lp2 := ti_lo p2; have up2 := ti_hi p2
  obtain ⟨F, hF0⟩ : ∃ F, F = f_X12_hall (dv G Γ H0) ((a0 : Int)) (p1.toInt) (p2.toInt) := ⟨_, rfl⟩
  have hF := hF0.trans (f_X12_hall.eq_1 (dv G Γ H0) ((a0 : Int)) (p1.toInt) (p2.toInt))
  refine lv_iload_n hx hb dX12_hall_0 rfl (lv_at hl 1 rfl) ?_
  refine th_call (th_runS (As := [.int p1]) (rest := []) hC mf_X12_isSide km_X12_119 st_X12_isSide (c_X12_isSide l G Γ H0 hB.1 hU p1) rfl rfl ⟨Nat.le_of_ble_eq_true rfl, Nat.le_of_ble_eq_true rfl⟩ rfl hl.1 rfl (Nat.le_of_ble_eq_true rfl) dX12_hall_1 ⟨Nat.le_refl _, Nat.le_refl _⟩) hB.2.1 (fun v1 H1 locs hp hz hS => ?_)
  obtain ⟨x1, rfl, lx1, ux1, q1_0, q1_1, rfl⟩ := hp
  have hB := th_B_s hB hS
  replace hF := hF.trans (dv_bn2 (q1_1))
  refine W.eq (g2 := F0 m 4 ls [.int x1]) rfl ?_
  have jn14 : ∀ (locs : List Loc) (ls : Array Slot) , th_B G Γ Γ [(47, 0), (46, 0), (48, 0), (46, 33)] H0 H0 locs → lv_has ls 3 [(0, .ref a0)] → F = f_X12_hall_14 (dv G Γ H0) ((a0 : Int)) → W p l e ({ frames := 2, cells := 0, slots := 0, locals := 43 } : Room) s m ([.ref a0, .int p1, .int p2] : List Value).toArray below meth c H0 locs 0 0 (MQ below (th_Q (fun (v : Option Value) (H1 : Heap) => ∃ r : Int32, v = some (.int r) ∧ th_I G Γ H1 ∧ th_F G Γ [(47, 0), (46, 0), (48, 0), (46, 33)] H0 H1 ∧ th_RN a0 G Γ H1 ∧ (f_X12_hall (dv G Γ H0) (a0 : Int) p1.toInt p2.toInt = (dv G Γ H1, r.toInt))) G) ([.ref a0, .int p1, .int p2] : List Value).toArray s 0 0 (fun q => G.2.2 ≤ q)) (F0 m 14 ls []) := by
    intro locs ls hB hl hF
    replace hF := hF.trans (f_X12_hall_14.eq_1 (dv G Γ H0) ((a0 : Int)))
    refine lv_aload_n hx hb dX12_hall_14 rfl (lv_at hl 0 rfl) ?_
    refine lv_iconst (v := (-1)) hx hb dX12_hall_15 (by decide) ?_
    refine th_call (th_runV (As := [.int (-1)]) (rest := []) hC mf_X12_refuses km_X12_109 im_X12_refuses se_X12_refuses (c_X12_refuses l G Γ H0 hB.1 hR.1 hU a0 h0 (-1) (by decide) (by decide)) rfl rfl ⟨Nat.le_of_ble_eq_true rfl, Nat.le_of_ble_eq_true rfl⟩ hB.1 h0 ro_46 rfl rfl hl.1 rfl (Nat.le_of_ble_eq_true rfl) dX12_hall_16 ⟨Nat.le_refl _, Nat.le_refl _⟩) hB.2.1 (fun v16 H16 locs hp hz hS => ?_)
    have hRD := hR
    obtain ⟨x2, rfl, q16_0, hI1, hf, hR, z16_0⟩ := hp
    have hR := th_RN_c hR hRD hI1 h0 hf (by decide)
    have hB := th_B_c hB hI1 hS hf (by decide)
    have fv_H16_33 : mo_f G H16 a0 33 = mo_f G H0 a0 33 := mo_f_F hf h0 (by decide) (by decide)
    have vv_H16_2 : mo_v G H16 a0 2 = mo_v G H0 a0 2 := mo_v_F (r := 48) hB.1 hf h0 rfl ro_48 (by decide) (by decide)
    have vv_H16_3 : mo_v G H16 a0 3 = mo_v G H0 a0 3 := mo_v_F (r := 49) hB.1 hf h0 rfl ro_49 (by decide) (by decide)
    have vv_H16_4 : mo_v G H16 a0 4 = mo_v G H0 a0 4 := mo_v_F (r := 50) hB.1 hf h0 rfl ro_50 (by decide) (by decide)
    have vv_H16_31 : mo_v G H16 a0 31 = mo_v G H0 a0 31 := mo_v_F (r := 61) hB.1 hf h0 rfl ro_61 (by decide) (by decide)
    have w16_0 := tk_m1
    have zf16 := z16_0
    rw [tk_m1] at zf16
    replace hF := hF.trans (dv_bn2 (zf16))
    refine W.eq (g2 := F0 m 19 ls [.int x2]) rfl ?_
    exact th_iret hC hH hr hlocks rfl hB.2.1 ⟨_, rfl, hB.1, hB.2.2, hR, (hF0.symm.trans hF)⟩ dX12_hall_19
  refine tr_if_eq (tgt := 14) hx hb dX12_hall_4 (by decide) (Eq.refl _) (fun c4 => ?_) (fun c4 => ?_)
  · replace hF := hF.trans (if_pos c4)
    exact jn14 locs ls hB (lv_sub hl [0] rfl) hF
  · replace hF := hF.trans (if_neg c4)
    refine lv_iload_n hx hb dX12_hall_7 rfl (lv_at hl 2 rfl) ?_
    refine th_call (th_runS (As := [.int p2]) (rest := []) hC mf_X12_isSide km_X12_119 st_X12_isSide (c_X12_isSide l G Γ H0 hB.1 hU p2) rfl rfl ⟨Nat.le_of_ble_eq_true rfl, Nat.le_of_ble_eq_true rfl⟩ rfl hl.1 rfl (Nat.le_of_ble_eq_true rfl) dX12_hall_8 ⟨Nat.le_refl _, Nat.le_refl _⟩) hB.2.1 (fun v8 H8 locs hp hz hS => ?_)
    obtain ⟨x3, rfl, lx3, ux3, q8_0, q8_1, rfl⟩ := hp
    have hB := th_B_s hB hS
    replace hF := hF.trans (dv_bn2 (q8_1))
    refine W.eq (g2 := F0 m 11 ls [.int x3]) rfl ?_
    refine tr_if_ne (tgt := 20) hx hb dX12_hall_11 (by decide) (Eq.refl _) (fun c11 => ?_) (fun c11 => ?_)
    · replace hF := hF.trans (if_pos c11)
      refine lv_aload_n hx hb dX12_hall_20 rfl (lv_at hl 0 rfl) ?_
      refine th_call (th_runV (As := []) (rest := []) hC mf_X12_laidMany km_X12_143 im_X12_laidMany se_X12_laidMany (c_X12_laidMany l G Γ H0 hB.1 hU a0 h0) rfl rfl ⟨Nat.le_of_ble_eq_true rfl, Nat.le_of_ble_eq_true rfl⟩ hB.1 h0 ro_46 rfl rfl hl.1 rfl (Nat.le_of_ble_eq_true rfl) dX12_hall_21 ⟨Nat.le_refl _, Nat.le_refl _⟩) hB.2.1 (fun v21 H21 locs hp hz hS => ?_)
      obtain ⟨x4, rfl, lx4, ux4, q21_0, q21_1, rfl⟩ := hp
      have hB := th_B_s hB hS
      replace hF := hF.trans (dv_bn2 (q21_1))
      refine W.eq (g2 := F0 m 24 ls [.int x4]) rfl ?_
      refine tr_if_le (tgt := 34) hx hb dX12_hall_24 (by decide) (Eq.refl _) (fun c24 => ?_) (fun c24 => ?_)
      · replace hF := hF.trans (if_pos c24)
        refine lv_aload_n hx hb dX12_hall_34 rfl (lv_at hl 0 rfl) ?_
        have hR := th_NZ hR
        refine th_getO (j := 2) (r2 := 48) hC cf_X12 hB.1 h0 ro_46 rfl rfl kf_X12_28 dX12_hall_35 (fun b5 mb5 hb5 => ?_)
        refine lv_bipush (v := 67) hx hb dX12_hall_38 (by decide) ?_
        refine lv_iload_n hx hb dX12_hall_40 rfl (lv_at hl 1 rfl) ?_
        have hIo := hB.1
        refine th_iastF hC hB hb5 (Or.inl hb5) ro_48 rfl (by decide) tk_67 (by omega) (by omega) (by rw [(ek_hall (by omega) (by omega))]; exact (th_sI (by omega) (by omega))) dX12_hall_41 (fun H41 locs hB hf41 hst41 => ?_)
        have hf := hf41
        have mm6 := (th_F_o hf h0 ro_46 (j := 2) (by decide) (by decide)).trans mb5
        have hRC := th_RC_F hB.1 hR.1 hf (th_T_s hb5 ro_48 hst41) (by decide)
        have fv_H41_33 : mo_f G H41 a0 33 = mo_f G H0 a0 33 := mo_f_F hf h0 (by decide) (by decide)
        have vv_H41_3 : mo_v G H41 a0 3 = mo_v G H0 a0 3 := mo_v_F (r := 49) hB.1 hf h0 rfl ro_49 (by decide) (by decide)
        have vv_H41_4 : mo_v G H41 a0 4 = mo_v G H0 a0 4 := mo_v_F (r := 50) hB.1 hf h0 rfl ro_50 (by decide) (by decide)
        have vv_H41_31 : mo_v G H41 a0 31 = mo_v G H0 a0 31 := mo_v_F (r := 61) hB.1 hf h0 rfl ro_61 (by decide) (by decide)
        replace hF := hF.trans (dv_bn (dv_stoI hIo hB.1 hU hb5 ow_48 (i := 67) hst41 (Eq.refl _) (by omega)))
        have vs41 : mo_v G H41 a0 2 = mo_u (mo_v G H0 a0 2) 67 p1.toInt := by rw [show (67 : Int) = 67 by omega]; exact mo_v_st h0 hb5 (by decide) mb5 hst41 (by omega)
        refine lv_aload_n hx hb dX12_hall_42 rfl (lv_at hl 0 rfl) ?_
        refine th_getK hC cf_X12 hB.1 h0 ro_46 rfl (j := 2) (by decide) mm6 kf_X12_28 dX12_hall_43 ?_
        refine lv_bipush (v := 68) hx hb dX12_hall_46 (by decide) ?_
        refine lv_iload_n hx hb dX12_hall_48 rfl (lv_at hl 2 rfl) ?_
        have hIo := hB.1
        refine th_iastF hC hB hb5 (Or.inl hb5) ro_48 rfl (by decide) tk_68 (by omega) (by omega) (by rw [(ek_hall (by omega) (by omega))]; exact (th_sI (by omega) (by omega))) dX12_hall_49 (fun H49 locs hB hf49 hst49 => ?_)
        have hf := hf49
        have mm7 := (th_F_o hf h0 ro_46 (j := 2) (by decide) (by decide)).trans mm6
        have hRC := th_RC_F hB.1 hRC hf (th_T_s hb5 ro_48 hst49) (by decide)
        have fv_H49_33 : mo_f G H49 a0 33 = mo_f G H41 a0 33 := mo_f_F hf h0 (by decide) (by decide)
        have vv_H49_3 : mo_v G H49 a0 3 = mo_v G H41 a0 3 := mo_v_F (r := 49) hB.1 hf h0 rfl ro_49 (by decide) (by decide)
        have vv_H49_4 : mo_v G H49 a0 4 = mo_v G H41 a0 4 := mo_v_F (r := 50) hB.1 hf h0 rfl ro_50 (by decide) (by decide)
        have vv_H49_31 : mo_v G H49 a0 31 = mo_v G H41 a0 31 := mo_v_F (r := 61) hB.1 hf h0 rfl ro_61 (by decide) (by decide)
        replace hF := hF.trans (dv_bn (dv_stoI hIo hB.1 hU hb5 ow_48 (i := 68) hst49 (Eq.refl _) (by omega)))
        have vs49 : mo_v G H49 a0 2 = mo_u (mo_v G H41 a0 2) 68 p2.toInt := by rw [show (68 : Int) = 68 by omega]; exact mo_v_st h0 hb5 (by decide) mm6 hst49 (by omega)
        have hR : th_RZ a0 G Γ H49 := ⟨hRC, by rw [vs49, vs41, vv_H49_3, vv_H41_3, vv_H49_4, vv_H41_4]; exact ⟨mo_kg_hall hR.2.1 (by omega) (by omega) (q21_0 (by omega)), hR.2.2⟩⟩
        refine lv_aload_n hx hb dX12_hall_50 rfl (lv_at hl 0 rfl) ?_
        refine lv_iload_n hx hb dX12_hall_51 rfl (lv_at hl 1 rfl) ?_
        refine lv_iload_n hx hb dX12_hall_52 rfl (lv_at hl 2 rfl) ?_
        have q9 := ti_mulr (a := p1.toInt) (b := p2.toInt) (A := 12) (B := 12) (by omega) (by omega) (by omega) (by omega)
        generalize hex8 : p1.toInt * p2.toInt = wx8 at q9
        refine tr_imul hx hb dX12_hall_53 (Eq.refl _) (Eq.refl _) (by rw [hex8]; omega) (by rw [hex8]; omega) (fun x8 ex8 => ?_)
        rw [hex8] at ex8
        replace hF := hF.trans (dv_bn (hex8.trans ex8.symm))
        refine th_call (th_runV (As := [.int x8]) (rest := []) hC mf_X12_settled km_X12_112 im_X12_settled se_X12_settled (c_X12_settled l G Γ H49 hB.1 hR.1 hU a0 h0 x8) rfl rfl ⟨Nat.le_of_ble_eq_true rfl, Nat.le_of_ble_eq_true rfl⟩ hB.1 h0 ro_46 rfl rfl hl.1 rfl (Nat.le_of_ble_eq_true rfl) dX12_hall_54 ⟨Nat.le_refl _, Nat.le_refl _⟩) hB.2.1 (fun v54 H54 locs hp hz hS => ?_)
        have hRD := hR
        obtain ⟨x10, rfl, q54_0, hI1, hf, hR, z54_0, z54_1⟩ := hp
        have hR := th_RZ_c hR hRD hI1 h0 hf (by decide)
        have hB := th_B_c hB hI1 hS hf (by decide)
        have mm11 := (th_F_o hf h0 ro_46 (j := 2) (by decide) (by decide)).trans mm7
        have vv_H54_2 : mo_v G H54 a0 2 = mo_v G H49 a0 2 := mo_v_F (r := 48) hB.1 hf h0 rfl ro_48 (by decide) (by decide)
        have vv_H54_3 : mo_v G H54 a0 3 = mo_v G H49 a0 3 := mo_v_F (r := 49) hB.1 hf h0 rfl ro_49 (by decide) (by decide)
        have vv_H54_4 : mo_v G H54 a0 4 = mo_v G H49 a0 4 := mo_v_F (r := 50) hB.1 hf h0 rfl ro_50 (by decide) (by decide)
        have vv_H54_31 : mo_v G H54 a0 31 = mo_v G H49 a0 31 := mo_v_F (r := 61) hB.1 hf h0 rfl ro_61 (by decide) (by decide)
        replace hF := hF.trans (dv_bn2 (z54_1))
        refine W.eq (g2 := F0 m 57 ls [.int x10]) rfl ?_
        have hR := th_ZN hR z54_0
        exact th_iret hC hH hr hlocks rfl hB.2.1 ⟨_, rfl, hB.1, hB.2.2, hR, (hF0.symm.trans hF)⟩ dX12_hall_57
      · replace hF := hF.trans (if_neg (Int.not_le.mpr c24))
        refine lv_aload_n hx hb dX12_hall_27 rfl (lv_at hl 0 rfl) ?_
        refine lv_bipush (v := (-3)) hx hb dX12_hall_28 (by decide) ?_
        refine th_call (th_runV (As := [.int (-3)]) (rest := []) hC mf_X12_refuses km_X12_109 im_X12_refuses se_X12_refuses (c_X12_refuses l G Γ H0 hB.1 hR.1 hU a0 h0 (-3) (by decide) (by decide)) rfl rfl ⟨Nat.le_of_ble_eq_true rfl, Nat.le_of_ble_eq_true rfl⟩ hB.1 h0 ro_46 rfl rfl hl.1 rfl (Nat.le_of_ble_eq_true rfl) dX12_hall_30 ⟨Nat.le_refl _, Nat.le_refl _⟩) hB.2.1 (fun v30 H30 locs hp hz hS => ?_)
        have hRD := hR
        obtain ⟨x12, rfl, q30_0, hI1, hf, hR, z30_0⟩ := hp
        have hR := th_RN_c hR hRD hI1 h0 hf (by decide)
        have hB := th_B_c hB hI1 hS hf (by decide)
        have fv_H30_33 : mo_f G H30 a0 33 = mo_f G H0 a0 33 := mo_f_F hf h0 (by decide) (by decide)
        have vv_H30_2 : mo_v G H30 a0 2 = mo_v G H0 a0 2 := mo_v_F (r := 48) hB.1 hf h0 rfl ro_48 (by decide) (by decide)
        have vv_H30_3 : mo_v G H30 a0 3 = mo_v G H0 a0 3 := mo_v_F (r := 49) hB.1 hf h0 rfl ro_49 (by decide) (by decide)
        have vv_H30_4 : mo_v G H30 a0 4 = mo_v G H0 a0 4 := mo_v_F (r := 50) hB.1 hf h0 rfl ro_50 (by decide) (by decide)
        have vv_H30_31 : mo_v G H30 a0 31 = mo_v G H0 a0 31 := mo_v_F (r := 61) hB.1 hf h0 rfl ro_61 (by decide) (by decide)
        have w30_0 := tk_m3
        have zf30 := z30_0
        rw [tk_m3] at zf30
        replace hF := hF.trans (dv_bn2 (zf30))
        refine W.eq (g2 := F0 m 33 ls [.int x12]) rfl ?_
        exact th_iret hC hH hr hlocks rfl hB.2.1 ⟨_, rfl, hB.1, hB.2.2, hR, (hF0.symm.trans hF)⟩ dX12_hall_33
    · replace hF := hF.trans (if_neg (not_not_intro c11))
      exact jn14 locs ls hB (lv_sub hl [0] rfl) hF

set_option maxHeartbeats 4000000 in
set_option maxRecDepth 100000 in
theorem c_X12_carpet (l : Launch) (G : th_G) (Γ : th_Ga) (H0 : Heap) (hI : th_I G Γ H0) (hU : dv_U Γ) (a0 : Nat) (h0 : Γ a0 = (46, 0)) (hR : th_RN a0 G Γ H0) (p1 : Int32) (p2 : Int32) (p3 : Int32) : Met l yX12_carpet (.code yX12_carpet cX12_carpet 4 (some FieldType.int) :: th_tb) ({ frames := 3, cells := 0, slots := 0, locals := 64 } : Room) (th_P [.ref a0, .int p1, .int p2, .int p3] G H0) (th_Q (fun (v : Option Value) (H1 : Heap) => ∃ r : Int32, v = some (.int r) ∧ th_I G Γ H1 ∧ th_F G Γ [(47, 0), (46, 0), (48, 0), (46, 33)] H0 H1 ∧ th_RN a0 G Γ H1 ∧ (f_X12_carpet (dv G Γ H0) (a0 : Int) p1.toInt p2.toInt p3.toInt = (dv G Γ H1, r.toInt))) G) 0 0 (fun q => G.2.2 ≤ q) := by
  refine th_met RX12 (by decide) rfl (Nat.le_of_ble_eq_true rfl) ?_
  intro p e s m below meth c hC hH hr hlocks hnm ls hl
  have hx := hC.1
  have hb := hC.2.1
  have hB : th_B G Γ Γ [(47, 0), (46, 0), (48, 0), (46, 33)] H0 H0 [] := ⟨hI, va_S.rf, th_F_rf⟩
  have hl : lv_has ls 4 [(0, .ref a0), (1, .int p1), (2, .int p2), (3, .int p3)] := hl
  have lp1 := ti_lo p1; have up1 := ti_hi p1
  have lp2 := ti_lo p2; have up2 := ti_hi p2
  have lp3 := ti_lo p3; have up3 := ti_hi p3
  obtain ⟨F, hF0⟩ : ∃ F, F = f_X12_carpet (dv G Γ H0) ((a0 : Int)) (p1.toInt) (p2.toInt) (p3.toInt) := ⟨_, rfl⟩
  have hF := hF0.trans (f_X12_carpet.eq_1 (dv G Γ H0) ((a0 : Int)) (p1.toInt) (p2.toInt) (p3.toInt))
  refine lv_iload_n hx hb dX12_carpet_0 rfl (lv_at hl 1 rfl) ?_
  refine lv_iload_n hx hb dX12_carpet_1 rfl (lv_at hl 2 rfl) ?_
  refine lv_iload_n hx hb dX12_carpet_2 rfl (lv_at hl 3 rfl) ?_
  refine th_call (th_runS (As := [.int p1, .int p2, .int p3]) (rest := []) hC mf_X12_canBe km_X12_127 st_X12_canBe (c_X12_canBe l G Γ H0 hB.1 hU p1 p2 p3) rfl rfl ⟨Nat.le_of_ble_eq_true rfl, Nat.le_of_ble_eq_true rfl⟩ rfl hl.1 rfl (Nat.le_of_ble_eq_true rfl) dX12_carpet_3 ⟨Nat.le_refl _, Nat.le_refl _⟩) hB.2.1 (fun v3 H3 locs hp hz hS => ?_)
  obtain ⟨x1, rfl, lx1, ux1, q3_0, q3_1, rfl⟩ := hp
  have hB := th_B_s hB hS
  replace hF := hF.trans (dv_bn2 (q3_1))
  refine W.eq (g2 := F0 m 6 ls [.int x1]) rfl ?_
  refine tr_if_ne (tgt := 15) hx hb dX12_carpet_6 (by decide) (Eq.refl _) (fun c6 => ?_) (fun c6 => ?_)
  · replace hF := hF.trans (if_pos c6)
    refine lv_aload_n hx hb dX12_carpet_15 rfl (lv_at hl 0 rfl) ?_
    refine th_call (th_runV (As := []) (rest := []) hC mf_X12_many km_X12_115 im_X12_many se_X12_many (c_X12_many l G Γ H0 hB.1 hU a0 h0) rfl rfl ⟨Nat.le_of_ble_eq_true rfl, Nat.le_of_ble_eq_true rfl⟩ hB.1 h0 ro_46 rfl rfl hl.1 rfl (Nat.le_of_ble_eq_true rfl) dX12_carpet_16 ⟨Nat.le_refl _, Nat.le_refl _⟩) hB.2.1 (fun v16 H16 locs hp hz hS => ?_)
    obtain ⟨x2, rfl, lx2, ux2, q16_0, q16_1, rfl⟩ := hp
    have hB := th_B_s hB hS
    replace hF := hF.trans (dv_bn2 (q16_1))
    refine W.eq (g2 := F0 m 19 ls [.int x2]) rfl ?_
    have e16 := q16_0
    refine lv_bipush (v := 9) hx hb dX12_carpet_19 (by decide) ?_
    refine tr_icmp_ne (tgt := 31) hx hb dX12_carpet_21 (by decide) (Eq.refl _) tk_9 (fun c21 => ?_) (fun c21 => ?_)
    · replace hF := hF.trans (if_pos c21)
      refine lv_aload_n hx hb dX12_carpet_31 rfl (lv_at hl 0 rfl) ?_
      have hR := th_NZ hR
      refine lv_iload_n hx hb dX12_carpet_32 rfl (lv_at hl 1 rfl) ?_
      refine lv_iload_n hx hb dX12_carpet_33 rfl (lv_at hl 2 rfl) ?_
      refine lv_iload_n hx hb dX12_carpet_34 rfl (lv_at hl 3 rfl) ?_
      refine th_call (th_runV (As := [.int p1, .int p2, .int p3]) (rest := []) hC mf_X12_adds km_X12_130 im_X12_adds se_X12_adds (c_X12_adds l G Γ H0 hB.1 hU a0 h0 (th_KE (th_ZK hR)) p1 (by omega) (by omega) p2 p3 (by omega)) rfl rfl ⟨Nat.le_of_ble_eq_true rfl, Nat.le_of_ble_eq_true rfl⟩ hB.1 h0 ro_46 rfl rfl hl.1 rfl (Nat.le_of_ble_eq_true rfl) dX12_carpet_35 ⟨Nat.le_refl _, Nat.le_refl _⟩) hB.2.1 (fun v35 H35 locs hp hz hS => ?_)
      have hRD := hR
      obtain ⟨rfl, hI1, hf, hR, z35_0, z35_1⟩ := hp
      have hRc35 := hR
      have hR := hRD
      have hRC := hRc35.1
      have hB := th_B_c hB hI1 hS hf (by decide)
      have fv_H35_33 : mo_f G H35 a0 33 = mo_f G H0 a0 33 := mo_f_F hf h0 (by decide) (by decide)
      have vv_H35_3 : mo_v G H35 a0 3 = mo_v G H0 a0 3 := mo_v_F (r := 49) hB.1 hf h0 rfl ro_49 (by decide) (by decide)
      have vv_H35_4 : mo_v G H35 a0 4 = mo_v G H0 a0 4 := mo_v_F (r := 50) hB.1 hf h0 rfl ro_50 (by decide) (by decide)
      have vv_H35_31 : mo_v G H35 a0 31 = mo_v G H0 a0 31 := mo_v_F (r := 61) hB.1 hf h0 rfl ro_61 (by decide) (by decide)
      replace hF := hF.trans (dv_bn2 (z35_1))
      refine W.eq (g2 := F0 m 38 ls []) rfl ?_
      have hR : th_RZ a0 G Γ H35 := ⟨hRC, by rw [z35_0, vv_H35_3, vv_H35_4]; exact ⟨mo_kg_ad hR.2.1 rfl (by omega) (by omega) (by omega), hR.2.2⟩⟩
      refine lv_aload_n hx hb dX12_carpet_38 rfl (lv_at hl 0 rfl) ?_
      refine lv_aload_n hx hb dX12_carpet_39 rfl (lv_at hl 0 rfl) ?_
      refine th_call (th_runV (As := []) (rest := [.ref a0]) hC mf_X12_many km_X12_115 im_X12_many se_X12_many (c_X12_many l G Γ H35 hB.1 hU a0 h0) rfl rfl ⟨Nat.le_of_ble_eq_true rfl, Nat.le_of_ble_eq_true rfl⟩ hB.1 h0 ro_46 rfl rfl hl.1 rfl (Nat.le_of_ble_eq_true rfl) dX12_carpet_40 ⟨Nat.le_refl _, Nat.le_refl _⟩) hB.2.1 (fun v40 H40 locs hp hz hS => ?_)
      obtain ⟨x3, rfl, lx3, ux3, q40_0, q40_1, rfl⟩ := hp
      have hB := th_B_s hB hS
      replace hF := hF.trans (dv_bn2 (q40_1))
      refine W.eq (g2 := F0 m 43 ls [.int x3, .ref a0]) rfl ?_
      refine lv_iconst (v := 1) hx hb dX12_carpet_43 (by decide) ?_
      refine tr_isub hx hb dX12_carpet_44 (Eq.refl _) tk_1 (by omega) (by omega) (fun x4 ex4 => ?_)
      replace hF := hF.trans (dv_bn (ex4.symm))
      refine th_call (th_runV (As := [.int x4]) (rest := []) hC mf_X12_settled km_X12_112 im_X12_settled se_X12_settled (c_X12_settled l G Γ H35 hB.1 hR.1 hU a0 h0 x4) rfl rfl ⟨Nat.le_of_ble_eq_true rfl, Nat.le_of_ble_eq_true rfl⟩ hB.1 h0 ro_46 rfl rfl hl.1 rfl (Nat.le_of_ble_eq_true rfl) dX12_carpet_45 ⟨Nat.le_refl _, Nat.le_refl _⟩) hB.2.1 (fun v45 H45 locs hp hz hS => ?_)
      have hRD := hR
      obtain ⟨x5, rfl, q45_0, hI1, hf, hR, z45_0, z45_1⟩ := hp
      have hR := th_RZ_c hR hRD hI1 h0 hf (by decide)
      have hB := th_B_c hB hI1 hS hf (by decide)
      have vv_H45_2 : mo_v G H45 a0 2 = mo_v G H35 a0 2 := mo_v_F (r := 48) hB.1 hf h0 rfl ro_48 (by decide) (by decide)
      have vv_H45_3 : mo_v G H45 a0 3 = mo_v G H35 a0 3 := mo_v_F (r := 49) hB.1 hf h0 rfl ro_49 (by decide) (by decide)
      have vv_H45_4 : mo_v G H45 a0 4 = mo_v G H35 a0 4 := mo_v_F (r := 50) hB.1 hf h0 rfl ro_50 (by decide) (by decide)
      have vv_H45_31 : mo_v G H45 a0 31 = mo_v G H35 a0 31 := mo_v_F (r := 61) hB.1 hf h0 rfl ro_61 (by decide) (by decide)
      replace hF := hF.trans (dv_bn2 (z45_1))
      refine W.eq (g2 := F0 m 48 ls [.int x5]) rfl ?_
      have hR := th_ZN hR z45_0
      exact th_iret hC hH hr hlocks rfl hB.2.1 ⟨_, rfl, hB.1, hB.2.2, hR, (hF0.symm.trans hF)⟩ dX12_carpet_48
    · replace hF := hF.trans (if_neg (not_not_intro c21))
      refine lv_aload_n hx hb dX12_carpet_24 rfl (lv_at hl 0 rfl) ?_
      refine lv_bipush (v := (-5)) hx hb dX12_carpet_25 (by decide) ?_
      refine th_call (th_runV (As := [.int (-5)]) (rest := []) hC mf_X12_refuses km_X12_109 im_X12_refuses se_X12_refuses (c_X12_refuses l G Γ H0 hB.1 hR.1 hU a0 h0 (-5) (by decide) (by decide)) rfl rfl ⟨Nat.le_of_ble_eq_true rfl, Nat.le_of_ble_eq_true rfl⟩ hB.1 h0 ro_46 rfl rfl hl.1 rfl (Nat.le_of_ble_eq_true rfl) dX12_carpet_27 ⟨Nat.le_refl _, Nat.le_refl _⟩) hB.2.1 (fun v27 H27 locs hp hz hS => ?_)
      have hRD := hR
      obtain ⟨x6, rfl, q27_0, hI1, hf, hR, z27_0⟩ := hp
      have hR := th_RN_c hR hRD hI1 h0 hf (by decide)
      have hB := th_B_c hB hI1 hS hf (by decide)
      have fv_H27_33 : mo_f G H27 a0 33 = mo_f G H0 a0 33 := mo_f_F hf h0 (by decide) (by decide)
      have vv_H27_2 : mo_v G H27 a0 2 = mo_v G H0 a0 2 := mo_v_F (r := 48) hB.1 hf h0 rfl ro_48 (by decide) (by decide)
      have vv_H27_3 : mo_v G H27 a0 3 = mo_v G H0 a0 3 := mo_v_F (r := 49) hB.1 hf h0 rfl ro_49 (by decide) (by decide)
      have vv_H27_4 : mo_v G H27 a0 4 = mo_v G H0 a0 4 := mo_v_F (r := 50) hB.1 hf h0 rfl ro_50 (by decide) (by decide)
      have vv_H27_31 : mo_v G H27 a0 31 = mo_v G H0 a0 31 := mo_v_F (r := 61) hB.1 hf h0 rfl ro_61 (by decide) (by decide)
      have w27_0 := tk_m5
      have zf27 := z27_0
      rw [tk_m5] at zf27
      replace hF := hF.trans (dv_bn2 (zf27))
      refine W.eq (g2 := F0 m 30 ls [.int x6]) rfl ?_
      exact th_iret hC hH hr hlocks rfl hB.2.1 ⟨_, rfl, hB.1, hB.2.2, hR, (hF0.symm.trans hF)⟩ dX12_carpet_30
  · replace hF := hF.trans (if_neg (not_not_intro c6))
    refine lv_aload_n hx hb dX12_carpet_9 rfl (lv_at hl 0 rfl) ?_
    refine lv_iconst (v := (-1)) hx hb dX12_carpet_10 (by decide) ?_
    refine th_call (th_runV (As := [.int (-1)]) (rest := []) hC mf_X12_refuses km_X12_109 im_X12_refuses se_X12_refuses (c_X12_refuses l G Γ H0 hB.1 hR.1 hU a0 h0 (-1) (by decide) (by decide)) rfl rfl ⟨Nat.le_of_ble_eq_true rfl, Nat.le_of_ble_eq_true rfl⟩ hB.1 h0 ro_46 rfl rfl hl.1 rfl (Nat.le_of_ble_eq_true rfl) dX12_carpet_11 ⟨Nat.le_refl _, Nat.le_refl _⟩) hB.2.1 (fun v11 H11 locs hp hz hS => ?_)
    have hRD := hR
    obtain ⟨x7, rfl, q11_0, hI1, hf, hR, z11_0⟩ := hp
    have hR := th_RN_c hR hRD hI1 h0 hf (by decide)
    have hB := th_B_c hB hI1 hS hf (by decide)
    have fv_H11_33 : mo_f G H11 a0 33 = mo_f G H0 a0 33 := mo_f_F hf h0 (by decide) (by decide)
    have vv_H11_2 : mo_v G H11 a0 2 = mo_v G H0 a0 2 := mo_v_F (r := 48) hB.1 hf h0 rfl ro_48 (by decide) (by decide)
    have vv_H11_3 : mo_v G H11 a0 3 = mo_v G H0 a0 3 := mo_v_F (r := 49) hB.1 hf h0 rfl ro_49 (by decide) (by decide)
    have vv_H11_4 : mo_v G H11 a0 4 = mo_v G H0 a0 4 := mo_v_F (r := 50) hB.1 hf h0 rfl ro_50 (by decide) (by decide)
    have vv_H11_31 : mo_v G H11 a0 31 = mo_v G H0 a0 31 := mo_v_F (r := 61) hB.1 hf h0 rfl ro_61 (by decide) (by decide)
    have w11_0 := tk_m1
    have zf11 := z11_0
    rw [tk_m1] at zf11
    replace hF := hF.trans (dv_bn2 (zf11))
    refine W.eq (g2 := F0 m 14 ls [.int x7]) rfl ?_
    exact th_iret hC hH hr hlocks rfl hB.2.1 ⟨_, rfl, hB.1, hB.2.2, hR, (hF0.symm.trans hF)⟩ dX12_carpet_14

set_option maxHeartbeats 4000000 in
set_option maxRecDepth 100000 in
theorem c_X12_terms (l : Launch) (G : th_G) (Γ : th_Ga) (H0 : Heap) (hI : th_I G Γ H0) (hU : dv_U Γ) (a0 : Nat) (h0 : Γ a0 = (46, 0)) (hR : th_RN a0 G Γ H0) (p1 : Int32) (p2 : Int32) : Met l yX12_terms (.code yX12_terms cX12_terms 4 (some FieldType.int) :: th_tb) ({ frames := 2, cells := 0, slots := 0, locals := 43 } : Room) (th_P [.ref a0, .int p1, .int p2] G H0) (th_Q (fun (v : Option Value) (H1 : Heap) => ∃ r : Int32, v = some (.int r) ∧ th_I G Γ H1 ∧ th_F G Γ [(47, 0), (46, 0), (48, 0), (46, 33)] H0 H1 ∧ th_RN a0 G Γ H1 ∧ (f_X12_terms (dv G Γ H0) (a0 : Int) p1.toInt p2.toInt = (dv G Γ H1, r.toInt))) G) 0 0 (fun q => G.2.2 ≤ q) := by
  refine th_met RX12 (by decide) rfl (Nat.le_of_ble_eq_true rfl) ?_
  intro p e s m below meth c hC hH hr hlocks hnm ls hl
  have hx := hC.1
  have hb := hC.2.1
  have hB : th_B G Γ Γ [(47, 0), (46, 0), (48, 0), (46, 33)] H0 H0 [] := ⟨hI, va_S.rf, th_F_rf⟩
  have hl : lv_has ls 4 [(0, .ref a0), (1, .int p1), (2, .int p2)] := hl
  have lp1 := ti_lo p1; have up1 := ti_hi p1
  have lp2 := ti_lo p2; have up2 := ti_hi p2
  obtain ⟨F, hF0⟩ : ∃ F, F = f_X12_terms (dv G Γ H0) ((a0 : Int)) (p1.toInt) (p2.toInt) := ⟨_, rfl⟩
  have hF := hF0.trans (f_X12_terms.eq_1 (dv G Γ H0) ((a0 : Int)) (p1.toInt) (p2.toInt))
  refine lv_iload_n hx hb dX12_terms_0 rfl (lv_at hl 1 rfl) ?_
  refine lv_iload_n hx hb dX12_terms_1 rfl (lv_at hl 2 rfl) ?_
  refine th_call (th_runS (As := [.int p1, .int p2]) (rest := []) hC mf_X12_isTerm km_X12_162 st_X12_isTerm (c_X12_isTerm l G Γ H0 hB.1 hU p1 p2) rfl rfl ⟨Nat.le_of_ble_eq_true rfl, Nat.le_of_ble_eq_true rfl⟩ rfl hl.1 rfl (Nat.le_of_ble_eq_true rfl) dX12_terms_2 ⟨Nat.le_refl _, Nat.le_refl _⟩) hB.2.1 (fun v2 H2 locs hp hz hS => ?_)
  obtain ⟨x1, rfl, lx1, ux1, q2_0, q2_1, rfl⟩ := hp
  have hB := th_B_s hB hS
  replace hF := hF.trans (dv_bn2 (q2_1))
  refine W.eq (g2 := F0 m 5 ls [.int x1]) rfl ?_
  refine tr_if_ne (tgt := 14) hx hb dX12_terms_5 (by decide) (Eq.refl _) (fun c5 => ?_) (fun c5 => ?_)
  · replace hF := hF.trans (if_pos c5)
    refine lv_aload_n hx hb dX12_terms_14 rfl (lv_at hl 0 rfl) ?_
    have hR := th_NZ hR
    refine th_getO (j := 2) (r2 := 48) hC cf_X12 hB.1 h0 ro_46 rfl rfl kf_X12_28 dX12_terms_15 (fun b2 mb2 hb2 => ?_)
    refine lv_iload_n hx hb dX12_terms_18 rfl (lv_at hl 1 rfl) ?_
    refine th_call (th_runS (As := [.int p1]) (rest := [.ref b2]) hC mf_X12_termAt km_X12_166 st_X12_termAt (c_X12_termAt l G Γ H0 hB.1 hU p1) rfl rfl ⟨Nat.le_of_ble_eq_true rfl, Nat.le_of_ble_eq_true rfl⟩ rfl hl.1 rfl (Nat.le_of_ble_eq_true rfl) dX12_terms_19 ⟨Nat.le_refl _, Nat.le_refl _⟩) hB.2.1 (fun v19 H19 locs hp hz hS => ?_)
    obtain ⟨x3, rfl, lx3, ux3, q19_0, q19_1, rfl⟩ := hp
    have hB := th_B_s hB hS
    replace hF := hF.trans (dv_bn2 (q19_1))
    refine W.eq (g2 := F0 m 22 ls [.int x3, .ref b2]) rfl ?_
    refine th_ialdF hC hB.1 hb2 ro_48 rfl (Eq.refl _) (by omega) (by omega) (ek_t (by omega) (by omega)) dX12_terms_22 (fun x4 mx4 lx4 ux4 => ?_)
    replace hF := hF.trans (dv_bn (dv_aldI hB.1 hU hb2 ow_48 (z := x3.toInt) mx4 (by omega)))
    have vgx4 : mo_v G H0 a0 2 x3.toInt = x4.toInt := by rw [show (x3.toInt : Int) = x3.toInt by omega]; exact mo_vat mb2 mx4 (by omega)
    refine lv_istore_n (lv' := [(3, .int x4), (0, .ref a0), (1, .int p1), (2, .int p2)]) hx hb dX12_terms_23 rfl hl (by decide) rfl (fun ls hl => ?_)
    refine lv_aload_n hx hb dX12_terms_24 rfl (lv_at hl 1 rfl) ?_
    refine th_getK hC cf_X12 hB.1 h0 ro_46 rfl (j := 2) (by decide) mb2 kf_X12_28 dX12_terms_25 ?_
    refine lv_iload_n hx hb dX12_terms_28 rfl (lv_at hl 2 rfl) ?_
    refine th_call (th_runS (As := [.int p1]) (rest := [.ref b2]) hC mf_X12_termAt km_X12_166 st_X12_termAt (c_X12_termAt l G Γ H0 hB.1 hU p1) rfl rfl ⟨Nat.le_of_ble_eq_true rfl, Nat.le_of_ble_eq_true rfl⟩ rfl hl.1 rfl (Nat.le_of_ble_eq_true rfl) dX12_terms_29 ⟨Nat.le_refl _, Nat.le_refl _⟩) hB.2.1 (fun v29 H29 locs hp hz hS => ?_)
    obtain ⟨x5, rfl, lx5, ux5, q29_0, q29_1, rfl⟩ := hp
    have hB := th_B_s hB hS
    replace hF := hF.trans (dv_bn2 (q29_1))
    refine W.eq (g2 := F0 m 32 ls [.int x5, .ref b2]) rfl ?_
    refine lv_iload_n hx hb dX12_terms_32 rfl (lv_at hl 3 rfl) ?_
    have hIo := hB.1
    refine th_iastF hC hB hb2 (Or.inl hb2) ro_48 rfl (by decide) (Eq.refl _) (by omega) (by omega) (by rw [(ek_t (by omega) (by omega))]; exact th_sIa) dX12_terms_33 (fun H33 locs hB hf33 hst33 => ?_)
    have hf := hf33
    have mm6 := (th_F_o hf h0 ro_46 (j := 2) (by decide) (by decide)).trans mb2
    have hRC := th_RC_F hB.1 hR.1 hf (th_T_s hb2 ro_48 hst33) (by decide)
    have fv_H33_33 : mo_f G H33 a0 33 = mo_f G H0 a0 33 := mo_f_F hf h0 (by decide) (by decide)
    have vv_H33_3 : mo_v G H33 a0 3 = mo_v G H0 a0 3 := mo_v_F (r := 49) hB.1 hf h0 rfl ro_49 (by decide) (by decide)
    have vv_H33_4 : mo_v G H33 a0 4 = mo_v G H0 a0 4 := mo_v_F (r := 50) hB.1 hf h0 rfl ro_50 (by decide) (by decide)
    have vv_H33_31 : mo_v G H33 a0 31 = mo_v G H0 a0 31 := mo_v_F (r := 61) hB.1 hf h0 rfl ro_61 (by decide) (by decide)
    replace hF := hF.trans (dv_bn (dv_stoI hIo hB.1 hU hb2 ow_48 (i := x5.toInt) hst33 (Eq.refl _) (by omega)))
    have vs33 : mo_v G H33 a0 2 = mo_u (mo_v G H0 a0 2) x5.toInt p2.toInt := by rw [show (x5.toInt : Int) = x5.toInt by omega]; exact mo_v_st h0 hb2 (by decide) mb2 hst33 (by omega)
    have hR : th_RZ a0 G Γ H33 := ⟨hRC, by rw [vs33, vv_H33_3, vv_H33_4]; exact ⟨(fun q9 => mo_kg_gx q9 (mo_gx_u (by omega)) (mo_lw_u q9.1 (by omega))) hR.2.1, hR.2.2⟩⟩
    refine lv_aload_n hx hb dX12_terms_34 rfl (lv_at hl 1 rfl) ?_
    refine lv_iload_n hx hb dX12_terms_35 rfl (lv_at hl 0 rfl) ?_
    refine th_call (th_runV (As := [.int x4]) (rest := []) hC mf_X12_settled km_X12_112 im_X12_settled se_X12_settled (c_X12_settled l G Γ H33 hB.1 hR.1 hU a0 h0 x4) rfl rfl ⟨Nat.le_of_ble_eq_true rfl, Nat.le_of_ble_eq_true rfl⟩ hB.1 h0 ro_46 rfl rfl hl.1 rfl (Nat.le_of_ble_eq_true rfl) dX12_terms_36 ⟨Nat.le_refl _, Nat.le_refl _⟩) hB.2.1 (fun v36 H36 locs hp hz hS => ?_)
    have hRD := hR
    obtain ⟨x7, rfl, q36_0, hI1, hf, hR, z36_0, z36_1⟩ := hp
    have hR := th_RZ_c hR hRD hI1 h0 hf (by decide)
    have hB := th_B_c hB hI1 hS hf (by decide)
    have mm8 := (th_F_o hf h0 ro_46 (j := 2) (by decide) (by decide)).trans mm6
    have vv_H36_2 : mo_v G H36 a0 2 = mo_v G H33 a0 2 := mo_v_F (r := 48) hB.1 hf h0 rfl ro_48 (by decide) (by decide)
    have vv_H36_3 : mo_v G H36 a0 3 = mo_v G H33 a0 3 := mo_v_F (r := 49) hB.1 hf h0 rfl ro_49 (by decide) (by decide)
    have vv_H36_4 : mo_v G H36 a0 4 = mo_v G H33 a0 4 := mo_v_F (r := 50) hB.1 hf h0 rfl ro_50 (by decide) (by decide)
    have vv_H36_31 : mo_v G H36 a0 31 = mo_v G H33 a0 31 := mo_v_F (r := 61) hB.1 hf h0 rfl ro_61 (by decide) (by decide)
    replace hF := hF.trans (dv_bn2 (z36_1))
    refine W.eq (g2 := F0 m 39 ls [.int x7]) rfl ?_
    have hR := th_ZN hR z36_0
    exact th_iret hC hH hr hlocks rfl hB.2.1 ⟨_, rfl, hB.1, hB.2.2, hR, (hF0.symm.trans hF)⟩ dX12_terms_39
  · replace hF := hF.trans (if_neg (not_not_intro c5))
    refine lv_aload_n hx hb dX12_terms_8 rfl (lv_at hl 0 rfl) ?_
    refine lv_iconst (v := (-1)) hx hb dX12_terms_9 (by decide) ?_
    refine th_call (th_runV (As := [.int (-1)]) (rest := []) hC mf_X12_refuses km_X12_109 im_X12_refuses se_X12_refuses (c_X12_refuses l G Γ H0 hB.1 hR.1 hU a0 h0 (-1) (by decide) (by decide)) rfl rfl ⟨Nat.le_of_ble_eq_true rfl, Nat.le_of_ble_eq_true rfl⟩ hB.1 h0 ro_46 rfl rfl hl.1 rfl (Nat.le_of_ble_eq_true rfl) dX12_terms_10 ⟨Nat.le_refl _, Nat.le_refl _⟩) hB.2.1 (fun v10 H10 locs hp hz hS => ?_)
    have hRD := hR
    obtain ⟨x9, rfl, q10_0, hI1, hf, hR, z10_0⟩ := hp
    have hR := th_RN_c hR hRD hI1 h0 hf (by decide)
    have hB := th_B_c hB hI1 hS hf (by decide)
    have fv_H10_33 : mo_f G H10 a0 33 = mo_f G H0 a0 33 := mo_f_F hf h0 (by decide) (by decide)
    have vv_H10_2 : mo_v G H10 a0 2 = mo_v G H0 a0 2 := mo_v_F (r := 48) hB.1 hf h0 rfl ro_48 (by decide) (by decide)
    have vv_H10_3 : mo_v G H10 a0 3 = mo_v G H0 a0 3 := mo_v_F (r := 49) hB.1 hf h0 rfl ro_49 (by decide) (by decide)
    have vv_H10_4 : mo_v G H10 a0 4 = mo_v G H0 a0 4 := mo_v_F (r := 50) hB.1 hf h0 rfl ro_50 (by decide) (by decide)
    have vv_H10_31 : mo_v G H10 a0 31 = mo_v G H0 a0 31 := mo_v_F (r := 61) hB.1 hf h0 rfl ro_61 (by decide) (by decide)
    have w10_0 := tk_m1
    have zf10 := z10_0
    rw [tk_m1] at zf10
    replace hF := hF.trans (dv_bn2 (zf10))
    refine W.eq (g2 := F0 m 13 ls [.int x9]) rfl ?_
    exact th_iret hC hH hr hlocks rfl hB.2.1 ⟨_, rfl, hB.1, hB.2.2, hR, (hF0.symm.trans hF)⟩ dX12_terms_13

set_option maxHeartbeats 4000000 in
set_option maxRecDepth 100000 in
theorem c_X12_row (l : Launch) (G : th_G) (Γ : th_Ga) (H0 : Heap) (hI : th_I G Γ H0) (hU : dv_U Γ) (a0 : Nat) (h0 : Γ a0 = (46, 0)) (hR : th_RN a0 G Γ H0) : Met l yX12_row (.code yX12_row cX12_row 5 (some FieldType.int) :: th_tb) ({ frames := 3, cells := 0, slots := 0, locals := 64 } : Room) (th_P [.ref a0] G H0) (th_Q (fun (v : Option Value) (H1 : Heap) => ∃ r : Int32, v = some (.int r) ∧ th_I G Γ H1 ∧ th_F G Γ [(47, 0), (46, 0), (48, 0), (46, 33), (46, 6), (46, 13)] H0 H1 ∧ th_RN a0 G Γ H1 ∧ (f_X12_row (dv G Γ H0) (a0 : Int) = (dv G Γ H1, r.toInt))) G) 0 0 (fun q => G.2.2 ≤ q) := by
  refine th_met RX12 (by decide) rfl (Nat.le_of_ble_eq_true rfl) ?_
  intro p e s m below meth c hC hH hr hlocks hnm ls hl
  have hx := hC.1
  have hb := hC.2.1
  have hB : th_B G Γ Γ [(47, 0), (46, 0), (48, 0), (46, 33), (46, 6), (46, 13)] H0 H0 [] := ⟨hI, va_S.rf, th_F_rf⟩
  have hl : lv_has ls 5 [(0, .ref a0)] := hl
  obtain ⟨F, hF0⟩ : ∃ F, F = f_X12_row (dv G Γ H0) ((a0 : Int)) := ⟨_, rfl⟩
  have hF := hF0.trans (f_X12_row.eq_1 (dv G Γ H0) ((a0 : Int)))
  refine lv_aload_n hx hb dX12_row_0 rfl (lv_at hl 0 rfl) ?_
  refine th_getI (j := 13) hC cf_X12 hB.1 h0 ro_46 rfl rfl kf_X12_169 dX12_row_1 (fun x1 mx1 lx1 ux1 => ?_)
  replace hF := hF.trans (dv_bn (dv_getI h0 ro_46 (j := 13) rfl mx1 (by decide)))
  refine lv_istore_n (lv' := [(1, .int x1), (0, .ref a0)]) hx hb dX12_row_4 rfl hl (by decide) rfl (fun ls hl => ?_)
  refine lv_aload_n hx hb dX12_row_5 rfl (lv_at hl 1 rfl) ?_
  refine lv_iconst (v := 0) hx hb dX12_row_6 (by decide) ?_
  refine th_put hC cf_X12 hB h0 (Or.inl h0) ro_46 rfl (j := 13) rfl (th_sI (by decide) (by decide)) (by decide) rfl rfl rfl kf_X12_169 dX12_row_7 (fun H7 locs hB hf hst7 => ?_)
  have hR := th_RN_F hB.1 hR h0 hf (th_T_s h0 ro_46 hst7) (by decide)
  have fv_H7_33 : mo_f G H7 a0 33 = mo_f G H0 a0 33 := mo_f_F hf h0 (by decide) (by decide)
  have vv_H7_2 : mo_v G H7 a0 2 = mo_v G H0 a0 2 := mo_v_F (r := 48) hB.1 hf h0 rfl ro_48 (by decide) (by decide)
  have vv_H7_3 : mo_v G H7 a0 3 = mo_v G H0 a0 3 := mo_v_F (r := 49) hB.1 hf h0 rfl ro_49 (by decide) (by decide)
  have vv_H7_4 : mo_v G H7 a0 4 = mo_v G H0 a0 4 := mo_v_F (r := 50) hB.1 hf h0 rfl ro_50 (by decide) (by decide)
  have vv_H7_31 : mo_v G H7 a0 31 = mo_v G H0 a0 31 := mo_v_F (r := 61) hB.1 hf h0 rfl ro_61 (by decide) (by decide)
  replace hF := hF.trans (dv_bn (dv_putI hB.1 h0 ro_46 (j := 13) rfl (th_apart hC cf_X12) hst7 tk_0 (by decide)))
  refine lv_iload_n hx hb dX12_row_10 rfl (lv_at hl 0 rfl) ?_
  refine tr_if_ne (tgt := 21) hx hb dX12_row_11 (by decide) (Eq.refl _) (fun c11 => ?_) (fun c11 => ?_)
  · replace hF := hF.trans (if_pos c11)
    refine lv_iconst (v := 0) hx hb dX12_row_21 (by decide) ?_
    have hR := th_NZ hR
    refine lv_istore_n (lv' := [(2, .int 0), (1, .int x1), (0, .ref a0)]) hx hb dX12_row_22 rfl hl (by decide) rfl (fun ls hl => ?_)
    refine lv_aload_n hx hb dX12_row_23 rfl (lv_at hl 2 rfl) ?_
    refine lv_iload_n hx hb dX12_row_24 rfl (lv_at hl 1 rfl) ?_
    refine lv_iconst (v := 3) hx hb dX12_row_25 (by decide) ?_
    refine tr_irem hx hb dX12_row_26 (Eq.refl _) tk_3 (by omega) (by omega) (fun x2 ex2 => ?_)
    replace hF := hF.trans (dv_bn (ex2.symm))
    have jn35 : ∀ (locs : List Loc) (ls : Array Slot) (s35_1 : Int32), th_B G Γ Γ [(47, 0), (46, 0), (48, 0), (46, 33), (46, 6), (46, 13)] H0 H7 locs → lv_has ls 5 [(2, .int 0), (1, .int x1), (0, .ref a0)] → F = f_X12_row_35 (dv G Γ H7) (x1.toInt) ((a0 : Int)) (s35_1.toInt) → 0 ≤ s35_1.toInt → s35_1.toInt ≤ 1 → W p l e ({ frames := 3, cells := 0, slots := 0, locals := 64 } : Room) s m ([.ref a0] : List Value).toArray below meth c H7 locs 0 0 (MQ below (th_Q (fun (v : Option Value) (H1 : Heap) => ∃ r : Int32, v = some (.int r) ∧ th_I G Γ H1 ∧ th_F G Γ [(47, 0), (46, 0), (48, 0), (46, 33), (46, 6), (46, 13)] H0 H1 ∧ th_RN a0 G Γ H1 ∧ (f_X12_row (dv G Γ H0) (a0 : Int) = (dv G Γ H1, r.toInt))) G) ([.ref a0] : List Value).toArray s 0 0 (fun q => G.2.2 ≤ q)) (F0 m 35 ls [.int s35_1, .ref a0]) := by
      intro locs ls s35_1 hB hl hF g35_0 g35_1
      have ls35_1 := ti_lo s35_1; have us35_1 := ti_hi s35_1
      replace hF := hF.trans (f_X12_row_35.eq_1 (dv G Γ H7) (x1.toInt) ((a0 : Int)) (s35_1.toInt))
      refine th_put hC cf_X12 hB h0 (Or.inl h0) ro_46 rfl (j := 6) rfl th_sIa (by decide) rfl rfl rfl kf_X12_172 dX12_row_35 (fun H35 locs hB hf hst35 => ?_)
      have hR := th_RZ_F hB.1 hR h0 hf (th_T_s h0 ro_46 hst35) (by decide)
      have fv_H35_33 : mo_f G H35 a0 33 = mo_f G H7 a0 33 := mo_f_F hf h0 (by decide) (by decide)
      have vv_H35_2 : mo_v G H35 a0 2 = mo_v G H7 a0 2 := mo_v_F (r := 48) hB.1 hf h0 rfl ro_48 (by decide) (by decide)
      have vv_H35_3 : mo_v G H35 a0 3 = mo_v G H7 a0 3 := mo_v_F (r := 49) hB.1 hf h0 rfl ro_49 (by decide) (by decide)
      have vv_H35_4 : mo_v G H35 a0 4 = mo_v G H7 a0 4 := mo_v_F (r := 50) hB.1 hf h0 rfl ro_50 (by decide) (by decide)
      have vv_H35_31 : mo_v G H35 a0 31 = mo_v G H7 a0 31 := mo_v_F (r := 61) hB.1 hf h0 rfl ro_61 (by decide) (by decide)
      replace hF := hF.trans (dv_bn (dv_putI hB.1 h0 ro_46 (j := 6) rfl (th_apart hC cf_X12) hst35 (Eq.refl _) (by decide)))
      have mm3 := hst35.2.1
      refine lv_iconst (v := 0) hx hb dX12_row_38 (by decide) ?_
      refine lv_istore_n (lv' := [(3, .int 0), (2, .int 0), (1, .int x1), (0, .ref a0)]) hx hb dX12_row_39 rfl hl (by decide) rfl (fun ls hl => ?_)
      have lp40 : ∀ (n40 : Nat) (H40 : Heap) (locs : List Loc) (ls : Array Slot) (j40_2 : Int32) (j40_3 : Int32), th_B G Γ Γ [(47, 0), (46, 0), (48, 0), (46, 33), (46, 6), (46, 13)] H0 H40 locs → th_RZ a0 G Γ H40 → lv_has ls 5 [(1, .int x1), (0, .ref a0), (2, .int j40_2), (3, .int j40_3)] → F = dv_lp f_X12_row_40b (dv G Γ H40, x1.toInt, (a0 : Int), j40_2.toInt, j40_3.toInt) → 0 ≤ j40_3.toInt → j40_3.toInt ≤ 400 → (2147483648 : Int) - j40_3.toInt ≤ (n40 : Int) → W p l e ({ frames := 3, cells := 0, slots := 0, locals := 64 } : Room) s m ([.ref a0] : List Value).toArray below meth c H40 locs 0 0 (MQ below (th_Q (fun (v : Option Value) (H1 : Heap) => ∃ r : Int32, v = some (.int r) ∧ th_I G Γ H1 ∧ th_F G Γ [(47, 0), (46, 0), (48, 0), (46, 33), (46, 6), (46, 13)] H0 H1 ∧ th_RN a0 G Γ H1 ∧ (f_X12_row (dv G Γ H0) (a0 : Int) = (dv G Γ H1, r.toInt))) G) ([.ref a0] : List Value).toArray s 0 0 (fun q => G.2.2 ≤ q)) (F0 m 40 ls []) := by
        intro n40
        induction n40 with
        | zero => intro H40 locs ls j40_2 j40_3 hB hR hl hF g40_0 g40_1 hm40; exact absurd hm40 (by have := ti_hi j40_3; omega)
        | succ n40 ih40 =>
          intro H40 locs ls j40_2 j40_3 hB hR hl hF g40_0 g40_1 hm40
          have lj40_2 := ti_lo j40_2; have uj40_2 := ti_hi j40_2
          have lj40_3 := ti_lo j40_3; have uj40_3 := ti_hi j40_3
          have vw_H40_3 : mo_v G H40 a0 3 = mo_v G H0 a0 3 := mo_v_F (r := 49) hB.1 hB.2.2 h0 rfl ro_49 (by decide) (by decide)
          have vw_H40_4 : mo_v G H40 a0 4 = mo_v G H0 a0 4 := mo_v_F (r := 50) hB.1 hB.2.2 h0 rfl ro_50 (by decide) (by decide)
          have vw_H40_31 : mo_v G H40 a0 31 = mo_v G H0 a0 31 := mo_v_F (r := 61) hB.1 hB.2.2 h0 rfl ro_61 (by decide) (by decide)
          have hm40 : (2147483648 : Int) - j40_3.toInt ≤ (n40 : Int) + 1 := by omega
          replace hF := hF.trans (dv_lp_eq)
          replace hF := hF.trans (congrArg (dv_k f_X12_row_40b) (f_X12_row_40c.eq_1 (dv G Γ H40) (x1.toInt) ((a0 : Int)) (j40_2.toInt) (j40_3.toInt)))
          refine lv_iload_n hx hb dX12_row_40 rfl (lv_at hl 3 rfl) ?_
          refine lv_iconst (v := 3) hx hb dX12_row_41 (by decide) ?_
          refine tr_iadd hx hb dX12_row_42 (Eq.refl _) tk_3 (by omega) (by omega) (fun x4 ex4 => ?_)
          replace hF := hF.trans (congrArg (dv_k f_X12_row_40b) (dv_bn (ex4.symm)))
          refine lv_iload_n hx hb dX12_row_43 rfl (lv_at hl 0 rfl) ?_
          refine tr_icmp_gt (tgt := 160) hx hb dX12_row_44 (by decide) (Eq.refl _) (Eq.refl _) (fun c44 => ?_) (fun c44 => ?_)
          · replace hF := hF.trans (congrArg (dv_k f_X12_row_40b) (if_pos c44))
            refine lv_aload_n hx hb dX12_row_160 rfl (lv_at hl 1 rfl) ?_
            refine lv_iload_n hx hb dX12_row_161 rfl (lv_at hl 2 rfl) ?_
            refine th_call (th_runV (As := [.int j40_2]) (rest := []) hC mf_X12_settled km_X12_112 im_X12_settled se_X12_settled (c_X12_settled l G Γ H40 hB.1 hR.1 hU a0 h0 j40_2) rfl rfl ⟨Nat.le_of_ble_eq_true rfl, Nat.le_of_ble_eq_true rfl⟩ hB.1 h0 ro_46 rfl rfl hl.1 rfl (Nat.le_of_ble_eq_true rfl) dX12_row_162 ⟨Nat.le_refl _, Nat.le_refl _⟩) hB.2.1 (fun v162 H162 locs hp hz hS => ?_)
            have hRD := hR
            obtain ⟨x5, rfl, q162_0, hI1, hf, hR, z162_0, z162_1⟩ := hp
            have hR := th_RZ_c hR hRD hI1 h0 hf (by decide)
            have hB := th_B_c hB hI1 hS hf (by decide)
            have vv_H162_2 : mo_v G H162 a0 2 = mo_v G H40 a0 2 := mo_v_F (r := 48) hB.1 hf h0 rfl ro_48 (by decide) (by decide)
            have vv_H162_3 : mo_v G H162 a0 3 = mo_v G H40 a0 3 := mo_v_F (r := 49) hB.1 hf h0 rfl ro_49 (by decide) (by decide)
            have vv_H162_4 : mo_v G H162 a0 4 = mo_v G H40 a0 4 := mo_v_F (r := 50) hB.1 hf h0 rfl ro_50 (by decide) (by decide)
            have vv_H162_31 : mo_v G H162 a0 31 = mo_v G H40 a0 31 := mo_v_F (r := 61) hB.1 hf h0 rfl ro_61 (by decide) (by decide)
            replace hF := hF.trans (congrArg (dv_k f_X12_row_40b) (dv_bn2 (z162_1)))
            refine W.eq (g2 := F0 m 165 ls [.int x5]) rfl ?_
            have hR := th_ZN hR z162_0
            replace hF := hF.trans (dv_kr)
            exact th_iret hC hH hr hlocks rfl hB.2.1 ⟨_, rfl, hB.1, hB.2.2, hR, (hF0.symm.trans hF)⟩ dX12_row_165
          · replace hF := hF.trans (congrArg (dv_k f_X12_row_40b) (if_neg (Int.not_lt.mpr c44)))
            refine lv_aload_n hx hb dX12_row_47 rfl (lv_at hl 1 rfl) ?_
            refine th_call (th_runV (As := []) (rest := []) hC mf_X12_many km_X12_115 im_X12_many se_X12_many (c_X12_many l G Γ H40 hB.1 hU a0 h0) rfl rfl ⟨Nat.le_of_ble_eq_true rfl, Nat.le_of_ble_eq_true rfl⟩ hB.1 h0 ro_46 rfl rfl hl.1 rfl (Nat.le_of_ble_eq_true rfl) dX12_row_48 ⟨Nat.le_refl _, Nat.le_refl _⟩) hB.2.1 (fun v48 H48 locs hp hz hS => ?_)
            obtain ⟨x6, rfl, lx6, ux6, q48_0, q48_1, rfl⟩ := hp
            have hB := th_B_s hB hS
            replace hF := hF.trans (congrArg (dv_k f_X12_row_40b) (dv_bn2 (q48_1)))
            refine W.eq (g2 := F0 m 51 ls [.int x6]) rfl ?_
            refine lv_bipush (v := 9) hx hb dX12_row_51 (by decide) ?_
            refine tr_icmp_ge (tgt := 88) hx hb dX12_row_53 (by decide) (Eq.refl _) tk_9 (fun c53 => ?_) (fun c53 => ?_)
            · replace hF := hF.trans (congrArg (dv_k f_X12_row_40b) (if_pos c53))
              refine lv_iconst (v := 0) hx hb dX12_row_88 (by decide) ?_
              refine lv_istore (lv' := [(4, .int 0), (1, .int x1), (0, .ref a0), (2, .int j40_2), (3, .int j40_3)]) hx hb dX12_row_89 hl (by decide) rfl (fun ls hl => ?_)
              refine lv_iload hx hb dX12_row_91 (lv_at hl 0 rfl) ?_
              have jn122 : ∀ (H122 : Heap) (locs : List Loc) (ls : Array Slot) , th_B G Γ Γ [(47, 0), (46, 0), (48, 0), (46, 33), (46, 6), (46, 13)] H0 H122 locs → th_RZ a0 G Γ H122 → lv_has ls 5 [(4, .int 0), (1, .int x1), (0, .ref a0), (2, .int j40_2), (3, .int j40_3)] → F = dv_k f_X12_row_40b (f_X12_row_122 (dv G Γ H122) (x1.toInt) ((a0 : Int)) (j40_2.toInt) (j40_3.toInt)) → W p l e ({ frames := 3, cells := 0, slots := 0, locals := 64 } : Room) s m ([.ref a0] : List Value).toArray below meth c H122 locs 0 0 (MQ below (th_Q (fun (v : Option Value) (H1 : Heap) => ∃ r : Int32, v = some (.int r) ∧ th_I G Γ H1 ∧ th_F G Γ [(47, 0), (46, 0), (48, 0), (46, 33), (46, 6), (46, 13)] H0 H1 ∧ th_RN a0 G Γ H1 ∧ (f_X12_row (dv G Γ H0) (a0 : Int) = (dv G Γ H1, r.toInt))) G) ([.ref a0] : List Value).toArray s 0 0 (fun q => G.2.2 ≤ q)) (F0 m 122 ls []) := by
                intro H122 locs ls hB hR hl hF
                have vw_H122_3 : mo_v G H122 a0 3 = mo_v G H0 a0 3 := mo_v_F (r := 49) hB.1 hB.2.2 h0 rfl ro_49 (by decide) (by decide)
                have vw_H122_4 : mo_v G H122 a0 4 = mo_v G H0 a0 4 := mo_v_F (r := 50) hB.1 hB.2.2 h0 rfl ro_50 (by decide) (by decide)
                have vw_H122_31 : mo_v G H122 a0 31 = mo_v G H0 a0 31 := mo_v_F (r := 61) hB.1 hB.2.2 h0 rfl ro_61 (by decide) (by decide)
                replace hF := hF.trans (congrArg (dv_k f_X12_row_40b) (f_X12_row_122.eq_1 (dv G Γ H122) (x1.toInt) ((a0 : Int)) (j40_2.toInt) (j40_3.toInt)))
                refine lv_iload_n hx hb dX12_row_122 rfl (lv_at hl 3 rfl) ?_
                refine lv_iload hx hb dX12_row_123 (lv_at hl 0 rfl) ?_
                refine tr_if_eq (tgt := 132) hx hb dX12_row_125 (by decide) tk_0 (fun c125 => ?_) (fun c125 => ?_)
                · refine lv_iconst (v := 0) hx hb dX12_row_132 (by decide) ?_
                  refine tr_iadd hx hb dX12_row_133 (Eq.refl _) tk_0 (by omega) (by omega) (fun x7 ex7 => ?_)
                  replace hF := hF.trans (congrArg (dv_k f_X12_row_40b) (dv_bn (ex7.symm)))
                  refine lv_istore_n (lv' := [(2, .int x7), (4, .int 0), (1, .int x1), (0, .ref a0), (3, .int j40_3)]) hx hb dX12_row_134 rfl hl (by decide) rfl (fun ls hl => ?_)
                  refine lv_aload_n hx hb dX12_row_135 rfl (lv_at hl 3 rfl) ?_
                  refine lv_dup hx hb dX12_row_136 rfl ?_
                  refine th_getI (j := 6) hC cf_X12 hB.1 h0 ro_46 rfl rfl kf_X12_172 dX12_row_137 (fun x8 mx8 lx8 ux8 => ?_)
                  replace hF := hF.trans (congrArg (dv_k f_X12_row_40b) (dv_bn (dv_getI h0 ro_46 (j := 6) rfl mx8 (by decide))))
                  refine lv_iload hx hb dX12_row_140 (lv_at hl 1 rfl) ?_
                  refine tr_if_eq (tgt := 149) hx hb dX12_row_142 (by decide) tk_0 (fun c142 => ?_) (fun c142 => ?_)
                  · refine lv_iconst (v := 1) hx hb dX12_row_149 (by decide) ?_
                    refine lv_iadd hx hb dX12_row_150 ?_
                    refine lv_topi (fun x9 ex9 => ?_)
                    have lx9 := ti_lo x9; have ux9 := ti_hi x9
                    replace hF := hF.trans (congrArg (dv_k f_X12_row_40b) (dv_bn (dv_add_e (Eq.refl _) tk_1 ex9)))
                    refine th_put hC cf_X12 hB h0 (Or.inl h0) ro_46 rfl (j := 6) rfl th_sIa (by decide) rfl rfl rfl kf_X12_172 dX12_row_151 (fun H151 locs hB hf hst151 => ?_)
                    have hR := th_RZ_F hB.1 hR h0 hf (th_T_s h0 ro_46 hst151) (by decide)
                    have fv_H151_33 : mo_f G H151 a0 33 = mo_f G H122 a0 33 := mo_f_F hf h0 (by decide) (by decide)
                    have vv_H151_2 : mo_v G H151 a0 2 = mo_v G H122 a0 2 := mo_v_F (r := 48) hB.1 hf h0 rfl ro_48 (by decide) (by decide)
                    have vv_H151_3 : mo_v G H151 a0 3 = mo_v G H122 a0 3 := mo_v_F (r := 49) hB.1 hf h0 rfl ro_49 (by decide) (by decide)
                    have vv_H151_4 : mo_v G H151 a0 4 = mo_v G H122 a0 4 := mo_v_F (r := 50) hB.1 hf h0 rfl ro_50 (by decide) (by decide)
                    have vv_H151_31 : mo_v G H151 a0 31 = mo_v G H122 a0 31 := mo_v_F (r := 61) hB.1 hf h0 rfl ro_61 (by decide) (by decide)
                    replace hF := hF.trans (congrArg (dv_k f_X12_row_40b) (dv_bn (dv_putI hB.1 h0 ro_46 (j := 6) rfl (th_apart hC cf_X12) hst151 (Eq.refl _) (by decide))))
                    have mm10 := hst151.2.1
                    refine tr_iinc (fun x11 => [(3, .int x11), (2, .int x7), (4, .int 0), (1, .int x1), (0, .ref a0)]) hx hb dX12_row_154 hl (k := 4) rfl (Eq.refl _) tk_3 (by omega) (by omega) (by decide) (fun _ => rfl) (fun x11 ls ex11 hl => ?_)
                    replace hF := hF.trans (congrArg (dv_k f_X12_row_40b) (dv_bn (ex11.symm)))
                    refine lv_goto (tgt := 40) hx hb dX12_row_157 (by decide) ?_
                    replace hF := hF.trans (dv_kl)
                    exact ih40 H151 locs ls x7 x11 hB hR (lv_sub hl [3, 4, 1, 0] rfl) hF (by omega) (by omega) (by omega)
                  · exfalso; omega
                · exfalso; omega
              refine tr_if_eq (tgt := 122) hx hb dX12_row_93 (by decide) tk_0 (fun c93 => ?_) (fun c93 => ?_)
              · exact jn122 H40 locs ls hB hR (lv_sub hl [0, 1, 2, 3, 4] rfl) hF
              · exfalso; omega
            · replace hF := hF.trans (congrArg (dv_k f_X12_row_40b) (if_neg (Int.not_le.mpr c53)))
              refine lv_aload_n hx hb dX12_row_56 rfl (lv_at hl 1 rfl) ?_
              refine th_getO (j := 11) (r2 := 53) hC cf_X12 hB.1 h0 ro_46 rfl rfl kf_X12_45 dX12_row_57 (fun b12 mb12 hb12 => ?_)
              have sb12 := (th_F_o hB.2.2 h0 ro_46 (j := 11) (by decide) (by decide)).symm.trans mb12
              refine lv_iload_n hx hb dX12_row_60 rfl (lv_at hl 3 rfl) ?_
              refine th_baldF hC hB.1 hb12 ro_53 rfl (Eq.refl _) (by omega) (by omega) rfl dX12_row_61 (fun x13 mx13 lx13 ux13 => ?_)
              replace hF := hF.trans (congrArg (dv_k f_X12_row_40b) (dv_bn (dv_aldI hB.1 hU hb12 ow_53 (z := j40_3.toInt) mx13 (by omega))))
              refine lv_aload_n hx hb dX12_row_62 rfl (lv_at hl 1 rfl) ?_
              refine th_getK hC cf_X12 hB.1 h0 ro_46 rfl (j := 11) (by decide) mb12 kf_X12_45 dX12_row_63 ?_
              refine lv_iload_n hx hb dX12_row_66 rfl (lv_at hl 3 rfl) ?_
              refine lv_iconst (v := 1) hx hb dX12_row_67 (by decide) ?_
              refine tr_iadd hx hb dX12_row_68 (Eq.refl _) tk_1 (by omega) (by omega) (fun x14 ex14 => ?_)
              replace hF := hF.trans (congrArg (dv_k f_X12_row_40b) (dv_bn (ex14.symm)))
              refine th_baldF hC hB.1 hb12 ro_53 rfl (Eq.refl _) (by omega) (by omega) rfl dX12_row_69 (fun x15 mx15 lx15 ux15 => ?_)
              replace hF := hF.trans (congrArg (dv_k f_X12_row_40b) (dv_bn (dv_aldI hB.1 hU hb12 ow_53 (z := x14.toInt) mx15 (by omega))))
              refine lv_aload_n hx hb dX12_row_70 rfl (lv_at hl 1 rfl) ?_
              refine th_getK hC cf_X12 hB.1 h0 ro_46 rfl (j := 11) (by decide) mb12 kf_X12_45 dX12_row_71 ?_
              refine lv_iload_n hx hb dX12_row_74 rfl (lv_at hl 3 rfl) ?_
              refine lv_iconst (v := 2) hx hb dX12_row_75 (by decide) ?_
              refine tr_iadd hx hb dX12_row_76 (Eq.refl _) tk_2 (by omega) (by omega) (fun x16 ex16 => ?_)
              replace hF := hF.trans (congrArg (dv_k f_X12_row_40b) (dv_bn (ex16.symm)))
              refine th_baldF hC hB.1 hb12 ro_53 rfl (Eq.refl _) (by omega) (by omega) rfl dX12_row_77 (fun x17 mx17 lx17 ux17 => ?_)
              replace hF := hF.trans (congrArg (dv_k f_X12_row_40b) (dv_bn (dv_aldI hB.1 hU hb12 ow_53 (z := x16.toInt) mx17 (by omega))))
              refine th_call (th_runS (As := [.int x13, .int x15, .int x17]) (rest := []) hC mf_X12_canBe km_X12_127 st_X12_canBe (c_X12_canBe l G Γ H40 hB.1 hU x13 x15 x17) rfl rfl ⟨Nat.le_of_ble_eq_true rfl, Nat.le_of_ble_eq_true rfl⟩ rfl hl.1 rfl (Nat.le_of_ble_eq_true rfl) dX12_row_78 ⟨Nat.le_refl _, Nat.le_refl _⟩) hB.2.1 (fun v78 H78 locs hp hz hS => ?_)
              obtain ⟨x18, rfl, lx18, ux18, q78_0, q78_1, rfl⟩ := hp
              have hB := th_B_s hB hS
              replace hF := hF.trans (congrArg (dv_k f_X12_row_40b) (dv_bn2 (q78_1)))
              refine W.eq (g2 := F0 m 81 ls [.int x18]) rfl ?_
              refine tr_if_eq (tgt := 88) hx hb dX12_row_81 (by decide) (Eq.refl _) (fun c81 => ?_) (fun c81 => ?_)
              · replace hF := hF.trans (congrArg (dv_k f_X12_row_40b) (if_pos c81))
                refine lv_iconst (v := 0) hx hb dX12_row_88 (by decide) ?_
                refine lv_istore (lv' := [(4, .int 0), (1, .int x1), (0, .ref a0), (2, .int j40_2), (3, .int j40_3)]) hx hb dX12_row_89 hl (by decide) rfl (fun ls hl => ?_)
                refine lv_iload hx hb dX12_row_91 (lv_at hl 0 rfl) ?_
                have jn122 : ∀ (H122 : Heap) (locs : List Loc) (ls : Array Slot) , th_B G Γ Γ [(47, 0), (46, 0), (48, 0), (46, 33), (46, 6), (46, 13)] H0 H122 locs → th_RZ a0 G Γ H122 → lv_has ls 5 [(4, .int 0), (1, .int x1), (0, .ref a0), (2, .int j40_2), (3, .int j40_3)] → F = dv_k f_X12_row_40b (f_X12_row_122x2 (dv G Γ H122) (x1.toInt) ((a0 : Int)) (j40_2.toInt) (j40_3.toInt)) → W p l e ({ frames := 3, cells := 0, slots := 0, locals := 64 } : Room) s m ([.ref a0] : List Value).toArray below meth c H122 locs 0 0 (MQ below (th_Q (fun (v : Option Value) (H1 : Heap) => ∃ r : Int32, v = some (.int r) ∧ th_I G Γ H1 ∧ th_F G Γ [(47, 0), (46, 0), (48, 0), (46, 33), (46, 6), (46, 13)] H0 H1 ∧ th_RN a0 G Γ H1 ∧ (f_X12_row (dv G Γ H0) (a0 : Int) = (dv G Γ H1, r.toInt))) G) ([.ref a0] : List Value).toArray s 0 0 (fun q => G.2.2 ≤ q)) (F0 m 122 ls []) := by
                  intro H122 locs ls hB hR hl hF
                  have mm19 := (th_F_o hB.2.2 h0 ro_46 (j := 11) (by decide) (by decide)).trans sb12
                  have vw_H122_3 : mo_v G H122 a0 3 = mo_v G H0 a0 3 := mo_v_F (r := 49) hB.1 hB.2.2 h0 rfl ro_49 (by decide) (by decide)
                  have vw_H122_4 : mo_v G H122 a0 4 = mo_v G H0 a0 4 := mo_v_F (r := 50) hB.1 hB.2.2 h0 rfl ro_50 (by decide) (by decide)
                  have vw_H122_31 : mo_v G H122 a0 31 = mo_v G H0 a0 31 := mo_v_F (r := 61) hB.1 hB.2.2 h0 rfl ro_61 (by decide) (by decide)
                  replace hF := hF.trans (congrArg (dv_k f_X12_row_40b) (f_X12_row_122x2.eq_1 (dv G Γ H122) (x1.toInt) ((a0 : Int)) (j40_2.toInt) (j40_3.toInt)))
                  refine lv_iload_n hx hb dX12_row_122 rfl (lv_at hl 3 rfl) ?_
                  refine lv_iload hx hb dX12_row_123 (lv_at hl 0 rfl) ?_
                  refine tr_if_eq (tgt := 132) hx hb dX12_row_125 (by decide) tk_0 (fun c125 => ?_) (fun c125 => ?_)
                  · refine lv_iconst (v := 0) hx hb dX12_row_132 (by decide) ?_
                    refine tr_iadd hx hb dX12_row_133 (Eq.refl _) tk_0 (by omega) (by omega) (fun x20 ex20 => ?_)
                    replace hF := hF.trans (congrArg (dv_k f_X12_row_40b) (dv_bn (ex20.symm)))
                    refine lv_istore_n (lv' := [(2, .int x20), (4, .int 0), (1, .int x1), (0, .ref a0), (3, .int j40_3)]) hx hb dX12_row_134 rfl hl (by decide) rfl (fun ls hl => ?_)
                    refine lv_aload_n hx hb dX12_row_135 rfl (lv_at hl 3 rfl) ?_
                    refine lv_dup hx hb dX12_row_136 rfl ?_
                    refine th_getI (j := 6) hC cf_X12 hB.1 h0 ro_46 rfl rfl kf_X12_172 dX12_row_137 (fun x21 mx21 lx21 ux21 => ?_)
                    replace hF := hF.trans (congrArg (dv_k f_X12_row_40b) (dv_bn (dv_getI h0 ro_46 (j := 6) rfl mx21 (by decide))))
                    refine lv_iload hx hb dX12_row_140 (lv_at hl 1 rfl) ?_
                    refine tr_if_eq (tgt := 149) hx hb dX12_row_142 (by decide) tk_0 (fun c142 => ?_) (fun c142 => ?_)
                    · refine lv_iconst (v := 1) hx hb dX12_row_149 (by decide) ?_
                      refine lv_iadd hx hb dX12_row_150 ?_
                      refine lv_topi (fun x22 ex22 => ?_)
                      have lx22 := ti_lo x22; have ux22 := ti_hi x22
                      replace hF := hF.trans (congrArg (dv_k f_X12_row_40b) (dv_bn (dv_add_e (Eq.refl _) tk_1 ex22)))
                      refine th_put hC cf_X12 hB h0 (Or.inl h0) ro_46 rfl (j := 6) rfl th_sIa (by decide) rfl rfl rfl kf_X12_172 dX12_row_151 (fun H151 locs hB hf hst151 => ?_)
                      have mm23 := (th_F_o hf h0 ro_46 (j := 11) (by decide) (by decide)).trans mm19
                      have hR := th_RZ_F hB.1 hR h0 hf (th_T_s h0 ro_46 hst151) (by decide)
                      have fv_H151_33 : mo_f G H151 a0 33 = mo_f G H122 a0 33 := mo_f_F hf h0 (by decide) (by decide)
                      have vv_H151_2 : mo_v G H151 a0 2 = mo_v G H122 a0 2 := mo_v_F (r := 48) hB.1 hf h0 rfl ro_48 (by decide) (by decide)
                      have vv_H151_3 : mo_v G H151 a0 3 = mo_v G H122 a0 3 := mo_v_F (r := 49) hB.1 hf h0 rfl ro_49 (by decide) (by decide)
                      have vv_H151_4 : mo_v G H151 a0 4 = mo_v G H122 a0 4 := mo_v_F (r := 50) hB.1 hf h0 rfl ro_50 (by decide) (by decide)
                      have vv_H151_31 : mo_v G H151 a0 31 = mo_v G H122 a0 31 := mo_v_F (r := 61) hB.1 hf h0 rfl ro_61 (by decide) (by decide)
                      replace hF := hF.trans (congrArg (dv_k f_X12_row_40b) (dv_bn (dv_putI hB.1 h0 ro_46 (j := 6) rfl (th_apart hC cf_X12) hst151 (Eq.refl _) (by decide))))
                      have mm24 := hst151.2.1
                      refine tr_iinc (fun x25 => [(3, .int x25), (2, .int x20), (4, .int 0), (1, .int x1), (0, .ref a0)]) hx hb dX12_row_154 hl (k := 4) rfl (Eq.refl _) tk_3 (by omega) (by omega) (by decide) (fun _ => rfl) (fun x25 ls ex25 hl => ?_)
                      replace hF := hF.trans (congrArg (dv_k f_X12_row_40b) (dv_bn (ex25.symm)))
                      refine lv_goto (tgt := 40) hx hb dX12_row_157 (by decide) ?_
                      replace hF := hF.trans (dv_kl)
                      exact ih40 H151 locs ls x20 x25 hB hR (lv_sub hl [3, 4, 1, 0] rfl) hF (by omega) (by omega) (by omega)
                    · exfalso; omega
                  · exfalso; omega
                refine tr_if_eq (tgt := 122) hx hb dX12_row_93 (by decide) tk_0 (fun c93 => ?_) (fun c93 => ?_)
                · exact jn122 H40 locs ls hB hR (lv_sub hl [0, 1, 2, 3, 4] rfl) hF
                · exfalso; omega
              · replace hF := hF.trans (congrArg (dv_k f_X12_row_40b) (if_neg c81))
                refine lv_iconst (v := 1) hx hb dX12_row_84 (by decide) ?_
                refine lv_goto (tgt := 89) hx hb dX12_row_85 (by decide) ?_
                refine lv_istore (lv' := [(4, .int 1), (1, .int x1), (0, .ref a0), (2, .int j40_2), (3, .int j40_3)]) hx hb dX12_row_89 hl (by decide) rfl (fun ls hl => ?_)
                refine lv_iload hx hb dX12_row_91 (lv_at hl 0 rfl) ?_
                have jn122 : ∀ (H122 : Heap) (locs : List Loc) (ls : Array Slot) , th_B G Γ Γ [(47, 0), (46, 0), (48, 0), (46, 33), (46, 6), (46, 13)] H0 H122 locs → th_RZ a0 G Γ H122 → lv_has ls 5 [(4, .int 1), (1, .int x1), (0, .ref a0), (2, .int j40_2), (3, .int j40_3)] → F = dv_k f_X12_row_40b (f_X12_row_122x3 (dv G Γ H122) (x1.toInt) ((a0 : Int)) (j40_2.toInt) (j40_3.toInt)) → W p l e ({ frames := 3, cells := 0, slots := 0, locals := 64 } : Room) s m ([.ref a0] : List Value).toArray below meth c H122 locs 0 0 (MQ below (th_Q (fun (v : Option Value) (H1 : Heap) => ∃ r : Int32, v = some (.int r) ∧ th_I G Γ H1 ∧ th_F G Γ [(47, 0), (46, 0), (48, 0), (46, 33), (46, 6), (46, 13)] H0 H1 ∧ th_RN a0 G Γ H1 ∧ (f_X12_row (dv G Γ H0) (a0 : Int) = (dv G Γ H1, r.toInt))) G) ([.ref a0] : List Value).toArray s 0 0 (fun q => G.2.2 ≤ q)) (F0 m 122 ls []) := by
                  intro H122 locs ls hB hR hl hF
                  have mm26 := (th_F_o hB.2.2 h0 ro_46 (j := 11) (by decide) (by decide)).trans sb12
                  have vw_H122_3 : mo_v G H122 a0 3 = mo_v G H0 a0 3 := mo_v_F (r := 49) hB.1 hB.2.2 h0 rfl ro_49 (by decide) (by decide)
                  have vw_H122_4 : mo_v G H122 a0 4 = mo_v G H0 a0 4 := mo_v_F (r := 50) hB.1 hB.2.2 h0 rfl ro_50 (by decide) (by decide)
                  have vw_H122_31 : mo_v G H122 a0 31 = mo_v G H0 a0 31 := mo_v_F (r := 61) hB.1 hB.2.2 h0 rfl ro_61 (by decide) (by decide)
                  replace hF := hF.trans (congrArg (dv_k f_X12_row_40b) (f_X12_row_122x3.eq_1 (dv G Γ H122) (x1.toInt) ((a0 : Int)) (j40_2.toInt) (j40_3.toInt)))
                  refine lv_iload_n hx hb dX12_row_122 rfl (lv_at hl 3 rfl) ?_
                  refine lv_iload hx hb dX12_row_123 (lv_at hl 0 rfl) ?_
                  refine tr_if_eq (tgt := 132) hx hb dX12_row_125 (by decide) tk_1 (fun c125 => ?_) (fun c125 => ?_)
                  · exfalso; omega
                  · refine lv_iconst (v := 1) hx hb dX12_row_128 (by decide) ?_
                    refine lv_goto (tgt := 133) hx hb dX12_row_129 (by decide) ?_
                    refine lv_iadd hx hb dX12_row_133 ?_
                    refine lv_topi (fun x27 ex27 => ?_)
                    have lx27 := ti_lo x27; have ux27 := ti_hi x27
                    replace hF := hF.trans (congrArg (dv_k f_X12_row_40b) (dv_bn (dv_add_e (Eq.refl _) tk_1 ex27)))
                    refine lv_istore_n (lv' := [(2, .int x27), (4, .int 1), (1, .int x1), (0, .ref a0), (3, .int j40_3)]) hx hb dX12_row_134 rfl hl (by decide) rfl (fun ls hl => ?_)
                    refine lv_aload_n hx hb dX12_row_135 rfl (lv_at hl 3 rfl) ?_
                    refine lv_dup hx hb dX12_row_136 rfl ?_
                    refine th_getI (j := 6) hC cf_X12 hB.1 h0 ro_46 rfl rfl kf_X12_172 dX12_row_137 (fun x28 mx28 lx28 ux28 => ?_)
                    replace hF := hF.trans (congrArg (dv_k f_X12_row_40b) (dv_bn (dv_getI h0 ro_46 (j := 6) rfl mx28 (by decide))))
                    refine lv_iload hx hb dX12_row_140 (lv_at hl 1 rfl) ?_
                    refine tr_if_eq (tgt := 149) hx hb dX12_row_142 (by decide) tk_1 (fun c142 => ?_) (fun c142 => ?_)
                    · exfalso; omega
                    · refine lv_iconst (v := 0) hx hb dX12_row_145 (by decide) ?_
                      refine lv_goto (tgt := 150) hx hb dX12_row_146 (by decide) ?_
                      refine tr_iadd hx hb dX12_row_150 (Eq.refl _) tk_0 (by omega) (by omega) (fun x29 ex29 => ?_)
                      replace hF := hF.trans (congrArg (dv_k f_X12_row_40b) (dv_bn (ex29.symm)))
                      refine th_put hC cf_X12 hB h0 (Or.inl h0) ro_46 rfl (j := 6) rfl th_sIa (by decide) rfl rfl rfl kf_X12_172 dX12_row_151 (fun H151 locs hB hf hst151 => ?_)
                      have mm30 := (th_F_o hf h0 ro_46 (j := 11) (by decide) (by decide)).trans mm26
                      have hR := th_RZ_F hB.1 hR h0 hf (th_T_s h0 ro_46 hst151) (by decide)
                      have fv_H151_33 : mo_f G H151 a0 33 = mo_f G H122 a0 33 := mo_f_F hf h0 (by decide) (by decide)
                      have vv_H151_2 : mo_v G H151 a0 2 = mo_v G H122 a0 2 := mo_v_F (r := 48) hB.1 hf h0 rfl ro_48 (by decide) (by decide)
                      have vv_H151_3 : mo_v G H151 a0 3 = mo_v G H122 a0 3 := mo_v_F (r := 49) hB.1 hf h0 rfl ro_49 (by decide) (by decide)
                      have vv_H151_4 : mo_v G H151 a0 4 = mo_v G H122 a0 4 := mo_v_F (r := 50) hB.1 hf h0 rfl ro_50 (by decide) (by decide)
                      have vv_H151_31 : mo_v G H151 a0 31 = mo_v G H122 a0 31 := mo_v_F (r := 61) hB.1 hf h0 rfl ro_61 (by decide) (by decide)
                      replace hF := hF.trans (congrArg (dv_k f_X12_row_40b) (dv_bn (dv_putI hB.1 h0 ro_46 (j := 6) rfl (th_apart hC cf_X12) hst151 (Eq.refl _) (by decide))))
                      have mm31 := hst151.2.1
                      refine tr_iinc (fun x32 => [(3, .int x32), (2, .int x27), (4, .int 1), (1, .int x1), (0, .ref a0)]) hx hb dX12_row_154 hl (k := 4) rfl (Eq.refl _) tk_3 (by omega) (by omega) (by decide) (fun _ => rfl) (fun x32 ls ex32 hl => ?_)
                      replace hF := hF.trans (congrArg (dv_k f_X12_row_40b) (dv_bn (ex32.symm)))
                      refine lv_goto (tgt := 40) hx hb dX12_row_157 (by decide) ?_
                      replace hF := hF.trans (dv_kl)
                      exact ih40 H151 locs ls x27 x32 hB hR (lv_sub hl [3, 4, 1, 0] rfl) hF (by omega) (by omega) (by omega)
                refine tr_if_eq (tgt := 122) hx hb dX12_row_93 (by decide) tk_1 (fun c93 => ?_) (fun c93 => ?_)
                · exfalso; omega
                · refine lv_aload_n hx hb dX12_row_96 rfl (lv_at hl 2 rfl) ?_
                  refine lv_aload_n hx hb dX12_row_97 rfl (lv_at hl 2 rfl) ?_
                  refine th_getK hC cf_X12 hB.1 h0 ro_46 rfl (j := 11) (by decide) mb12 kf_X12_45 dX12_row_98 ?_
                  refine lv_iload_n hx hb dX12_row_101 rfl (lv_at hl 4 rfl) ?_
                  refine th_baldF hC hB.1 hb12 ro_53 rfl (Eq.refl _) (by omega) (by omega) rfl dX12_row_102 (fun x33 mx33 lx33 ux33 => ?_)
                  replace hF := hF.trans (congrArg (dv_k f_X12_row_40b) (dv_bn (dv_aldI hB.1 hU hb12 ow_53 (z := j40_3.toInt) mx33 (by omega))))
                  have qx33 : x33.toInt = x13.toInt := by rw [show x33 = x13 from Value.int.inj (mx33.symm.trans mx13)]
                  refine lv_aload_n hx hb dX12_row_103 rfl (lv_at hl 2 rfl) ?_
                  refine th_getK hC cf_X12 hB.1 h0 ro_46 rfl (j := 11) (by decide) mb12 kf_X12_45 dX12_row_104 ?_
                  refine lv_iload_n hx hb dX12_row_107 rfl (lv_at hl 4 rfl) ?_
                  refine lv_iconst (v := 1) hx hb dX12_row_108 (by decide) ?_
                  refine tr_iadd hx hb dX12_row_109 (Eq.refl _) tk_1 (by omega) (by omega) (fun x34 ex34 => ?_)
                  replace hF := hF.trans (congrArg (dv_k f_X12_row_40b) (dv_bn (ex34.symm)))
                  refine th_baldF hC hB.1 hb12 ro_53 rfl (Eq.refl _) (by omega) (by omega) rfl dX12_row_110 (fun x35 mx35 lx35 ux35 => ?_)
                  replace hF := hF.trans (congrArg (dv_k f_X12_row_40b) (dv_bn (dv_aldI hB.1 hU hb12 ow_53 (z := x34.toInt) mx35 (by omega))))
                  refine lv_aload_n hx hb dX12_row_111 rfl (lv_at hl 2 rfl) ?_
                  refine th_getK hC cf_X12 hB.1 h0 ro_46 rfl (j := 11) (by decide) mb12 kf_X12_45 dX12_row_112 ?_
                  refine lv_iload_n hx hb dX12_row_115 rfl (lv_at hl 4 rfl) ?_
                  refine lv_iconst (v := 2) hx hb dX12_row_116 (by decide) ?_
                  refine tr_iadd hx hb dX12_row_117 (Eq.refl _) tk_2 (by omega) (by omega) (fun x36 ex36 => ?_)
                  replace hF := hF.trans (congrArg (dv_k f_X12_row_40b) (dv_bn (ex36.symm)))
                  refine th_baldF hC hB.1 hb12 ro_53 rfl (Eq.refl _) (by omega) (by omega) rfl dX12_row_118 (fun x37 mx37 lx37 ux37 => ?_)
                  replace hF := hF.trans (congrArg (dv_k f_X12_row_40b) (dv_bn (dv_aldI hB.1 hU hb12 ow_53 (z := x36.toInt) mx37 (by omega))))
                  refine th_call (th_runV (As := [.int x33, .int x35, .int x37]) (rest := []) hC mf_X12_adds km_X12_130 im_X12_adds se_X12_adds (c_X12_adds l G Γ H40 hB.1 hU a0 h0 (th_KE (th_ZK hR)) x33 (by omega) (by omega) x35 x37 (by omega)) rfl rfl ⟨Nat.le_of_ble_eq_true rfl, Nat.le_of_ble_eq_true rfl⟩ hB.1 h0 ro_46 rfl rfl hl.1 rfl (Nat.le_of_ble_eq_true rfl) dX12_row_119 ⟨Nat.le_refl _, Nat.le_refl _⟩) hB.2.1 (fun v119 H119 locs hp hz hS => ?_)
                  have hRD := hR
                  obtain ⟨rfl, hI1, hf, hR, z119_0, z119_1⟩ := hp
                  have hRc119 := hR
                  have hR := hRD
                  have hRC := hRc119.1
                  have hB := th_B_c hB hI1 hS hf (by decide)
                  have mm38 := (th_F_o hf h0 ro_46 (j := 11) (by decide) (by decide)).trans mb12
                  have fv_H119_33 : mo_f G H119 a0 33 = mo_f G H40 a0 33 := mo_f_F hf h0 (by decide) (by decide)
                  have vv_H119_3 : mo_v G H119 a0 3 = mo_v G H40 a0 3 := mo_v_F (r := 49) hB.1 hf h0 rfl ro_49 (by decide) (by decide)
                  have vv_H119_4 : mo_v G H119 a0 4 = mo_v G H40 a0 4 := mo_v_F (r := 50) hB.1 hf h0 rfl ro_50 (by decide) (by decide)
                  have vv_H119_31 : mo_v G H119 a0 31 = mo_v G H40 a0 31 := mo_v_F (r := 61) hB.1 hf h0 rfl ro_61 (by decide) (by decide)
                  replace hF := hF.trans (congrArg (dv_k f_X12_row_40b) (dv_bn2 (z119_1)))
                  refine W.eq (g2 := F0 m 122 ls []) rfl ?_
                  have hR : th_RZ a0 G Γ H119 := ⟨hRC, by rw [z119_0, vv_H119_3, vv_H119_4]; exact ⟨mo_kg_ad hR.2.1 rfl (by omega) (by omega) (by omega), hR.2.2⟩⟩
                  exact jn122 H119 locs ls hB hR (lv_sub hl [0, 1, 2, 3, 4] rfl) hF
      exact lp40 ((2147483648 : Int) - (0)).toNat H35 locs ls 0 0 hB hR (lv_sub hl [2, 3, 1, 0] rfl) (by rw [tk_0]; exact hF) (by decide) (by decide) (by have w0 := tk_0; omega)
    refine tr_if_ne (tgt := 34) hx hb dX12_row_27 (by decide) (Eq.refl _) (fun c27 => ?_) (fun c27 => ?_)
    · replace hF := hF.trans (if_pos c27)
      refine lv_iconst (v := 1) hx hb dX12_row_34 (by decide) ?_
      exact jn35 locs ls 1 hB (lv_sub hl [0, 1, 2] rfl) (by rw [tk_1]; exact hF) (by decide) (by decide)
    · replace hF := hF.trans (if_neg (not_not_intro c27))
      refine lv_iconst (v := 0) hx hb dX12_row_30 (by decide) ?_
      refine lv_goto (tgt := 35) hx hb dX12_row_31 (by decide) ?_
      exact jn35 locs ls 0 hB (lv_sub hl [0, 1, 2] rfl) (by rw [tk_0]; exact hF) (by decide) (by decide)
  · replace hF := hF.trans (if_neg (not_not_intro c11))
    refine lv_aload_n hx hb dX12_row_14 rfl (lv_at hl 1 rfl) ?_
    refine lv_bipush (v := (-6)) hx hb dX12_row_15 (by decide) ?_
    refine th_call (th_runV (As := [.int (-6)]) (rest := []) hC mf_X12_refuses km_X12_109 im_X12_refuses se_X12_refuses (c_X12_refuses l G Γ H7 hB.1 hR.1 hU a0 h0 (-6) (by decide) (by decide)) rfl rfl ⟨Nat.le_of_ble_eq_true rfl, Nat.le_of_ble_eq_true rfl⟩ hB.1 h0 ro_46 rfl rfl hl.1 rfl (Nat.le_of_ble_eq_true rfl) dX12_row_17 ⟨Nat.le_refl _, Nat.le_refl _⟩) hB.2.1 (fun v17 H17 locs hp hz hS => ?_)
    have hRD := hR
    obtain ⟨x39, rfl, q17_0, hI1, hf, hR, z17_0⟩ := hp
    have hR := th_RN_c hR hRD hI1 h0 hf (by decide)
    have hB := th_B_c hB hI1 hS hf (by decide)
    have fv_H17_33 : mo_f G H17 a0 33 = mo_f G H7 a0 33 := mo_f_F hf h0 (by decide) (by decide)
    have vv_H17_2 : mo_v G H17 a0 2 = mo_v G H7 a0 2 := mo_v_F (r := 48) hB.1 hf h0 rfl ro_48 (by decide) (by decide)
    have vv_H17_3 : mo_v G H17 a0 3 = mo_v G H7 a0 3 := mo_v_F (r := 49) hB.1 hf h0 rfl ro_49 (by decide) (by decide)
    have vv_H17_4 : mo_v G H17 a0 4 = mo_v G H7 a0 4 := mo_v_F (r := 50) hB.1 hf h0 rfl ro_50 (by decide) (by decide)
    have vv_H17_31 : mo_v G H17 a0 31 = mo_v G H7 a0 31 := mo_v_F (r := 61) hB.1 hf h0 rfl ro_61 (by decide) (by decide)
    have w17_0 := tk_m6
    have zf17 := z17_0
    rw [tk_m6] at zf17
    replace hF := hF.trans (dv_bn2 (zf17))
    refine W.eq (g2 := F0 m 20 ls [.int x39]) rfl ?_
    exact th_iret hC hH hr hlocks rfl hB.2.1 ⟨_, rfl, hB.1, hB.2.2, hR, (hF0.symm.trans hF)⟩ dX12_row_20
