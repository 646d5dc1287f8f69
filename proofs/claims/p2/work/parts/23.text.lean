set_option maxHeartbeats 4000000 in
set_option maxRecDepth 100000 in
theorem c_X10_clear (l : Launch) (G : th_G) (Γ : th_Ga) (H0 : Heap) (hI : th_I G Γ H0) (hR : th_RC G Γ H0) (hU : dv_U Γ) (a0 : Nat) (h0 : Γ a0 = (39, 0)) : Met l yX10_clear (.code yX10_clear cX10_clear 1 (none) :: th_tb) ({ frames := 0, cells := 0, slots := 0, locals := 0 } : Room) (th_P [.ref a0] G H0) (th_Q (fun (v : Option Value) (H1 : Heap) => v = none ∧ th_I G Γ H1 ∧ th_F G Γ [(39, 2), (39, 3)] H0 H1 ∧ th_RC G Γ H1 ∧ (f_X10_clear (dv G Γ H0) (a0 : Int) = (dv G Γ H1, 0))) G) 0 0 (fun q => G.2.2 ≤ q) := by
  refine th_met RX10 (by decide) rfl (Nat.le_of_ble_eq_true rfl) ?_
  intro p e s m below meth c hC hH hr hlocks hnm ls hl
  have hx := hC.1
  have hb := hC.2.1
  have hB : th_B G Γ Γ [(39, 2), (39, 3)] H0 H0 [] := ⟨hI, va_S.rf, th_F_rf⟩
  have hl : lv_has ls 1 [(0, .ref a0)] := hl
  obtain ⟨F, hF0⟩ : ∃ F, F = f_X10_clear (dv G Γ H0) ((a0 : Int)) := ⟨_, rfl⟩
  have hF := hF0.trans (f_X10_clear.eq_1 (dv G Γ H0) ((a0 : Int)))
  refine lv_aload_n hx hb dX10_clear_0 rfl (lv_at hl 0 rfl) ?_
  refine lv_iconst (v := 0) hx hb dX10_clear_1 (by decide) ?_
  refine th_put hC cf_X10 hB h0 (Or.inl h0) ro_39 rfl (j := 2) rfl (th_sI (by decide) (by decide)) (by decide) rfl rfl rfl kf_X10_18 dX10_clear_2 (fun H2 locs hB hf hst2 => ?_)
  have hR := th_RC_F hB.1 hR hf (th_T_s h0 ro_39 hst2) (by decide)
  replace hF := hF.trans (dv_bn (dv_putI hB.1 h0 ro_39 (j := 2) rfl (th_apart hC cf_X10) hst2 tk_0 (by decide)))
  refine lv_aload_n hx hb dX10_clear_5 rfl (lv_at hl 0 rfl) ?_
  refine lv_iconst (v := 0) hx hb dX10_clear_6 (by decide) ?_
  refine th_put hC cf_X10 hB h0 (Or.inl h0) ro_39 rfl (j := 3) rfl (th_sI (by decide) (by decide)) (by decide) rfl rfl rfl kf_X10_22 dX10_clear_7 (fun H7 locs hB hf hst7 => ?_)
  have hR := th_RC_F hB.1 hR hf (th_T_s h0 ro_39 hst7) (by decide)
  replace hF := hF.trans (dv_bn (dv_putI hB.1 h0 ro_39 (j := 3) rfl (th_apart hC cf_X10) hst7 tk_0 (by decide)))
  exact th_vret hC hH hr hlocks hB.2.1 ⟨rfl, hB.1, hB.2.2, hR, (hF0.symm.trans hF)⟩ dX10_clear_10

set_option maxHeartbeats 4000000 in
set_option maxRecDepth 100000 in
theorem c_X10_add (l : Launch) (G : th_G) (Γ : th_Ga) (H0 : Heap) (hI : th_I G Γ H0) (hR : th_RC G Γ H0) (hU : dv_U Γ) (a0 : Nat) (h0 : Γ a0 = (39, 0)) (p1 : Int32) (f1 : (-1) ≤ p1.toInt) : Met l yX10_add (.code yX10_add cX10_add 2 (none) :: th_tb) ({ frames := 0, cells := 0, slots := 0, locals := 0 } : Room) (th_P [.ref a0, .int p1] G H0) (th_Q (fun (v : Option Value) (H1 : Heap) => v = none ∧ th_I G Γ H1 ∧ th_F G Γ [(40, 0), (39, 2)] H0 H1 ∧ th_RC G Γ H1 ∧ (f_X10_add (dv G Γ H0) (a0 : Int) p1.toInt = (dv G Γ H1, 0))) G) 0 0 (fun q => G.2.2 ≤ q) := by
  refine th_met RX10 (by decide) rfl (Nat.le_of_ble_eq_true rfl) ?_
  intro p e s m below meth c hC hH hr hlocks hnm ls hl
  have hx := hC.1
  have hb := hC.2.1
  have hB : th_B G Γ Γ [(40, 0), (39, 2)] H0 H0 [] := ⟨hI, va_S.rf, th_F_rf⟩
  have hl : lv_has ls 2 [(0, .ref a0), (1, .int p1)] := hl
  have lp1 := ti_lo p1; have up1 := ti_hi p1
  obtain ⟨F, hF0⟩ : ∃ F, F = f_X10_add (dv G Γ H0) ((a0 : Int)) (p1.toInt) := ⟨_, rfl⟩
  have hF := hF0.trans (f_X10_add.eq_1 (dv G Γ H0) ((a0 : Int)) (p1.toInt))
  refine lv_iload_n hx hb dX10_add_0 rfl (lv_at hl 1 rfl) ?_
  refine lv_iconst (v := (-1)) hx hb dX10_add_1 (by decide) ?_
  refine tr_icmp_eq (tgt := 37) hx hb dX10_add_2 (by decide) (Eq.refl _) tk_m1 (fun c2 => ?_) (fun c2 => ?_)
  · replace hF := hF.trans (if_pos c2)
    exact th_vret hC hH hr hlocks hB.2.1 ⟨rfl, hB.1, hB.2.2, hR, (hF0.symm.trans hF)⟩ dX10_add_37
  · replace hF := hF.trans (if_neg c2)
    refine lv_aload_n hx hb dX10_add_5 rfl (lv_at hl 0 rfl) ?_
    refine th_getI (j := 2) hC cf_X10 hB.1 h0 ro_39 rfl rfl kf_X10_18 dX10_add_6 (fun x1 mx1 lx1 ux1 => ?_)
    replace hF := hF.trans (dv_bn (dv_getI h0 ro_39 (j := 2) rfl mx1 (by decide)))
    refine lv_aload_n hx hb dX10_add_9 rfl (lv_at hl 0 rfl) ?_
    refine th_getO (j := 0) (r2 := 40) hC cf_X10 hB.1 h0 ro_39 rfl rfl kf_X10_11 dX10_add_10 (fun b2 mb2 hb2 => ?_)
    refine th_alen hC hB.1 hb2 ro_40 rfl (by decide) dX10_add_13 (fun x3 ex3 lx3 ux3 => ?_)
    replace hF := hF.trans (dv_bn ((show (400 : Int) = x3.toInt from by omega)))
    refine tr_icmp_ge (tgt := 37) hx hb dX10_add_14 (by decide) (Eq.refl _) (Eq.refl _) (fun c14 => ?_) (fun c14 => ?_)
    · replace hF := hF.trans (if_pos c14)
      exact th_vret hC hH hr hlocks hB.2.1 ⟨rfl, hB.1, hB.2.2, hR, (hF0.symm.trans hF)⟩ dX10_add_37
    · replace hF := hF.trans (if_neg (Int.not_le.mpr c14))
      refine lv_aload_n hx hb dX10_add_17 rfl (lv_at hl 0 rfl) ?_
      refine th_getK hC cf_X10 hB.1 h0 ro_39 rfl (j := 0) (by decide) mb2 kf_X10_11 dX10_add_18 ?_
      refine lv_aload_n hx hb dX10_add_21 rfl (lv_at hl 0 rfl) ?_
      refine th_getK hC cf_X10 hB.1 h0 ro_39 rfl (j := 2) (by decide) mx1 kf_X10_18 dX10_add_22 ?_
      replace hF := hF.trans (dv_bn (dv_getI h0 ro_39 (j := 2) rfl mx1 (by decide)))
      refine lv_iload_n hx hb dX10_add_25 rfl (lv_at hl 1 rfl) ?_
      have hIo := hB.1
      refine th_iastF hC hB hb2 (Or.inl hb2) ro_40 rfl (by decide) (Eq.refl _) (by omega) (by omega) (th_sI (by omega) (by omega)) dX10_add_26 (fun H26 locs hB hf26 hst26 => ?_)
      have hf := hf26
      have mm4 := (th_F_o hf h0 ro_39 (j := 2) (by decide) (by decide)).trans mx1
      have mm5 := (th_F_o hf h0 ro_39 (j := 0) (by decide) (by decide)).trans mb2
      have hR := th_RC_F hB.1 hR hf (th_T_s hb2 ro_40 hst26) (by decide)
      replace hF := hF.trans (dv_bn (dv_stoI hIo hB.1 hU hb2 ow_40 (i := x1.toInt) hst26 (Eq.refl _) (by omega)))
      refine lv_aload_n hx hb dX10_add_27 rfl (lv_at hl 0 rfl) ?_
      refine lv_dup hx hb dX10_add_28 rfl ?_
      refine th_getK hC cf_X10 hB.1 h0 ro_39 rfl (j := 2) (by decide) mm4 kf_X10_18 dX10_add_29 ?_
      replace hF := hF.trans (dv_bn (dv_getI h0 ro_39 (j := 2) rfl mm4 (by decide)))
      refine lv_iconst (v := 1) hx hb dX10_add_32 (by decide) ?_
      refine tr_iadd hx hb dX10_add_33 (Eq.refl _) tk_1 (by omega) (by omega) (fun x6 ex6 => ?_)
      replace hF := hF.trans (dv_bn (ex6.symm))
      refine th_put hC cf_X10 hB h0 (Or.inl h0) ro_39 rfl (j := 2) rfl (th_sI (by omega) (by omega)) (by decide) rfl rfl rfl kf_X10_18 dX10_add_34 (fun H34 locs hB hf hst34 => ?_)
      have mm7 := (th_F_o hf h0 ro_39 (j := 0) (by decide) (by decide)).trans mm5
      have hR := th_RC_F hB.1 hR hf (th_T_s h0 ro_39 hst34) (by decide)
      replace hF := hF.trans (dv_bn (dv_putI hB.1 h0 ro_39 (j := 2) rfl (th_apart hC cf_X10) hst34 (Eq.refl _) (by decide)))
      exact th_vret hC hH hr hlocks hB.2.1 ⟨rfl, hB.1, hB.2.2, hR, (hF0.symm.trans hF)⟩ dX10_add_37

set_option maxHeartbeats 4000000 in
set_option maxRecDepth 100000 in
theorem c_X10_addJump (l : Launch) (G : th_G) (Γ : th_Ga) (H0 : Heap) (hI : th_I G Γ H0) (hR : th_RC G Γ H0) (hU : dv_U Γ) (a0 : Nat) (h0 : Γ a0 = (39, 0)) (p1 : Int32) (f1 : (-1) ≤ p1.toInt) : Met l yX10_addJump (.code yX10_addJump cX10_addJump 2 (some FieldType.int) :: th_tb) ({ frames := 1, cells := 0, slots := 0, locals := 21 } : Room) (th_P [.ref a0, .int p1] G H0) (th_Q (fun (v : Option Value) (H1 : Heap) => ∃ r : Int32, v = some (.int r) ∧ (-1) ≤ r.toInt ∧ r.toInt ≤ 399 ∧ th_I G Γ H1 ∧ th_F G Γ [(40, 0), (39, 2)] H0 H1 ∧ th_RC G Γ H1 ∧ (f_X10_addJump (dv G Γ H0) (a0 : Int) p1.toInt = (dv G Γ H1, r.toInt))) G) 0 0 (fun q => G.2.2 ≤ q) := by
  refine th_met RX10 (by decide) rfl (Nat.le_of_ble_eq_true rfl) ?_
  intro p e s m below meth c hC hH hr hlocks hnm ls hl
  have hx := hC.1
  have hb := hC.2.1
  have hB : th_B G Γ Γ [(40, 0), (39, 2)] H0 H0 [] := ⟨hI, va_S.rf, th_F_rf⟩
  have hl : lv_has ls 2 [(0, .ref a0), (1, .int p1)] := hl
  have lp1 := ti_lo p1; have up1 := ti_hi p1
  obtain ⟨F, hF0⟩ : ∃ F, F = f_X10_addJump (dv G Γ H0) ((a0 : Int)) (p1.toInt) := ⟨_, rfl⟩
  have hF := hF0.trans (f_X10_addJump.eq_1 (dv G Γ H0) ((a0 : Int)) (p1.toInt))
  refine lv_aload_n hx hb dX10_addJump_0 rfl (lv_at hl 0 rfl) ?_
  refine lv_iload_n hx hb dX10_addJump_1 rfl (lv_at hl 1 rfl) ?_
  refine th_call (th_runV (As := [.int p1]) (rest := []) hC mf_X10_add km_X10_31 im_X10_add se_X10_add (c_X10_add l G Γ H0 hB.1 hR hU a0 h0 p1 (by omega)) rfl rfl ⟨Nat.le_of_ble_eq_true rfl, Nat.le_of_ble_eq_true rfl⟩ hB.1 h0 ro_39 rfl rfl hl.1 rfl (Nat.le_of_ble_eq_true rfl) dX10_addJump_2 ⟨Nat.le_refl _, Nat.le_refl _⟩) hB.2.1 (fun v2 H2 locs hp hz hS => ?_)
  obtain ⟨rfl, hI1, hf, hR, z2_0⟩ := hp
  have hB := th_B_c hB hI1 hS hf (by decide)
  replace hF := hF.trans (dv_bn2 (z2_0))
  refine W.eq (g2 := F0 m 5 ls []) rfl ?_
  refine lv_aload_n hx hb dX10_addJump_5 rfl (lv_at hl 0 rfl) ?_
  refine lv_iconst (v := 0) hx hb dX10_addJump_6 (by decide) ?_
  refine th_call (th_runV (As := [.int 0]) (rest := []) hC mf_X10_add km_X10_31 im_X10_add se_X10_add (c_X10_add l G Γ H2 hB.1 hR hU a0 h0 0 (by decide)) rfl rfl ⟨Nat.le_of_ble_eq_true rfl, Nat.le_of_ble_eq_true rfl⟩ hB.1 h0 ro_39 rfl rfl hl.1 rfl (Nat.le_of_ble_eq_true rfl) dX10_addJump_7 ⟨Nat.le_refl _, Nat.le_refl _⟩) hB.2.1 (fun v7 H7 locs hp hz hS => ?_)
  obtain ⟨rfl, hI1, hf, hR, z7_0⟩ := hp
  have hB := th_B_c hB hI1 hS hf (by decide)
  have zf7 := z7_0
  rw [tk_0] at zf7
  replace hF := hF.trans (dv_bn2 (zf7))
  refine W.eq (g2 := F0 m 10 ls []) rfl ?_
  refine lv_aload_n hx hb dX10_addJump_10 rfl (lv_at hl 0 rfl) ?_
  refine th_getI (j := 2) hC cf_X10 hB.1 h0 ro_39 rfl rfl kf_X10_18 dX10_addJump_11 (fun x1 mx1 lx1 ux1 => ?_)
  replace hF := hF.trans (dv_bn (dv_getI h0 ro_39 (j := 2) rfl mx1 (by decide)))
  refine lv_iconst (v := 1) hx hb dX10_addJump_14 (by decide) ?_
  refine tr_isub hx hb dX10_addJump_15 (Eq.refl _) tk_1 (by omega) (by omega) (fun x2 ex2 => ?_)
  replace hF := hF.trans (dv_bn (ex2.symm))
  exact th_iret hC hH hr hlocks rfl hB.2.1 ⟨_, rfl, by omega, by omega, hB.1, hB.2.2, hR, (hF0.symm.trans hF)⟩ dX10_addJump_16

set_option maxHeartbeats 4000000 in
set_option maxRecDepth 100000 in
theorem c_X10_setCode (l : Launch) (G : th_G) (Γ : th_Ga) (H0 : Heap) (hI : th_I G Γ H0) (hR : th_RC G Γ H0) (hU : dv_U Γ) (a0 : Nat) (h0 : Γ a0 = (39, 0)) (p1 : Int32) (p2 : Int32) (f2 : 0 ≤ p2.toInt) : Met l yX10_setCode (.code yX10_setCode cX10_setCode 3 (none) :: th_tb) ({ frames := 0, cells := 0, slots := 0, locals := 0 } : Room) (th_P [.ref a0, .int p1, .int p2] G H0) (th_Q (fun (v : Option Value) (H1 : Heap) => v = none ∧ th_I G Γ H1 ∧ th_F G Γ [(40, 0)] H0 H1 ∧ th_RC G Γ H1 ∧ (f_X10_setCode (dv G Γ H0) (a0 : Int) p1.toInt p2.toInt = (dv G Γ H1, 0))) G) 0 0 (fun q => G.2.2 ≤ q) := by
  refine th_met RX10 (by decide) rfl (Nat.le_of_ble_eq_true rfl) ?_
  intro p e s m below meth c hC hH hr hlocks hnm ls hl
  have hx := hC.1
  have hb := hC.2.1
  have hB : th_B G Γ Γ [(40, 0)] H0 H0 [] := ⟨hI, va_S.rf, th_F_rf⟩
  have hl : lv_has ls 3 [(0, .ref a0), (1, .int p1), (2, .int p2)] := hl
  have lp1 := ti_lo p1; have up1 := ti_hi p1
  have lp2 := ti_lo p2; have up2 := ti_hi p2
  obtain ⟨F, hF0⟩ : ∃ F, F = f_X10_setCode (dv G Γ H0) ((a0 : Int)) (p1.toInt) (p2.toInt) := ⟨_, rfl⟩
  have hF := hF0.trans (f_X10_setCode.eq_1 (dv G Γ H0) ((a0 : Int)) (p1.toInt) (p2.toInt))
  refine lv_iload_n hx hb dX10_setCode_0 rfl (lv_at hl 1 rfl) ?_
  refine tr_if_lt (tgt := 19) hx hb dX10_setCode_1 (by decide) (Eq.refl _) (fun c1 => ?_) (fun c1 => ?_)
  · replace hF := hF.trans (if_pos c1)
    exact th_vret hC hH hr hlocks hB.2.1 ⟨rfl, hB.1, hB.2.2, hR, (hF0.symm.trans hF)⟩ dX10_setCode_19
  · replace hF := hF.trans (if_neg (Int.not_lt.mpr c1))
    refine lv_iload_n hx hb dX10_setCode_4 rfl (lv_at hl 1 rfl) ?_
    refine lv_aload_n hx hb dX10_setCode_5 rfl (lv_at hl 0 rfl) ?_
    refine th_getI (j := 2) hC cf_X10 hB.1 h0 ro_39 rfl rfl kf_X10_18 dX10_setCode_6 (fun x1 mx1 lx1 ux1 => ?_)
    replace hF := hF.trans (dv_bn (dv_getI h0 ro_39 (j := 2) rfl mx1 (by decide)))
    refine tr_icmp_ge (tgt := 19) hx hb dX10_setCode_9 (by decide) (Eq.refl _) (Eq.refl _) (fun c9 => ?_) (fun c9 => ?_)
    · replace hF := hF.trans (if_pos c9)
      exact th_vret hC hH hr hlocks hB.2.1 ⟨rfl, hB.1, hB.2.2, hR, (hF0.symm.trans hF)⟩ dX10_setCode_19
    · replace hF := hF.trans (if_neg (Int.not_le.mpr c9))
      refine lv_aload_n hx hb dX10_setCode_12 rfl (lv_at hl 0 rfl) ?_
      refine th_getO (j := 0) (r2 := 40) hC cf_X10 hB.1 h0 ro_39 rfl rfl kf_X10_11 dX10_setCode_13 (fun b2 mb2 hb2 => ?_)
      refine lv_iload_n hx hb dX10_setCode_16 rfl (lv_at hl 1 rfl) ?_
      refine lv_iload_n hx hb dX10_setCode_17 rfl (lv_at hl 2 rfl) ?_
      have hIo := hB.1
      refine th_iastF hC hB hb2 (Or.inl hb2) ro_40 rfl (by decide) (Eq.refl _) (by omega) (by omega) (th_sI (by omega) (by omega)) dX10_setCode_18 (fun H18 locs hB hf18 hst18 => ?_)
      have hf := hf18
      have hR := th_RC_F hB.1 hR hf (th_T_s hb2 ro_40 hst18) (by decide)
      replace hF := hF.trans (dv_bn (dv_stoI hIo hB.1 hU hb2 ow_40 (i := p1.toInt) hst18 (Eq.refl _) (by omega)))
      exact th_vret hC hH hr hlocks hB.2.1 ⟨rfl, hB.1, hB.2.2, hR, (hF0.symm.trans hF)⟩ dX10_setCode_19

set_option maxHeartbeats 4000000 in
set_option maxRecDepth 100000 in
theorem c_X10_setMark (l : Launch) (G : th_G) (Γ : th_Ga) (H0 : Heap) (hI : th_I G Γ H0) (hR : th_RC G Γ H0) (hU : dv_U Γ) (a0 : Nat) (h0 : Γ a0 = (39, 0)) (p1 : Int32) (f1 : 0 ≤ p1.toInt) (g1 : p1.toInt ≤ 7) (p2 : Int32) (k1 : p1.toInt = 1 ∨ 0 ≤ p2.toInt) : Met l yX10_setMark (.code yX10_setMark cX10_setMark 4 (none) :: th_tb) ({ frames := 0, cells := 0, slots := 0, locals := 0 } : Room) (th_P [.ref a0, .int p1, .int p2] G H0) (th_Q (fun (v : Option Value) (H1 : Heap) => v = none ∧ th_I G Γ H1 ∧ th_F G Γ [(41, 0)] H0 H1 ∧ th_RC G Γ H1 ∧ (f_X10_setMark (dv G Γ H0) (a0 : Int) p1.toInt p2.toInt = (dv G Γ H1, 0))) G) 0 0 (fun q => G.2.2 ≤ q) := by
  refine th_met RX10 (by decide) rfl (Nat.le_of_ble_eq_true rfl) ?_
  intro p e s m below meth c hC hH hr hlocks hnm ls hl
  have hx := hC.1
  have hb := hC.2.1
  have hB : th_B G Γ Γ [(41, 0)] H0 H0 [] := ⟨hI, va_S.rf, th_F_rf⟩
  have hl : lv_has ls 4 [(0, .ref a0), (1, .int p1), (2, .int p2)] := hl
  have lp1 := ti_lo p1; have up1 := ti_hi p1
  have lp2 := ti_lo p2; have up2 := ti_hi p2
  obtain ⟨F, hF0⟩ : ∃ F, F = f_X10_setMark (dv G Γ H0) ((a0 : Int)) (p1.toInt) (p2.toInt) := ⟨_, rfl⟩
  have hF := hF0.trans (f_X10_setMark.eq_1 (dv G Γ H0) ((a0 : Int)) (p1.toInt) (p2.toInt))
  refine lv_aload_n hx hb dX10_setMark_0 rfl (lv_at hl 0 rfl) ?_
  refine th_getI (j := 3) hC cf_X10 hB.1 h0 ro_39 rfl rfl kf_X10_22 dX10_setMark_1 (fun x1 mx1 lx1 ux1 => ?_)
  replace hF := hF.trans (dv_bn (dv_getI h0 ro_39 (j := 3) rfl mx1 (by decide)))
  refine lv_iconst (v := 1) hx hb dX10_setMark_4 (by decide) ?_
  refine tr_isub hx hb dX10_setMark_5 (Eq.refl _) tk_1 (by omega) (by omega) (fun x2 ex2 => ?_)
  replace hF := hF.trans (dv_bn (ex2.symm))
  refine lv_bipush (v := 8) hx hb dX10_setMark_6 (by decide) ?_
  refine tr_imul hx hb dX10_setMark_8 (Eq.refl _) tk_8 (by omega) (by omega) (fun x3 ex3 => ?_)
  replace hF := hF.trans (dv_bn (ex3.symm))
  refine lv_iload_n hx hb dX10_setMark_9 rfl (lv_at hl 1 rfl) ?_
  refine tr_iadd hx hb dX10_setMark_10 (Eq.refl _) (Eq.refl _) (by omega) (by omega) (fun x4 ex4 => ?_)
  replace hF := hF.trans (dv_bn (ex4.symm))
  refine lv_istore_n (lv' := [(3, .int x4), (0, .ref a0), (1, .int p1), (2, .int p2)]) hx hb dX10_setMark_11 rfl hl (by decide) rfl (fun ls hl => ?_)
  refine lv_iload_n hx hb dX10_setMark_12 rfl (lv_at hl 0 rfl) ?_
  refine tr_if_lt (tgt := 32) hx hb dX10_setMark_13 (by decide) (Eq.refl _) (fun c13 => ?_) (fun c13 => ?_)
  · replace hF := hF.trans (if_pos c13)
    exact th_vret hC hH hr hlocks hB.2.1 ⟨rfl, hB.1, hB.2.2, hR, (hF0.symm.trans hF)⟩ dX10_setMark_32
  · replace hF := hF.trans (if_neg (Int.not_lt.mpr c13))
    refine lv_iload_n hx hb dX10_setMark_16 rfl (lv_at hl 0 rfl) ?_
    refine lv_aload_n hx hb dX10_setMark_17 rfl (lv_at hl 1 rfl) ?_
    refine th_getO (j := 1) (r2 := 41) hC cf_X10 hB.1 h0 ro_39 rfl rfl kf_X10_15 dX10_setMark_18 (fun b5 mb5 hb5 => ?_)
    refine th_alen hC hB.1 hb5 ro_41 rfl (by decide) dX10_setMark_21 (fun x6 ex6 lx6 ux6 => ?_)
    replace hF := hF.trans (dv_bn ((show (96 : Int) = x6.toInt from by omega)))
    refine tr_icmp_ge (tgt := 32) hx hb dX10_setMark_22 (by decide) (Eq.refl _) (Eq.refl _) (fun c22 => ?_) (fun c22 => ?_)
    · exfalso; omega
    · replace hF := hF.trans (if_neg (Int.not_le.mpr c22))
      refine lv_aload_n hx hb dX10_setMark_25 rfl (lv_at hl 1 rfl) ?_
      refine th_getK hC cf_X10 hB.1 h0 ro_39 rfl (j := 1) (by decide) mb5 kf_X10_15 dX10_setMark_26 ?_
      refine lv_iload_n hx hb dX10_setMark_29 rfl (lv_at hl 0 rfl) ?_
      refine lv_iload_n hx hb dX10_setMark_30 rfl (lv_at hl 3 rfl) ?_
      have hIo := hB.1
      refine th_iastF hC hB hb5 (Or.inl hb5) ro_41 rfl (by decide) (Eq.refl _) (by omega) (by omega) (th_esm_st (by omega)) dX10_setMark_31 (fun H31 locs hB hf31 hst31 => ?_)
      have hf := hf31
      have mm7 := (th_F_o hf h0 ro_39 (j := 1) (by decide) (by decide)).trans mb5
      have hR := th_RC_F hB.1 hR hf (th_T_s hb5 ro_41 hst31) (by decide)
      replace hF := hF.trans (dv_bn (dv_stoI hIo hB.1 hU hb5 ow_41 (i := x4.toInt) hst31 (Eq.refl _) (by omega)))
      exact th_vret hC hH hr hlocks hB.2.1 ⟨rfl, hB.1, hB.2.2, hR, (hF0.symm.trans hF)⟩ dX10_setMark_32

set_option maxHeartbeats 4000000 in
set_option maxRecDepth 100000 in
theorem c_X10_openClause (l : Launch) (G : th_G) (Γ : th_Ga) (H0 : Heap) (hI : th_I G Γ H0) (hR : th_RC G Γ H0) (hU : dv_U Γ) (a0 : Nat) (h0 : Γ a0 = (39, 0)) (p1 : Int32) (f1 : 0 ≤ p1.toInt) : Met l yX10_openClause (.code yX10_openClause cX10_openClause 2 (none) :: th_tb) ({ frames := 1, cells := 0, slots := 0, locals := 23 } : Room) (th_P [.ref a0, .int p1] G H0) (th_Q (fun (v : Option Value) (H1 : Heap) => v = none ∧ th_I G Γ H1 ∧ th_F G Γ [(41, 0), (39, 3)] H0 H1 ∧ th_RC G Γ H1 ∧ (f_X10_openClause (dv G Γ H0) (a0 : Int) p1.toInt = (dv G Γ H1, 0))) G) 0 0 (fun q => G.2.2 ≤ q) := by
  refine th_met RX10 (by decide) rfl (Nat.le_of_ble_eq_true rfl) ?_
  intro p e s m below meth c hC hH hr hlocks hnm ls hl
  have hx := hC.1
  have hb := hC.2.1
  have hB : th_B G Γ Γ [(41, 0), (39, 3)] H0 H0 [] := ⟨hI, va_S.rf, th_F_rf⟩
  have hl : lv_has ls 2 [(0, .ref a0), (1, .int p1)] := hl
  have lp1 := ti_lo p1; have up1 := ti_hi p1
  obtain ⟨F, hF0⟩ : ∃ F, F = f_X10_openClause (dv G Γ H0) ((a0 : Int)) (p1.toInt) := ⟨_, rfl⟩
  have hF := hF0.trans (f_X10_openClause.eq_1 (dv G Γ H0) ((a0 : Int)) (p1.toInt))
  refine lv_aload_n hx hb dX10_openClause_0 rfl (lv_at hl 0 rfl) ?_
  refine th_getI (j := 3) hC cf_X10 hB.1 h0 ro_39 rfl rfl kf_X10_22 dX10_openClause_1 (fun x1 mx1 lx1 ux1 => ?_)
  replace hF := hF.trans (dv_bn (dv_getI h0 ro_39 (j := 3) rfl mx1 (by decide)))
  refine lv_bipush (v := 12) hx hb dX10_openClause_4 (by decide) ?_
  refine tr_icmp_lt (tgt := 10) hx hb dX10_openClause_6 (by decide) (Eq.refl _) tk_12 (fun c6 => ?_) (fun c6 => ?_)
  · replace hF := hF.trans (if_pos c6)
    refine lv_aload_n hx hb dX10_openClause_10 rfl (lv_at hl 0 rfl) ?_
    refine lv_dup hx hb dX10_openClause_11 rfl ?_
    refine th_getK hC cf_X10 hB.1 h0 ro_39 rfl (j := 3) (by decide) mx1 kf_X10_22 dX10_openClause_12 ?_
    replace hF := hF.trans (dv_bn (dv_getI h0 ro_39 (j := 3) rfl mx1 (by decide)))
    refine lv_iconst (v := 1) hx hb dX10_openClause_15 (by decide) ?_
    refine tr_iadd hx hb dX10_openClause_16 (Eq.refl _) tk_1 (by omega) (by omega) (fun x2 ex2 => ?_)
    replace hF := hF.trans (dv_bn (ex2.symm))
    refine th_put hC cf_X10 hB h0 (Or.inl h0) ro_39 rfl (j := 3) rfl (th_sI (by omega) (by omega)) (by decide) rfl rfl rfl kf_X10_22 dX10_openClause_17 (fun H17 locs hB hf hst17 => ?_)
    have hR := th_RC_F hB.1 hR hf (th_T_s h0 ro_39 hst17) (by decide)
    replace hF := hF.trans (dv_bn (dv_putI hB.1 h0 ro_39 (j := 3) rfl (th_apart hC cf_X10) hst17 (Eq.refl _) (by decide)))
    refine lv_aload_n hx hb dX10_openClause_20 rfl (lv_at hl 0 rfl) ?_
    refine lv_iconst (v := 0) hx hb dX10_openClause_21 (by decide) ?_
    refine lv_iload_n hx hb dX10_openClause_22 rfl (lv_at hl 1 rfl) ?_
    refine th_call (th_runV (As := [.int 0, .int p1]) (rest := []) hC mf_X10_setMark km_X10_35 im_X10_setMark se_X10_setMark (c_X10_setMark l G Γ H17 hB.1 hR hU a0 h0 0 (by decide) (by decide) p1 (by have w0 := tk_0; omega)) rfl rfl ⟨Nat.le_of_ble_eq_true rfl, Nat.le_of_ble_eq_true rfl⟩ hB.1 h0 ro_39 rfl rfl hl.1 rfl (Nat.le_of_ble_eq_true rfl) dX10_openClause_23 ⟨Nat.le_refl _, Nat.le_refl _⟩) hB.2.1 (fun v23 H23 locs hp hz hS => ?_)
    obtain ⟨rfl, hI1, hf, hR, z23_0⟩ := hp
    have hB := th_B_c hB hI1 hS hf (by decide)
    have zf23 := z23_0
    rw [tk_0] at zf23
    replace hF := hF.trans (dv_bn2 (zf23))
    refine W.eq (g2 := F0 m 26 ls []) rfl ?_
    refine lv_aload_n hx hb dX10_openClause_26 rfl (lv_at hl 0 rfl) ?_
    refine lv_iconst (v := 1) hx hb dX10_openClause_27 (by decide) ?_
    refine lv_iconst (v := 1) hx hb dX10_openClause_28 (by decide) ?_
    refine th_call (th_runV (As := [.int 1, .int 1]) (rest := []) hC mf_X10_setMark km_X10_35 im_X10_setMark se_X10_setMark (c_X10_setMark l G Γ H23 hB.1 hR hU a0 h0 1 (by decide) (by decide) 1 (by have w0 := tk_1; omega)) rfl rfl ⟨Nat.le_of_ble_eq_true rfl, Nat.le_of_ble_eq_true rfl⟩ hB.1 h0 ro_39 rfl rfl hl.1 rfl (Nat.le_of_ble_eq_true rfl) dX10_openClause_29 ⟨Nat.le_refl _, Nat.le_refl _⟩) hB.2.1 (fun v29 H29 locs hp hz hS => ?_)
    obtain ⟨rfl, hI1, hf, hR, z29_0⟩ := hp
    have hB := th_B_c hB hI1 hS hf (by decide)
    have zf29 := z29_0
    rw [tk_1] at zf29
    replace hF := hF.trans (dv_bn2 (zf29))
    refine W.eq (g2 := F0 m 32 ls []) rfl ?_
    exact th_vret hC hH hr hlocks hB.2.1 ⟨rfl, hB.1, hB.2.2, hR, (hF0.symm.trans hF)⟩ dX10_openClause_32
  · replace hF := hF.trans (if_neg (Int.not_lt.mpr c6))
    exact th_vret hC hH hr hlocks hB.2.1 ⟨rfl, hB.1, hB.2.2, hR, (hF0.symm.trans hF)⟩ dX10_openClause_9

set_option maxHeartbeats 4000000 in
set_option maxRecDepth 100000 in
theorem c_X10_mark (l : Launch) (G : th_G) (Γ : th_Ga) (H0 : Heap) (hI : th_I G Γ H0) (hU : dv_U Γ) (a0 : Nat) (h0 : Γ a0 = (39, 0)) (p1 : Int32) (f1 : 0 ≤ p1.toInt) (g1 : p1.toInt ≤ 11) (p2 : Int32) (f2 : 0 ≤ p2.toInt) (g2 : p2.toInt ≤ 7) : Met l yX10_mark (.code yX10_mark cX10_mark 4 (some FieldType.int) :: th_tb) ({ frames := 0, cells := 0, slots := 0, locals := 0 } : Room) (th_P [.ref a0, .int p1, .int p2] G H0) (th_Q (fun (v : Option Value) (H1 : Heap) => ∃ r : Int32, v = some (.int r) ∧ (p2.toInt ≠ 1 → 0 ≤ r.toInt) ∧ (f_X10_mark (dv G Γ H0) (a0 : Int) p1.toInt p2.toInt = (r.toInt, ())) ∧ H0 = H1) G) 0 0 (fun q => G.2.2 ≤ q) := by
  refine th_met RX10 (by decide) rfl (Nat.le_of_ble_eq_true rfl) ?_
  intro p e s m below meth c hC hH hr hlocks hnm ls hl
  have hx := hC.1
  have hb := hC.2.1
  have hB : th_B G Γ Γ [] H0 H0 [] := ⟨hI, va_S.rf, th_F_rf⟩
  have hl : lv_has ls 4 [(0, .ref a0), (1, .int p1), (2, .int p2)] := hl
  have lp1 := ti_lo p1; have up1 := ti_hi p1
  have lp2 := ti_lo p2; have up2 := ti_hi p2
  obtain ⟨F, hF0⟩ : ∃ F, F = f_X10_mark (dv G Γ H0) ((a0 : Int)) (p1.toInt) (p2.toInt) := ⟨_, rfl⟩
  have hF := hF0.trans (f_X10_mark.eq_1 (dv G Γ H0) ((a0 : Int)) (p1.toInt) (p2.toInt))
  refine lv_iload_n hx hb dX10_mark_0 rfl (lv_at hl 1 rfl) ?_
  refine lv_bipush (v := 8) hx hb dX10_mark_1 (by decide) ?_
  refine tr_imul hx hb dX10_mark_3 (Eq.refl _) tk_8 (by omega) (by omega) (fun x1 ex1 => ?_)
  replace hF := hF.trans (dv_bn (ex1.symm))
  refine lv_iload_n hx hb dX10_mark_4 rfl (lv_at hl 2 rfl) ?_
  refine tr_iadd hx hb dX10_mark_5 (Eq.refl _) (Eq.refl _) (by omega) (by omega) (fun x2 ex2 => ?_)
  replace hF := hF.trans (dv_bn (ex2.symm))
  refine lv_istore_n (lv' := [(3, .int x2), (0, .ref a0), (1, .int p1), (2, .int p2)]) hx hb dX10_mark_6 rfl hl (by decide) rfl (fun ls hl => ?_)
  refine lv_iload_n hx hb dX10_mark_7 rfl (lv_at hl 0 rfl) ?_
  refine tr_if_lt (tgt := 29) hx hb dX10_mark_8 (by decide) (Eq.refl _) (fun c8 => ?_) (fun c8 => ?_)
  · exfalso; omega
  · replace hF := hF.trans (if_neg (Int.not_lt.mpr c8))
    refine lv_iload_n hx hb dX10_mark_11 rfl (lv_at hl 0 rfl) ?_
    refine lv_aload_n hx hb dX10_mark_12 rfl (lv_at hl 1 rfl) ?_
    refine th_getO (j := 1) (r2 := 41) hC cf_X10 hB.1 h0 ro_39 rfl rfl kf_X10_15 dX10_mark_13 (fun b3 mb3 hb3 => ?_)
    refine th_alen hC hB.1 hb3 ro_41 rfl (by decide) dX10_mark_16 (fun x4 ex4 lx4 ux4 => ?_)
    replace hF := hF.trans (dv_bn ((show (96 : Int) = x4.toInt from by omega)))
    refine tr_icmp_ge (tgt := 29) hx hb dX10_mark_17 (by decide) (Eq.refl _) (Eq.refl _) (fun c17 => ?_) (fun c17 => ?_)
    · exfalso; omega
    · replace hF := hF.trans (if_neg (Int.not_le.mpr c17))
      refine lv_aload_n hx hb dX10_mark_20 rfl (lv_at hl 1 rfl) ?_
      refine th_getK hC cf_X10 hB.1 h0 ro_39 rfl (j := 1) (by decide) mb3 kf_X10_15 dX10_mark_21 ?_
      refine lv_iload_n hx hb dX10_mark_24 rfl (lv_at hl 0 rfl) ?_
      refine th_ialdS hC hB.1 hb3 ro_41 rfl (Eq.refl _) (by omega) (by omega) (th_esm1 _) dX10_mark_25 (fun x5 mx5 tx5 => ?_)
      replace hF := hF.trans (dv_bn (dv_aldI hB.1 hU hb3 ow_41 (z := x2.toInt) mx5 (by omega)))
      refine lv_goto (tgt := 30) hx hb dX10_mark_26 (by decide) ?_
      exact th_iret hC hH hr hlocks rfl hB.2.1 ⟨_, rfl, by first | (intro _; decide) | (intro h9; exact th_esm_ge (by assumption) (by omega)), (hF0.symm.trans hF), rfl⟩ dX10_mark_30

set_option maxHeartbeats 4000000 in
set_option maxRecDepth 100000 in
theorem c_X10_copyFrom (l : Launch) (G : th_G) (Γ : th_Ga) (H0 : Heap) (hI : th_I G Γ H0) (hR : th_RC G Γ H0) (hU : dv_U Γ) (a0 : Nat) (h0 : Γ a0 = (39, 0)) (p1 : Nat) (h1 : Γ p1 = (39, 0)) : Met l yX10_copyFrom (.code yX10_copyFrom cX10_copyFrom 2 (none) :: th_tb) ({ frames := 1, cells := 0, slots := 0, locals := 40 } : Room) (th_P [.ref a0, .ref p1] G H0) (th_Q (fun (v : Option Value) (H1 : Heap) => v = none ∧ th_I G Γ H1 ∧ th_F G Γ [(40, 0), (41, 0), (39, 2), (39, 3)] H0 H1 ∧ th_RC G Γ H1 ∧ (f_X10_copyFrom (dv G Γ H0) (a0 : Int) (p1 : Int) = (dv G Γ H1, 0))) G) 0 0 (fun q => G.2.2 ≤ q) := by
  refine th_met RX10 (by decide) rfl (Nat.le_of_ble_eq_true rfl) ?_
  intro p e s m below meth c hC hH hr hlocks hnm ls hl
  have hx := hC.1
  have hb := hC.2.1
  have hB : th_B G Γ Γ [(40, 0), (41, 0), (39, 2), (39, 3)] H0 H0 [] := ⟨hI, va_S.rf, th_F_rf⟩
  have hl : lv_has ls 2 [(0, .ref a0), (1, .ref p1)] := hl
  obtain ⟨F, hF0⟩ : ∃ F, F = f_X10_copyFrom (dv G Γ H0) ((a0 : Int)) ((p1 : Int)) := ⟨_, rfl⟩
  have hF := hF0.trans (f_X10_copyFrom.eq_1 (dv G Γ H0) ((a0 : Int)) ((p1 : Int)))
  refine lv_aload_n hx hb dX10_copyFrom_0 rfl (lv_at hl 1 rfl) ?_
  refine th_getO (j := 0) (r2 := 40) hC cf_X10 hB.1 h1 ro_39 rfl rfl kf_X10_11 dX10_copyFrom_1 (fun b1 mb1 hb1 => ?_)
  refine lv_iconst (v := 0) hx hb dX10_copyFrom_4 (by decide) ?_
  refine lv_aload_n hx hb dX10_copyFrom_5 rfl (lv_at hl 0 rfl) ?_
  refine th_getO (j := 0) (r2 := 40) hC cf_X10 hB.1 h0 ro_39 rfl rfl kf_X10_11 dX10_copyFrom_6 (fun b2 mb2 hb2 => ?_)
  refine lv_iconst (v := 0) hx hb dX10_copyFrom_9 (by decide) ?_
  refine lv_aload_n hx hb dX10_copyFrom_10 rfl (lv_at hl 1 rfl) ?_
  refine th_getI (j := 2) hC cf_X10 hB.1 h1 ro_39 rfl rfl kf_X10_18 dX10_copyFrom_11 (fun x3 mx3 lx3 ux3 => ?_)
  replace hF := hF.trans (dv_bn (dv_getI h1 ro_39 (j := 2) rfl mx3 (by decide)))
  have hIo := hB.1
  refine tr_acopy hC kac_X10_25 kw_nat kw_sta kw_sys hl.1 hB hb1 hb2 (Or.inl hb2) ro_40 ro_40 (by decide) tk_0 tk_0 (Eq.refl _) (by omega) (by omega) (by omega) (by omega) (by omega) (fun _ _ => rfl) (fun _ _ _ hv => hv) (Nat.le_of_ble_eq_true rfl) (Nat.le_of_ble_eq_true rfl) dX10_copyFrom_14 (fun H14 locs hB hf14 hcp14 => ?_)
  have hf := hf14
  have mm4 := (th_F_o hf h1 ro_39 (j := 0) (by decide) (by decide)).trans mb1
  have mm5 := (th_F_o hf h1 ro_39 (j := 2) (by decide) (by decide)).trans mx3
  have hR := th_RC_F hB.1 hR hf (th_T_c hb2 ro_40 hcp14) (by decide)
  replace hF := hF.trans (dv_bn (dv_cpy hIo hB.1 hU hb1 ow_40 hb2 ow_40 (x := 0) (y := 0) (n := x3.toInt) hcp14 (by omega) (by omega) (by omega)))
  refine lv_aload_n hx hb dX10_copyFrom_17 rfl (lv_at hl 1 rfl) ?_
  refine th_getO (j := 1) (r2 := 41) hC cf_X10 hB.1 h1 ro_39 rfl rfl kf_X10_15 dX10_copyFrom_18 (fun b6 mb6 hb6 => ?_)
  have sb6 := (th_F_o hB.2.2 h1 ro_39 (j := 1) (by decide) (by decide)).symm.trans mb6
  refine lv_iconst (v := 0) hx hb dX10_copyFrom_21 (by decide) ?_
  refine lv_aload_n hx hb dX10_copyFrom_22 rfl (lv_at hl 0 rfl) ?_
  refine th_getO (j := 1) (r2 := 41) hC cf_X10 hB.1 h0 ro_39 rfl rfl kf_X10_15 dX10_copyFrom_23 (fun b7 mb7 hb7 => ?_)
  refine lv_iconst (v := 0) hx hb dX10_copyFrom_26 (by decide) ?_
  refine lv_aload_n hx hb dX10_copyFrom_27 rfl (lv_at hl 1 rfl) ?_
  refine th_getI (j := 3) hC cf_X10 hB.1 h1 ro_39 rfl rfl kf_X10_22 dX10_copyFrom_28 (fun x8 mx8 lx8 ux8 => ?_)
  replace hF := hF.trans (dv_bn (dv_getI h1 ro_39 (j := 3) rfl mx8 (by decide)))
  refine lv_bipush (v := 8) hx hb dX10_copyFrom_31 (by decide) ?_
  refine tr_imul hx hb dX10_copyFrom_33 (Eq.refl _) tk_8 (by omega) (by omega) (fun x9 ex9 => ?_)
  replace hF := hF.trans (dv_bn (ex9.symm))
  have hIo := hB.1
  refine tr_acopy hC kac_X10_25 kw_nat kw_sta kw_sys hl.1 hB hb6 hb7 (Or.inl hb7) ro_41 ro_41 (by decide) tk_0 tk_0 (Eq.refl _) (by omega) (by omega) (by omega) (by omega) (by omega) (fun _ _ => th_esm1 _) (fun _ _ _ hv => th_sat_m (th_esm1 _) hv) (Nat.le_of_ble_eq_true rfl) (Nat.le_of_ble_eq_true rfl) dX10_copyFrom_34 (fun H34 locs hB hf34 hcp34 => ?_)
  have hf := hf34
  have mm10 := (th_F_o hf h1 ro_39 (j := 0) (by decide) (by decide)).trans mm4
  have mm11 := (th_F_o hf h1 ro_39 (j := 2) (by decide) (by decide)).trans mm5
  have mm12 := (th_F_o hf h1 ro_39 (j := 1) (by decide) (by decide)).trans mb6
  have mm13 := (th_F_o hf h1 ro_39 (j := 3) (by decide) (by decide)).trans mx8
  have hR := th_RC_F hB.1 hR hf (th_T_c hb7 ro_41 hcp34) (by decide)
  replace hF := hF.trans (dv_bn (dv_cpy hIo hB.1 hU hb6 ow_41 hb7 ow_41 (x := 0) (y := 0) (n := x9.toInt) hcp34 (by omega) (by omega) (by omega)))
  refine lv_aload_n hx hb dX10_copyFrom_37 rfl (lv_at hl 0 rfl) ?_
  refine lv_aload_n hx hb dX10_copyFrom_38 rfl (lv_at hl 1 rfl) ?_
  refine th_getK hC cf_X10 hB.1 h1 ro_39 rfl (j := 2) (by decide) mm11 kf_X10_18 dX10_copyFrom_39 ?_
  replace hF := hF.trans (dv_bn (dv_getI h1 ro_39 (j := 2) rfl mm11 (by decide)))
  refine th_put hC cf_X10 hB h0 (Or.inl h0) ro_39 rfl (j := 2) rfl (th_sI (by omega) (by omega)) (by decide) rfl rfl rfl kf_X10_18 dX10_copyFrom_42 (fun H42 locs hB hf hst42 => ?_)
  have mm14 := (th_F_o hf h1 ro_39 (j := 0) (by decide) (by decide)).trans mm10
  have mm15 := (th_F_o hf h1 ro_39 (j := 1) (by decide) (by decide)).trans mm12
  have mm16 := (th_F_o hf h1 ro_39 (j := 3) (by decide) (by decide)).trans mm13
  have hR := th_RC_F hB.1 hR hf (th_T_s h0 ro_39 hst42) (by decide)
  replace hF := hF.trans (dv_bn (dv_putI hB.1 h0 ro_39 (j := 2) rfl (th_apart hC cf_X10) hst42 (Eq.refl _) (by decide)))
  refine lv_aload_n hx hb dX10_copyFrom_45 rfl (lv_at hl 0 rfl) ?_
  refine lv_aload_n hx hb dX10_copyFrom_46 rfl (lv_at hl 1 rfl) ?_
  refine th_getK hC cf_X10 hB.1 h1 ro_39 rfl (j := 3) (by decide) mm16 kf_X10_22 dX10_copyFrom_47 ?_
  replace hF := hF.trans (dv_bn (dv_getI h1 ro_39 (j := 3) rfl mm16 (by decide)))
  refine th_put hC cf_X10 hB h0 (Or.inl h0) ro_39 rfl (j := 3) rfl (th_sI (by omega) (by omega)) (by decide) rfl rfl rfl kf_X10_22 dX10_copyFrom_50 (fun H50 locs hB hf hst50 => ?_)
  have mm17 := (th_F_o hf h1 ro_39 (j := 0) (by decide) (by decide)).trans mm14
  have mm18 := (th_F_o hf h1 ro_39 (j := 1) (by decide) (by decide)).trans mm15
  have hR := th_RC_F hB.1 hR hf (th_T_s h0 ro_39 hst50) (by decide)
  replace hF := hF.trans (dv_bn (dv_putI hB.1 h0 ro_39 (j := 3) rfl (th_apart hC cf_X10) hst50 (Eq.refl _) (by decide)))
  exact th_vret hC hH hr hlocks hB.2.1 ⟨rfl, hB.1, hB.2.2, hR, (hF0.symm.trans hF)⟩ dX10_copyFrom_53

set_option maxHeartbeats 4000000 in
set_option maxRecDepth 100000 in
theorem c_X9_addFour (l : Launch) (G : th_G) (Γ : th_Ga) (H0 : Heap) (hI : th_I G Γ H0) (hR : th_RC G Γ H0) (hU : dv_U Γ) (a0 : Nat) (h0 : Γ a0 = (37, 0)) (p1 : Int32) : Met l yX9_addFour (.code yX9_addFour cX9_addFour 3 (none) :: th_tb) ({ frames := 0, cells := 0, slots := 0, locals := 0 } : Room) (th_P [.ref a0, .int p1] G H0) (th_Q (fun (v : Option Value) (H1 : Heap) => v = none ∧ th_I G Γ H1 ∧ th_F G Γ [(38, 0), (37, 1)] H0 H1 ∧ th_RC G Γ H1 ∧ (f_X9_addFour (dv G Γ H0) (a0 : Int) p1.toInt = (dv G Γ H1, 0))) G) 0 0 (fun q => G.2.2 ≤ q) := by
  refine th_met RX9 (by decide) rfl (Nat.le_of_ble_eq_true rfl) ?_
  intro p e s m below meth c hC hH hr hlocks hnm ls hl
  have hx := hC.1
  have hb := hC.2.1
  have hB : th_B G Γ Γ [(38, 0), (37, 1)] H0 H0 [] := ⟨hI, va_S.rf, th_F_rf⟩
  have hl : lv_has ls 3 [(0, .ref a0), (1, .int p1)] := hl
  have lp1 := ti_lo p1; have up1 := ti_hi p1
  obtain ⟨F, hF0⟩ : ∃ F, F = f_X9_addFour (dv G Γ H0) ((a0 : Int)) (p1.toInt) := ⟨_, rfl⟩
  have hF := hF0.trans (f_X9_addFour.eq_1 (dv G Γ H0) ((a0 : Int)) (p1.toInt))
  refine lv_bipush (v := 24) hx hb dX9_addFour_0 (by decide) ?_
  refine lv_istore_n (lv' := [(2, .int 24), (0, .ref a0), (1, .int p1)]) hx hb dX9_addFour_2 rfl hl (by decide) rfl (fun ls hl => ?_)
  have lp3 : ∀ (n3 : Nat) (H3 : Heap) (locs : List Loc) (ls : Array Slot) (j3_2 : Int32), th_B G Γ Γ [(38, 0), (37, 1)] H0 H3 locs → th_RC G Γ H3 → lv_has ls 3 [(0, .ref a0), (1, .int p1), (2, .int j3_2)] → F = dv_lp f_X9_addFour_3b (dv G Γ H3, (a0 : Int), p1.toInt, j3_2.toInt) → j3_2.toInt ≤ 24 → j3_2.toInt + (2147483649 : Int) ≤ (n3 : Int) → W p l e ({ frames := 0, cells := 0, slots := 0, locals := 0 } : Room) s m ([.ref a0, .int p1] : List Value).toArray below meth c H3 locs 0 0 (MQ below (th_Q (fun (v : Option Value) (H1 : Heap) => v = none ∧ th_I G Γ H1 ∧ th_F G Γ [(38, 0), (37, 1)] H0 H1 ∧ th_RC G Γ H1 ∧ (f_X9_addFour (dv G Γ H0) (a0 : Int) p1.toInt = (dv G Γ H1, 0))) G) ([.ref a0, .int p1] : List Value).toArray s 0 0 (fun q => G.2.2 ≤ q)) (F0 m 3 ls []) := by
    intro n3
    induction n3 with
    | zero => intro H3 locs ls j3_2 hB hR hl hF g3_0 hm3; exact absurd hm3 (by have := ti_lo j3_2; omega)
    | succ n3 ih3 =>
      intro H3 locs ls j3_2 hB hR hl hF g3_0 hm3
      have lj3_2 := ti_lo j3_2; have uj3_2 := ti_hi j3_2
      have hm3 : j3_2.toInt + (2147483649 : Int) ≤ (n3 : Int) + 1 := by omega
      replace hF := hF.trans (dv_lp_eq)
      replace hF := hF.trans (congrArg (dv_k f_X9_addFour_3b) (f_X9_addFour_3c.eq_1 (dv G Γ H3) ((a0 : Int)) (p1.toInt) (j3_2.toInt)))
      refine lv_iload_n hx hb dX9_addFour_3 rfl (lv_at hl 2 rfl) ?_
      refine tr_if_lt (tgt := 49) hx hb dX9_addFour_4 (by decide) (Eq.refl _) (fun c4 => ?_) (fun c4 => ?_)
      · replace hF := hF.trans (congrArg (dv_k f_X9_addFour_3b) (if_pos c4))
        replace hF := hF.trans (dv_kr)
        exact th_vret hC hH hr hlocks hB.2.1 ⟨rfl, hB.1, hB.2.2, hR, (hF0.symm.trans hF)⟩ dX9_addFour_49
      · replace hF := hF.trans (congrArg (dv_k f_X9_addFour_3b) (if_neg (Int.not_lt.mpr c4)))
        refine lv_aload_n hx hb dX9_addFour_7 rfl (lv_at hl 0 rfl) ?_
        refine th_getI (j := 1) hC cf_X9 hB.1 h0 ro_37 rfl rfl kf_X9_15 dX9_addFour_8 (fun x1 mx1 lx1 ux1 => ?_)
        replace hF := hF.trans (congrArg (dv_k f_X9_addFour_3b) (dv_bn (dv_getI h0 ro_37 (j := 1) rfl mx1 (by decide))))
        refine lv_sipush (v := 400) hx hb dX9_addFour_11 (by decide) ?_
        refine tr_icmp_ge (tgt := 49) hx hb dX9_addFour_14 (by decide) (Eq.refl _) tk_400 (fun c14 => ?_) (fun c14 => ?_)
        · replace hF := hF.trans (congrArg (dv_k f_X9_addFour_3b) (if_pos c14))
          replace hF := hF.trans (dv_kr)
          exact th_vret hC hH hr hlocks hB.2.1 ⟨rfl, hB.1, hB.2.2, hR, (hF0.symm.trans hF)⟩ dX9_addFour_49
        · replace hF := hF.trans (congrArg (dv_k f_X9_addFour_3b) (if_neg (Int.not_le.mpr c14)))
          refine lv_aload_n hx hb dX9_addFour_17 rfl (lv_at hl 0 rfl) ?_
          refine th_getO (j := 0) (r2 := 38) hC cf_X9 hB.1 h0 ro_37 rfl rfl kf_X9_9 dX9_addFour_18 (fun b2 mb2 hb2 => ?_)
          have sb2 := (th_F_o hB.2.2 h0 ro_37 (j := 0) (by decide) (by decide)).symm.trans mb2
          refine lv_aload_n hx hb dX9_addFour_21 rfl (lv_at hl 0 rfl) ?_
          refine th_getK hC cf_X9 hB.1 h0 ro_37 rfl (j := 1) (by decide) mx1 kf_X9_15 dX9_addFour_22 ?_
          replace hF := hF.trans (congrArg (dv_k f_X9_addFour_3b) (dv_bn (dv_getI h0 ro_37 (j := 1) rfl mx1 (by decide))))
          refine lv_iload_n hx hb dX9_addFour_25 rfl (lv_at hl 1 rfl) ?_
          refine lv_iload_n hx hb dX9_addFour_26 rfl (lv_at hl 2 rfl) ?_
          refine lv_iushr hx hb dX9_addFour_27 rfl ?_
          refine lv_topi (fun x3 ex3 => ?_)
          have lx3 := ti_lo x3; have ux3 := ti_hi x3
          replace hF := hF.trans (congrArg (dv_k f_X9_addFour_3b) (dv_bn (dv_ushr_e (Eq.refl _) (Eq.refl _) ex3)))
          refine lv_sipush (v := 255) hx hb dX9_addFour_28 (by decide) ?_
          refine lv_iand hx hb dX9_addFour_31 ?_
          refine lv_topi (fun x4 ex4 => ?_)
          have lx4 := ti_lo x4; have ux4 := ti_hi x4
          replace hF := hF.trans (congrArg (dv_k f_X9_addFour_3b) (dv_bn (dv_and_e (Eq.refl _) tk_255 ex4)))
          have fx4 := ti_and x3 8 (m := 255) (by decide) (by decide)
          rw [← ex4] at fx4
          have hIo := hB.1
          refine th_iastF hC hB hb2 (Or.inl hb2) ro_38 rfl (by decide) (Eq.refl _) (by omega) (by omega) th_sIa dX9_addFour_32 (fun H32 locs hB hf32 hst32 => ?_)
          have hf := hf32
          have mm5 := (th_F_o hf h0 ro_37 (j := 1) (by decide) (by decide)).trans mx1
          have mm6 := (th_F_o hf h0 ro_37 (j := 0) (by decide) (by decide)).trans mb2
          have hR := th_RC_F hB.1 hR hf (th_T_s hb2 ro_38 hst32) (by decide)
          replace hF := hF.trans (congrArg (dv_k f_X9_addFour_3b) (dv_bn (dv_stoI hIo hB.1 hU hb2 ow_38 (i := x1.toInt) hst32 (Eq.refl _) (by omega))))
          refine lv_aload_n hx hb dX9_addFour_33 rfl (lv_at hl 0 rfl) ?_
          refine lv_dup hx hb dX9_addFour_34 rfl ?_
          refine th_getK hC cf_X9 hB.1 h0 ro_37 rfl (j := 1) (by decide) mm5 kf_X9_15 dX9_addFour_35 ?_
          replace hF := hF.trans (congrArg (dv_k f_X9_addFour_3b) (dv_bn (dv_getI h0 ro_37 (j := 1) rfl mm5 (by decide))))
          refine lv_iconst (v := 1) hx hb dX9_addFour_38 (by decide) ?_
          refine tr_iadd hx hb dX9_addFour_39 (Eq.refl _) tk_1 (by omega) (by omega) (fun x7 ex7 => ?_)
          replace hF := hF.trans (congrArg (dv_k f_X9_addFour_3b) (dv_bn (ex7.symm)))
          refine th_put hC cf_X9 hB h0 (Or.inl h0) ro_37 rfl (j := 1) rfl (th_sI (by omega) (by omega)) (by decide) rfl rfl rfl kf_X9_15 dX9_addFour_40 (fun H40 locs hB hf hst40 => ?_)
          have mm8 := (th_F_o hf h0 ro_37 (j := 0) (by decide) (by decide)).trans mm6
          have hR := th_RC_F hB.1 hR hf (th_T_s h0 ro_37 hst40) (by decide)
          replace hF := hF.trans (congrArg (dv_k f_X9_addFour_3b) (dv_bn (dv_putI hB.1 h0 ro_37 (j := 1) rfl (th_apart hC cf_X9) hst40 (Eq.refl _) (by decide))))
          have mm9 := hst40.2.1
          refine tr_iinc (fun x10 => [(2, .int x10), (0, .ref a0), (1, .int p1)]) hx hb dX9_addFour_43 hl (k := 2) rfl (Eq.refl _) tk_m8 (by omega) (by omega) (by decide) (fun _ => rfl) (fun x10 ls ex10 hl => ?_)
          replace hF := hF.trans (congrArg (dv_k f_X9_addFour_3b) (dv_bn (ex10.symm)))
          refine lv_goto (tgt := 3) hx hb dX9_addFour_46 (by decide) ?_
          replace hF := hF.trans (dv_kl)
          exact ih3 H40 locs ls x10 hB hR (lv_sub hl [1, 2, 0] rfl) hF (by omega) (by omega)
  exact lp3 ((24) + (2147483649 : Int)).toNat H0 [] ls 24 hB hR (lv_sub hl [1, 2, 0] rfl) (by rw [tk_24]; exact hF) (by decide) (by have w0 := tk_24; omega)
