set_option maxHeartbeats 4000000 in
set_option maxRecDepth 100000 in
theorem c_X11_law (l : Launch) (G : th_G) (Γ : th_Ga) (H0 : Heap) (hI : th_I G Γ H0) (hR : th_RC G Γ H0) (hU : dv_U Γ) (a0 : Nat) (h0 : Γ a0 = (42, 0)) (k1 : ∀ a a1 o o1 : Nat, Γ a = (20, o) → Γ a1 = (20, o1) → a = a1) : Met l yX11_law (.code yX11_law cX11_law 1 (some FieldType.int) :: th_tb) ({ frames := 46, cells := 0, slots := 0, locals := 1360 } : Room) (th_PX [.ref a0] G H0 (fun U => th_Z G U H0)) (th_Q (fun (v : Option Value) (H1 : Heap) => ∃ r : Int32, v = some (.int r) ∧ th_I G Γ H1 ∧ th_F G Γ [(45, 0), (42, 14), (20, 5), (20, 6), (20, 7), (20, 8), (40, 0), (39, 2), (41, 0), (39, 3), (21, 0), (22, 0), (20, 2), (20, 3), (20, 4), (37, 1), (42, 15), (32, 5)] H0 H1 ∧ th_RC G Γ H1 ∧ (f_X11_law (dv G Γ H0) (a0 : Int) = (dv G Γ H1, r.toInt))) G) 0 0 (fun q => G.2.2 ≤ q) := by
  refine th_metX RX11 (by decide) rfl (Nat.le_of_ble_eq_true rfl) ?_
  intro p e s m below meth c hC hX hH hr hlocks hnm ls hl
  have hx := hC.1
  have hb := hC.2.1
  have hB : th_B G Γ Γ [(45, 0), (42, 14), (20, 5), (20, 6), (20, 7), (20, 8), (40, 0), (39, 2), (41, 0), (39, 3), (21, 0), (22, 0), (20, 2), (20, 3), (20, 4), (37, 1), (42, 15), (32, 5)] H0 H0 [] := ⟨hI, va_S.rf, th_F_rf⟩
  have hl : lv_has ls 1 [(0, .ref a0)] := hl
  obtain ⟨F, hF0⟩ : ∃ F, F = f_X11_law (dv G Γ H0) ((a0 : Int)) := ⟨_, rfl⟩
  have hF := hF0.trans (f_X11_law.eq_1 (dv G Γ H0) ((a0 : Int)))
  refine lv_aload_n hx hb dX11_law_0 rfl (lv_at hl 0 rfl) ?_
  refine th_getR (j := 0) (r2 := 32) hC cf_X11 hB.1 h0 ro_42 rfl rfl kf_X11_12 dX11_law_1 (fun b1 mb1 hb1 => ?_)
  replace hF := hF.trans (dv_bn (dv_getR h0 ro_42 (j := 0) rfl mb1 (by decide)))
  refine th_getI (j := 5) hC cf_X8 hB.1 hb1 ro_32 rfl rfl kf_X11_196 dX11_law_4 (fun x2 mx2 lx2 ux2 => ?_)
  replace hF := hF.trans (dv_bn (dv_getI hb1 ro_32 (j := 5) rfl mx2 (by decide)))
  refine lv_bipush (v := 6) hx hb dX11_law_7 (by decide) ?_
  refine tr_icmp_lt (tgt := 27) hx hb dX11_law_9 (by decide) (Eq.refl _) tk_6 (fun c9 => ?_) (fun c9 => ?_)
  · replace hF := hF.trans (if_pos c9)
    refine lv_aload_n hx hb dX11_law_27 rfl (lv_at hl 0 rfl) ?_
    refine lv_aload_n hx hb dX11_law_28 rfl (lv_at hl 0 rfl) ?_
    refine th_getR (j := 6) (r2 := 20) hC cf_X11 hB.1 h0 ro_42 rfl rfl kf_X11_44 dX11_law_29 (fun b3 mb3 hb3 => ?_)
    replace hF := hF.trans (dv_bn (dv_getR h0 ro_42 (j := 6) rfl mb3 (by decide)))
    refine lv_aload_n hx hb dX11_law_32 rfl (lv_at hl 0 rfl) ?_
    refine th_getR (j := 5) (r2 := 37) hC cf_X11 hB.1 h0 ro_42 rfl rfl kf_X11_37 dX11_law_33 (fun b4 mb4 hb4 => ?_)
    replace hF := hF.trans (dv_bn (dv_getR h0 ro_42 (j := 5) rfl mb4 (by decide)))
    refine lv_aload_n hx hb dX11_law_36 rfl (lv_at hl 0 rfl) ?_
    refine th_getK hC cf_X11 hB.1 h0 ro_42 rfl (j := 0) (by decide) mb1 kf_X11_12 dX11_law_37 ?_
    replace hF := hF.trans (dv_bn (dv_getR h0 ro_42 (j := 0) rfl mb1 (by decide)))
    refine th_getO (j := 1) (r2 := 33) hC cf_X8 hB.1 hb1 ro_32 rfl rfl kf_X11_199 dX11_law_40 (fun b5 mb5 hb5 => ?_)
    refine lv_aload_n hx hb dX11_law_43 rfl (lv_at hl 0 rfl) ?_
    refine th_getK hC cf_X11 hB.1 h0 ro_42 rfl (j := 0) (by decide) mb1 kf_X11_12 dX11_law_44 ?_
    replace hF := hF.trans (dv_bn (dv_getR h0 ro_42 (j := 0) rfl mb1 (by decide)))
    refine th_getK hC cf_X8 hB.1 hb1 ro_32 rfl (j := 5) (by decide) mx2 kf_X11_196 dX11_law_47 ?_
    replace hF := hF.trans (dv_bn (dv_getI hb1 ro_32 (j := 5) rfl mx2 (by decide)))
    refine th_aaldF (r2 := 39) hC hB.1 hb5 ro_33 rfl (Eq.refl _) (by omega) (by omega) rfl dX11_law_50 (fun b6 mb6 hb6 => ?_)
    replace hF := hF.trans (dv_bn (dv_aldR hB.1 hU hb5 ow_33 (z := x2.toInt) mb6 (by omega)))
    refine lv_iconst (v := 0) hx hb dX11_law_51 (by decide) ?_
    refine th_call (th_runVX (As := [.ref b4, .ref b6, .int 0]) (rest := [.ref a0]) th_mvZ (th_Z_k hX hB.2.1) hC mf_X5_read km_X11_203 im_X5_read se_X5_read (c_X5_read l G Γ H0 hB.1 hR hU b3 hb3 b4 hb4 b6 hb6 0 (by decide) (by decide) k1) rfl rfl ⟨Nat.le_of_ble_eq_true rfl, Nat.le_of_ble_eq_true rfl⟩ hB.1 hb3 ro_20 rfl rfl hl.1 rfl (Nat.le_of_ble_eq_true rfl) dX11_law_52 ⟨Nat.le_refl _, Nat.le_refl _⟩) hB.2.1 (fun v52 H52 locs hp hz hS => ?_)
    obtain ⟨x7, rfl, hI1, hf, hR, z52_0⟩ := hp
    have hB := th_B_c hB hI1 hS hf (by decide)
    have mm8 := (th_F_o hf h0 ro_42 (j := 0) (by decide) (by decide)).trans mb1
    have mm9 := (th_F_o hf hb1 ro_32 (j := 5) (by decide) (by decide)).trans mx2
    have mm10 := (th_F_o hf h0 ro_42 (j := 5) (by decide) (by decide)).trans mb4
    have zf52 := z52_0
    rw [tk_0] at zf52
    replace hF := hF.trans (dv_bn2 (zf52))
    refine W.eq (g2 := F0 m 55 ls [.int x7, .ref a0]) rfl ?_
    refine th_put hC cf_X11 hB h0 (Or.inl h0) ro_42 rfl (j := 15) rfl th_sIa (by decide) rfl rfl rfl kf_X11_98 dX11_law_55 (fun H55 locs hB hf hst55 => ?_)
    have mm11 := (th_F_o hf h0 ro_42 (j := 0) (by decide) (by decide)).trans mm8
    have mm12 := (th_F_o hf hb1 ro_32 (j := 5) (by decide) (by decide)).trans mm9
    have mm13 := (th_F_o hf h0 ro_42 (j := 5) (by decide) (by decide)).trans mm10
    have hR := th_RC_F hB.1 hR hf (th_T_s h0 ro_42 hst55) (by decide)
    replace hF := hF.trans (dv_bn (dv_putI hB.1 h0 ro_42 (j := 15) rfl (th_apart hC cf_X11) hst55 (Eq.refl _) (by decide)))
    have mm14 := hst55.2.1
    refine lv_aload_n hx hb dX11_law_58 rfl (lv_at hl 0 rfl) ?_
    refine th_getK hC cf_X11 hB.1 h0 ro_42 rfl (j := 5) (by decide) mm13 kf_X11_37 dX11_law_59 ?_
    replace hF := hF.trans (dv_bn (dv_getR h0 ro_42 (j := 5) rfl mm13 (by decide)))
    refine lv_iconst (v := 0) hx hb dX11_law_62 (by decide) ?_
    refine th_put hC cf_X9 hB hb4 (Or.inl hb4) ro_37 rfl (j := 1) rfl (th_sI (by decide) (by decide)) (by decide) rfl rfl rfl kf_X11_186 dX11_law_63 (fun H63 locs hB hf hst63 => ?_)
    have mm15 := (th_F_o hf h0 ro_42 (j := 0) (by decide) (by decide)).trans mm11
    have mm16 := (th_F_o hf hb1 ro_32 (j := 5) (by decide) (by decide)).trans mm12
    have mm17 := (th_F_o hf h0 ro_42 (j := 5) (by decide) (by decide)).trans mm13
    have mm18 := (th_F_o hf h0 ro_42 (j := 15) (by decide) (by decide)).trans mm14
    have hR := th_RC_F hB.1 hR hf (th_T_s hb4 ro_37 hst63) (by decide)
    replace hF := hF.trans (dv_bn (dv_putI hB.1 hb4 ro_37 (j := 1) rfl (th_apart hC cf_X9) hst63 tk_0 (by decide)))
    refine lv_aload_n hx hb dX11_law_66 rfl (lv_at hl 0 rfl) ?_
    refine th_getK hC cf_X11 hB.1 h0 ro_42 rfl (j := 15) (by decide) mm18 kf_X11_98 dX11_law_67 ?_
    replace hF := hF.trans (dv_bn (dv_getI h0 ro_42 (j := 15) rfl mm18 (by decide)))
    refine lv_iconst (v := (-1)) hx hb dX11_law_70 (by decide) ?_
    refine tr_icmp_eq (tgt := 81) hx hb dX11_law_71 (by decide) (Eq.refl _) tk_m1 (fun c71 => ?_) (fun c71 => ?_)
    · replace hF := hF.trans (if_pos c71)
      refine lv_aload_n hx hb dX11_law_81 rfl (lv_at hl 0 rfl) ?_
      refine th_getK hC cf_X11 hB.1 h0 ro_42 rfl (j := 0) (by decide) mm15 kf_X11_12 dX11_law_82 ?_
      replace hF := hF.trans (dv_bn (dv_getR h0 ro_42 (j := 0) rfl mm15 (by decide)))
      refine lv_dup hx hb dX11_law_85 rfl ?_
      refine th_getK hC cf_X8 hB.1 hb1 ro_32 rfl (j := 5) (by decide) mm16 kf_X11_196 dX11_law_86 ?_
      replace hF := hF.trans (dv_bn (dv_getI hb1 ro_32 (j := 5) rfl mm16 (by decide)))
      refine lv_iconst (v := 1) hx hb dX11_law_89 (by decide) ?_
      refine tr_iadd hx hb dX11_law_90 (Eq.refl _) tk_1 (by omega) (by omega) (fun x19 ex19 => ?_)
      replace hF := hF.trans (dv_bn (ex19.symm))
      refine th_put hC cf_X8 hB hb1 (Or.inl hb1) ro_32 rfl (j := 5) rfl (th_sI (by omega) (by omega)) (by decide) rfl rfl rfl kf_X11_196 dX11_law_91 (fun H91 locs hB hf hst91 => ?_)
      have mm20 := (th_F_o hf h0 ro_42 (j := 0) (by decide) (by decide)).trans mm15
      have mm21 := (th_F_o hf h0 ro_42 (j := 5) (by decide) (by decide)).trans mm17
      have mm22 := (th_F_o hf h0 ro_42 (j := 15) (by decide) (by decide)).trans mm18
      have hR := th_RC_F hB.1 hR hf (th_T_s hb1 ro_32 hst91) (by decide)
      replace hF := hF.trans (dv_bn (dv_putI hB.1 hb1 ro_32 (j := 5) rfl (th_apart hC cf_X8) hst91 (Eq.refl _) (by decide)))
      have mm23 := hst91.2.1
      refine lv_aload_n hx hb dX11_law_94 rfl (lv_at hl 0 rfl) ?_
      refine lv_aload_n hx hb dX11_law_95 rfl (lv_at hl 0 rfl) ?_
      refine th_getK hC cf_X11 hB.1 h0 ro_42 rfl (j := 0) (by decide) mm20 kf_X11_12 dX11_law_96 ?_
      replace hF := hF.trans (dv_bn (dv_getR h0 ro_42 (j := 0) rfl mm20 (by decide)))
      refine th_getK hC cf_X8 hB.1 hb1 ro_32 rfl (j := 5) (by decide) mm23 kf_X11_196 dX11_law_99 ?_
      replace hF := hF.trans (dv_bn (dv_getI hb1 ro_32 (j := 5) rfl mm23 (by decide)))
      refine lv_iconst (v := 1) hx hb dX11_law_102 (by decide) ?_
      refine tr_isub hx hb dX11_law_103 (Eq.refl _) tk_1 (by omega) (by omega) (fun x24 ex24 => ?_)
      replace hF := hF.trans (dv_bn (ex24.symm))
      refine th_call (th_runV (As := [.int x24]) (rest := []) hC mf_X11_answer km_X11_117 im_X11_answer se_X11_answer (c_X11_answer l G Γ H91 hB.1 hR hU a0 h0 x24) rfl rfl ⟨Nat.le_of_ble_eq_true rfl, Nat.le_of_ble_eq_true rfl⟩ hB.1 h0 ro_42 rfl rfl hl.1 rfl (Nat.le_of_ble_eq_true rfl) dX11_law_104 ⟨Nat.le_refl _, Nat.le_refl _⟩) hB.2.1 (fun v104 H104 locs hp hz hS => ?_)
      obtain ⟨x25, rfl, q104_0, hI1, hf, hR, z104_0⟩ := hp
      have hB := th_B_c hB hI1 hS hf (by decide)
      have mm26 := (th_F_o hf h0 ro_42 (j := 0) (by decide) (by decide)).trans mm20
      have mm27 := (th_F_o hf h0 ro_42 (j := 5) (by decide) (by decide)).trans mm21
      have mm28 := (th_F_o hf h0 ro_42 (j := 15) (by decide) (by decide)).trans mm22
      have mm29 := (th_F_o hf hb1 ro_32 (j := 5) (by decide) (by decide)).trans mm23
      replace hF := hF.trans (dv_bn2 (z104_0))
      refine W.eq (g2 := F0 m 107 ls [.int x25]) rfl ?_
      exact th_iret hC hH hr hlocks rfl hB.2.1 ⟨_, rfl, hB.1, hB.2.2, hR, (hF0.symm.trans hF)⟩ dX11_law_107
    · replace hF := hF.trans (if_neg c71)
      refine lv_aload_n hx hb dX11_law_74 rfl (lv_at hl 0 rfl) ?_
      refine lv_bipush (v := (-6)) hx hb dX11_law_75 (by decide) ?_
      refine th_call (th_runV (As := [.int (-6)]) (rest := []) hC mf_X11_answer km_X11_117 im_X11_answer se_X11_answer (c_X11_answer l G Γ H63 hB.1 hR hU a0 h0 (-6)) rfl rfl ⟨Nat.le_of_ble_eq_true rfl, Nat.le_of_ble_eq_true rfl⟩ hB.1 h0 ro_42 rfl rfl hl.1 rfl (Nat.le_of_ble_eq_true rfl) dX11_law_77 ⟨Nat.le_refl _, Nat.le_refl _⟩) hB.2.1 (fun v77 H77 locs hp hz hS => ?_)
      obtain ⟨x30, rfl, q77_0, hI1, hf, hR, z77_0⟩ := hp
      have hB := th_B_c hB hI1 hS hf (by decide)
      have mm31 := (th_F_o hf h0 ro_42 (j := 0) (by decide) (by decide)).trans mm15
      have mm32 := (th_F_o hf hb1 ro_32 (j := 5) (by decide) (by decide)).trans mm16
      have mm33 := (th_F_o hf h0 ro_42 (j := 5) (by decide) (by decide)).trans mm17
      have mm34 := (th_F_o hf h0 ro_42 (j := 15) (by decide) (by decide)).trans mm18
      have w77_0 := tk_m6
      have zf77 := z77_0
      rw [tk_m6] at zf77
      replace hF := hF.trans (dv_bn2 (zf77))
      refine W.eq (g2 := F0 m 80 ls [.int x30]) rfl ?_
      exact th_iret hC hH hr hlocks rfl hB.2.1 ⟨_, rfl, hB.1, hB.2.2, hR, (hF0.symm.trans hF)⟩ dX11_law_80
  · replace hF := hF.trans (if_neg (Int.not_lt.mpr c9))
    refine lv_aload_n hx hb dX11_law_12 rfl (lv_at hl 0 rfl) ?_
    refine th_getR (j := 5) (r2 := 37) hC cf_X11 hB.1 h0 ro_42 rfl rfl kf_X11_37 dX11_law_13 (fun b35 mb35 hb35 => ?_)
    replace hF := hF.trans (dv_bn (dv_getR h0 ro_42 (j := 5) rfl mb35 (by decide)))
    refine lv_iconst (v := 0) hx hb dX11_law_16 (by decide) ?_
    refine th_put hC cf_X9 hB hb35 (Or.inl hb35) ro_37 rfl (j := 1) rfl (th_sI (by decide) (by decide)) (by decide) rfl rfl rfl kf_X11_186 dX11_law_17 (fun H17 locs hB hf hst17 => ?_)
    have mm36 := (th_F_o hf h0 ro_42 (j := 0) (by decide) (by decide)).trans mb1
    have mm37 := (th_F_o hf hb1 ro_32 (j := 5) (by decide) (by decide)).trans mx2
    have hR := th_RC_F hB.1 hR hf (th_T_s hb35 ro_37 hst17) (by decide)
    replace hF := hF.trans (dv_bn (dv_putI hB.1 hb35 ro_37 (j := 1) rfl (th_apart hC cf_X9) hst17 tk_0 (by decide)))
    refine lv_aload_n hx hb dX11_law_20 rfl (lv_at hl 0 rfl) ?_
    refine lv_bipush (v := (-5)) hx hb dX11_law_21 (by decide) ?_
    refine th_call (th_runV (As := [.int (-5)]) (rest := []) hC mf_X11_answer km_X11_117 im_X11_answer se_X11_answer (c_X11_answer l G Γ H17 hB.1 hR hU a0 h0 (-5)) rfl rfl ⟨Nat.le_of_ble_eq_true rfl, Nat.le_of_ble_eq_true rfl⟩ hB.1 h0 ro_42 rfl rfl hl.1 rfl (Nat.le_of_ble_eq_true rfl) dX11_law_23 ⟨Nat.le_refl _, Nat.le_refl _⟩) hB.2.1 (fun v23 H23 locs hp hz hS => ?_)
    obtain ⟨x38, rfl, q23_0, hI1, hf, hR, z23_0⟩ := hp
    have hB := th_B_c hB hI1 hS hf (by decide)
    have mm39 := (th_F_o hf h0 ro_42 (j := 0) (by decide) (by decide)).trans mm36
    have mm40 := (th_F_o hf hb1 ro_32 (j := 5) (by decide) (by decide)).trans mm37
    have w23_0 := tk_m5
    have zf23 := z23_0
    rw [tk_m5] at zf23
    replace hF := hF.trans (dv_bn2 (zf23))
    refine W.eq (g2 := F0 m 26 ls [.int x38]) rfl ?_
    exact th_iret hC hH hr hlocks rfl hB.2.1 ⟨_, rfl, hB.1, hB.2.2, hR, (hF0.symm.trans hF)⟩ dX11_law_26

set_option maxHeartbeats 4000000 in
set_option maxRecDepth 100000 in
theorem c_X11_orders (l : Launch) (G : th_G) (Γ : th_Ga) (H0 : Heap) (hI : th_I G Γ H0) (hR : th_RC G Γ H0) (hU : dv_U Γ) (a0 : Nat) (h0 : Γ a0 = (42, 0)) (k1 : ∀ a a1 o o1 : Nat, Γ a = (20, o) → Γ a1 = (20, o1) → a = a1) : Met l yX11_orders (.code yX11_orders cX11_orders 4 (some FieldType.int) :: th_tb) ({ frames := 46, cells := 0, slots := 0, locals := 1360 } : Room) (th_PX [.ref a0] G H0 (fun U => th_Z G U H0)) (th_Q (fun (v : Option Value) (H1 : Heap) => ∃ r : Int32, v = some (.int r) ∧ th_I G Γ H1 ∧ th_F G Γ [(45, 0), (42, 14), (20, 5), (20, 6), (20, 7), (20, 8), (40, 0), (39, 2), (41, 0), (39, 3), (21, 0), (22, 0), (20, 2), (20, 3), (20, 4), (37, 1), (42, 15), (42, 17), (24, 0), (23, 3), (26, 0), (25, 0), (18, 0), (17, 4), (4, 0), (5, 0), (6, 0), (9, 0), (3, 7), (3, 8), (3, 9), (3, 10), (7, 0), (8, 0), (19, 0), (17, 3)] H0 H1 ∧ th_RC G Γ H1 ∧ (f_X11_orders (dv G Γ H0) (a0 : Int) = (dv G Γ H1, r.toInt))) G) 0 0 (fun q => G.2.2 ≤ q) := by
  refine th_metX RX11 (by decide) rfl (Nat.le_of_ble_eq_true rfl) ?_
  intro p e s m below meth c hC hX hH hr hlocks hnm ls hl
  have hx := hC.1
  have hb := hC.2.1
  have hB : th_B G Γ Γ [(45, 0), (42, 14), (20, 5), (20, 6), (20, 7), (20, 8), (40, 0), (39, 2), (41, 0), (39, 3), (21, 0), (22, 0), (20, 2), (20, 3), (20, 4), (37, 1), (42, 15), (42, 17), (24, 0), (23, 3), (26, 0), (25, 0), (18, 0), (17, 4), (4, 0), (5, 0), (6, 0), (9, 0), (3, 7), (3, 8), (3, 9), (3, 10), (7, 0), (8, 0), (19, 0), (17, 3)] H0 H0 [] := ⟨hI, va_S.rf, th_F_rf⟩
  have hl : lv_has ls 4 [(0, .ref a0)] := hl
  obtain ⟨F, hF0⟩ : ∃ F, F = f_X11_orders (dv G Γ H0) ((a0 : Int)) := ⟨_, rfl⟩
  have hF := hF0.trans (f_X11_orders.eq_1 (dv G Γ H0) ((a0 : Int)))
  refine lv_aload_n hx hb dX11_orders_0 rfl (lv_at hl 0 rfl) ?_
  refine lv_iconst (v := (-1)) hx hb dX11_orders_1 (by decide) ?_
  refine th_put hC cf_X11 hB h0 (Or.inl h0) ro_42 rfl (j := 17) rfl th_sIa (by decide) rfl rfl rfl kf_X11_104 dX11_orders_2 (fun H2 locs hB hf hst2 => ?_)
  have hR := th_RC_F hB.1 hR hf (th_T_s h0 ro_42 hst2) (by decide)
  replace hF := hF.trans (dv_bn (dv_putI hB.1 h0 ro_42 (j := 17) rfl (th_apart hC cf_X11) hst2 tk_m1 (by decide)))
  refine lv_aload_n hx hb dX11_orders_5 rfl (lv_at hl 0 rfl) ?_
  refine lv_aload_n hx hb dX11_orders_6 rfl (lv_at hl 0 rfl) ?_
  refine th_getR (j := 6) (r2 := 20) hC cf_X11 hB.1 h0 ro_42 rfl rfl kf_X11_44 dX11_orders_7 (fun b1 mb1 hb1 => ?_)
  replace hF := hF.trans (dv_bn (dv_getR h0 ro_42 (j := 6) rfl mb1 (by decide)))
  refine lv_aload_n hx hb dX11_orders_10 rfl (lv_at hl 0 rfl) ?_
  refine th_getR (j := 5) (r2 := 37) hC cf_X11 hB.1 h0 ro_42 rfl rfl kf_X11_37 dX11_orders_11 (fun b2 mb2 hb2 => ?_)
  replace hF := hF.trans (dv_bn (dv_getR h0 ro_42 (j := 5) rfl mb2 (by decide)))
  have sb2 := (th_F_o hB.2.2 h0 ro_42 (j := 5) (by decide) (by decide)).symm.trans mb2
  refine lv_aload_n hx hb dX11_orders_14 rfl (lv_at hl 0 rfl) ?_
  refine th_getR (j := 7) (r2 := 39) hC cf_X11 hB.1 h0 ro_42 rfl rfl kf_X11_51 dX11_orders_15 (fun b3 mb3 hb3 => ?_)
  replace hF := hF.trans (dv_bn (dv_getR h0 ro_42 (j := 7) rfl mb3 (by decide)))
  have sb3 := (th_F_o hB.2.2 h0 ro_42 (j := 7) (by decide) (by decide)).symm.trans mb3
  refine lv_iconst (v := 1) hx hb dX11_orders_18 (by decide) ?_
  refine th_call (th_runVX (As := [.ref b2, .ref b3, .int 1]) (rest := [.ref a0]) th_mvZ (th_Z_k hX hB.2.1) hC mf_X5_read km_X11_203 im_X5_read se_X5_read (c_X5_read l G Γ H2 hB.1 hR hU b1 hb1 b2 hb2 b3 hb3 1 (by decide) (by decide) k1) rfl rfl ⟨Nat.le_of_ble_eq_true rfl, Nat.le_of_ble_eq_true rfl⟩ hB.1 hb1 ro_20 rfl rfl hl.1 rfl (Nat.le_of_ble_eq_true rfl) dX11_orders_19 ⟨Nat.le_refl _, Nat.le_refl _⟩) hB.2.1 (fun v19 H19 locs hp hz hS => ?_)
  obtain ⟨x4, rfl, hI1, hf, hR, z19_0⟩ := hp
  have hB := th_B_c hB hI1 hS hf (by decide)
  have mm5 := (th_F_o hf h0 ro_42 (j := 5) (by decide) (by decide)).trans mb2
  have mm6 := (th_F_o hf h0 ro_42 (j := 7) (by decide) (by decide)).trans mb3
  have zf19 := z19_0
  rw [tk_1] at zf19
  replace hF := hF.trans (dv_bn2 (zf19))
  refine W.eq (g2 := F0 m 22 ls [.int x4, .ref a0]) rfl ?_
  refine th_put hC cf_X11 hB h0 (Or.inl h0) ro_42 rfl (j := 15) rfl th_sIa (by decide) rfl rfl rfl kf_X11_98 dX11_orders_22 (fun H22 locs hB hf hst22 => ?_)
  have mm7 := (th_F_o hf h0 ro_42 (j := 5) (by decide) (by decide)).trans mm5
  have mm8 := (th_F_o hf h0 ro_42 (j := 7) (by decide) (by decide)).trans mm6
  have hR := th_RC_F hB.1 hR hf (th_T_s h0 ro_42 hst22) (by decide)
  replace hF := hF.trans (dv_bn (dv_putI hB.1 h0 ro_42 (j := 15) rfl (th_apart hC cf_X11) hst22 (Eq.refl _) (by decide)))
  have mm9 := hst22.2.1
  refine lv_aload_n hx hb dX11_orders_25 rfl (lv_at hl 0 rfl) ?_
  refine th_getK hC cf_X11 hB.1 h0 ro_42 rfl (j := 5) (by decide) mm7 kf_X11_37 dX11_orders_26 ?_
  replace hF := hF.trans (dv_bn (dv_getR h0 ro_42 (j := 5) rfl mm7 (by decide)))
  refine lv_iconst (v := 0) hx hb dX11_orders_29 (by decide) ?_
  refine th_put hC cf_X9 hB hb2 (Or.inl hb2) ro_37 rfl (j := 1) rfl (th_sI (by decide) (by decide)) (by decide) rfl rfl rfl kf_X11_186 dX11_orders_30 (fun H30 locs hB hf hst30 => ?_)
  have mm10 := (th_F_o hf h0 ro_42 (j := 5) (by decide) (by decide)).trans mm7
  have mm11 := (th_F_o hf h0 ro_42 (j := 7) (by decide) (by decide)).trans mm8
  have mm12 := (th_F_o hf h0 ro_42 (j := 15) (by decide) (by decide)).trans mm9
  have hR := th_RC_F hB.1 hR hf (th_T_s hb2 ro_37 hst30) (by decide)
  replace hF := hF.trans (dv_bn (dv_putI hB.1 hb2 ro_37 (j := 1) rfl (th_apart hC cf_X9) hst30 tk_0 (by decide)))
  refine lv_aload_n hx hb dX11_orders_33 rfl (lv_at hl 0 rfl) ?_
  refine th_getK hC cf_X11 hB.1 h0 ro_42 rfl (j := 15) (by decide) mm12 kf_X11_98 dX11_orders_34 ?_
  replace hF := hF.trans (dv_bn (dv_getI h0 ro_42 (j := 15) rfl mm12 (by decide)))
  refine lv_iconst (v := (-1)) hx hb dX11_orders_37 (by decide) ?_
  refine tr_icmp_eq (tgt := 48) hx hb dX11_orders_38 (by decide) (Eq.refl _) tk_m1 (fun c38 => ?_) (fun c38 => ?_)
  · replace hF := hF.trans (if_pos c38)
    refine lv_aload_n hx hb dX11_orders_48 rfl (lv_at hl 0 rfl) ?_
    refine th_getR (j := 10) (r2 := 17) hC cf_X11 hB.1 h0 ro_42 rfl rfl kf_X11_72 dX11_orders_49 (fun b13 mb13 hb13 => ?_)
    replace hF := hF.trans (dv_bn (dv_getR h0 ro_42 (j := 10) rfl mb13 (by decide)))
    have sb13 := (th_F_o hB.2.2 h0 ro_42 (j := 10) (by decide) (by decide)).symm.trans mb13
    refine lv_aload_n hx hb dX11_orders_52 rfl (lv_at hl 0 rfl) ?_
    refine th_getR (j := 0) (r2 := 32) hC cf_X11 hB.1 h0 ro_42 rfl rfl kf_X11_12 dX11_orders_53 (fun b14 mb14 hb14 => ?_)
    replace hF := hF.trans (dv_bn (dv_getR h0 ro_42 (j := 0) rfl mb14 (by decide)))
    have sb14 := (th_F_o hB.2.2 h0 ro_42 (j := 0) (by decide) (by decide)).symm.trans mb14
    refine th_getR (j := 0) (r2 := 3) hC cf_X8 hB.1 hb14 ro_32 rfl rfl kf_X11_107 dX11_orders_56 (fun b15 mb15 hb15 => ?_)
    replace hF := hF.trans (dv_bn (dv_getR hb14 ro_32 (j := 0) rfl mb15 (by decide)))
    have sb15 := (th_F_o hB.2.2 hb14 ro_32 (j := 0) (by decide) (by decide)).symm.trans mb15
    refine th_call (th_runV (As := [.ref b15]) (rest := []) hC mf_X4_save km_X11_207 im_X4_save se_X4_save (c_X4_save l G Γ H30 hB.1 hR hU b13 hb13 b15 hb15) rfl rfl ⟨Nat.le_of_ble_eq_true rfl, Nat.le_of_ble_eq_true rfl⟩ hB.1 hb13 ro_17 rfl rfl hl.1 rfl (Nat.le_of_ble_eq_true rfl) dX11_orders_59 ⟨Nat.le_refl _, Nat.le_refl _⟩) hB.2.1 (fun v59 H59 locs hp hz hS => ?_)
    obtain ⟨rfl, hI1, hf, hR, z59_0⟩ := hp
    have hB := th_B_c hB hI1 hS hf (by decide)
    have mm16 := (th_F_o hf h0 ro_42 (j := 5) (by decide) (by decide)).trans mm10
    have mm17 := (th_F_o hf h0 ro_42 (j := 7) (by decide) (by decide)).trans mm11
    have mm18 := (th_F_o hf h0 ro_42 (j := 15) (by decide) (by decide)).trans mm12
    have mm19 := (th_F_o hf h0 ro_42 (j := 10) (by decide) (by decide)).trans mb13
    have mm20 := (th_F_o hf h0 ro_42 (j := 0) (by decide) (by decide)).trans mb14
    have mm21 := (th_F_o hf hb14 ro_32 (j := 0) (by decide) (by decide)).trans mb15
    replace hF := hF.trans (dv_bn2 (z59_0))
    refine W.eq (g2 := F0 m 62 ls []) rfl ?_
    refine lv_aload_n hx hb dX11_orders_62 rfl (lv_at hl 0 rfl) ?_
    refine th_getR (j := 8) (r2 := 23) hC cf_X11 hB.1 h0 ro_42 rfl rfl kf_X11_58 dX11_orders_63 (fun b22 mb22 hb22 => ?_)
    replace hF := hF.trans (dv_bn (dv_getR h0 ro_42 (j := 8) rfl mb22 (by decide)))
    have sb22 := (th_F_o hB.2.2 h0 ro_42 (j := 8) (by decide) (by decide)).symm.trans mb22
    refine th_getO (j := 1) (r2 := 25) hC cf_X6 hB.1 hb22 ro_23 rfl rfl kf_X11_211 dX11_orders_66 (fun b23 mb23 hb23 => ?_)
    have sb23 := (th_F_o hB.2.2 hb22 ro_23 (j := 1) (by decide) (by decide)).symm.trans mb23
    refine lv_iconst (v := 1) hx hb dX11_orders_69 (by decide) ?_
    refine lv_iconst (v := 0) hx hb dX11_orders_70 (by decide) ?_
    have hIo := hB.1
    refine th_iastF hC hB hb23 (Or.inl hb23) ro_25 rfl (by decide) tk_1 (by omega) (by omega) th_sIa dX11_orders_71 (fun H71 locs hB hf71 hst71 => ?_)
    have hf := hf71
    have mm24 := (th_F_o hf h0 ro_42 (j := 5) (by decide) (by decide)).trans mm16
    have mm25 := (th_F_o hf h0 ro_42 (j := 7) (by decide) (by decide)).trans mm17
    have mm26 := (th_F_o hf h0 ro_42 (j := 15) (by decide) (by decide)).trans mm18
    have mm27 := (th_F_o hf h0 ro_42 (j := 10) (by decide) (by decide)).trans mm19
    have mm28 := (th_F_o hf h0 ro_42 (j := 0) (by decide) (by decide)).trans mm20
    have mm29 := (th_F_o hf hb14 ro_32 (j := 0) (by decide) (by decide)).trans mm21
    have mm30 := (th_F_o hf h0 ro_42 (j := 8) (by decide) (by decide)).trans mb22
    have mm31 := (th_F_o hf hb22 ro_23 (j := 1) (by decide) (by decide)).trans mb23
    have hR := th_RC_F hB.1 hR hf (th_T_s hb23 ro_25 hst71) (by decide)
    replace hF := hF.trans (dv_bn (dv_stoI hIo hB.1 hU hb23 ow_25 (i := 1) hst71 tk_0 (by omega)))
    refine lv_aload_n hx hb dX11_orders_72 rfl (lv_at hl 0 rfl) ?_
    refine th_getK hC cf_X11 hB.1 h0 ro_42 rfl (j := 8) (by decide) mm30 kf_X11_58 dX11_orders_73 ?_
    replace hF := hF.trans (dv_bn (dv_getR h0 ro_42 (j := 8) rfl mm30 (by decide)))
    refine th_getK hC cf_X6 hB.1 hb22 ro_23 rfl (j := 1) (by decide) mm31 kf_X11_211 dX11_orders_76 ?_
    refine lv_iconst (v := 2) hx hb dX11_orders_79 (by decide) ?_
    refine lv_iconst (v := (-1)) hx hb dX11_orders_80 (by decide) ?_
    have hIo := hB.1
    refine th_iastF hC hB hb23 (Or.inl hb23) ro_25 rfl (by decide) tk_2 (by omega) (by omega) th_sIa dX11_orders_81 (fun H81 locs hB hf81 hst81 => ?_)
    have hf := hf81
    have mm32 := (th_F_o hf h0 ro_42 (j := 5) (by decide) (by decide)).trans mm24
    have mm33 := (th_F_o hf h0 ro_42 (j := 7) (by decide) (by decide)).trans mm25
    have mm34 := (th_F_o hf h0 ro_42 (j := 15) (by decide) (by decide)).trans mm26
    have mm35 := (th_F_o hf h0 ro_42 (j := 10) (by decide) (by decide)).trans mm27
    have mm36 := (th_F_o hf h0 ro_42 (j := 0) (by decide) (by decide)).trans mm28
    have mm37 := (th_F_o hf hb14 ro_32 (j := 0) (by decide) (by decide)).trans mm29
    have mm38 := (th_F_o hf h0 ro_42 (j := 8) (by decide) (by decide)).trans mm30
    have mm39 := (th_F_o hf hb22 ro_23 (j := 1) (by decide) (by decide)).trans mm31
    have hR := th_RC_F hB.1 hR hf (th_T_s hb23 ro_25 hst81) (by decide)
    replace hF := hF.trans (dv_bn (dv_stoI hIo hB.1 hU hb23 ow_25 (i := 2) hst81 tk_m1 (by omega)))
    refine lv_iconst (v := 0) hx hb dX11_orders_82 (by decide) ?_
    refine lv_istore_n (lv' := [(1, .int 0), (0, .ref a0)]) hx hb dX11_orders_83 rfl hl (by decide) rfl (fun ls hl => ?_)
    have lp84 : ∀ (n84 : Nat) (H84 : Heap) (locs : List Loc) (ls : Array Slot) (j84_1 : Int32), th_B G Γ Γ [(45, 0), (42, 14), (20, 5), (20, 6), (20, 7), (20, 8), (40, 0), (39, 2), (41, 0), (39, 3), (21, 0), (22, 0), (20, 2), (20, 3), (20, 4), (37, 1), (42, 15), (42, 17), (24, 0), (23, 3), (26, 0), (25, 0), (18, 0), (17, 4), (4, 0), (5, 0), (6, 0), (9, 0), (3, 7), (3, 8), (3, 9), (3, 10), (7, 0), (8, 0), (19, 0), (17, 3)] H0 H84 locs → th_RC G Γ H84 → lv_has ls 4 [(0, .ref a0), (1, .int j84_1)] → F = dv_lp f_X11_orders_84b (dv G Γ H84, (a0 : Int), j84_1.toInt) → 0 ≤ j84_1.toInt → j84_1.toInt ≤ 12 → (2147483648 : Int) - j84_1.toInt ≤ (n84 : Int) → W p l e ({ frames := 46, cells := 0, slots := 0, locals := 1360 } : Room) s m ([.ref a0] : List Value).toArray below meth c H84 locs 0 0 (MQ below (th_Q (fun (v : Option Value) (H1 : Heap) => ∃ r : Int32, v = some (.int r) ∧ th_I G Γ H1 ∧ th_F G Γ [(45, 0), (42, 14), (20, 5), (20, 6), (20, 7), (20, 8), (40, 0), (39, 2), (41, 0), (39, 3), (21, 0), (22, 0), (20, 2), (20, 3), (20, 4), (37, 1), (42, 15), (42, 17), (24, 0), (23, 3), (26, 0), (25, 0), (18, 0), (17, 4), (4, 0), (5, 0), (6, 0), (9, 0), (3, 7), (3, 8), (3, 9), (3, 10), (7, 0), (8, 0), (19, 0), (17, 3)] H0 H1 ∧ th_RC G Γ H1 ∧ (f_X11_orders (dv G Γ H0) (a0 : Int) = (dv G Γ H1, r.toInt))) G) ([.ref a0] : List Value).toArray s 0 0 (fun q => G.2.2 ≤ q)) (F0 m 84 ls []) := by
      intro n84
      induction n84 with
      | zero => intro H84 locs ls j84_1 hB hR hl hF g84_0 g84_1 hm84; exact absurd hm84 (by have := ti_hi j84_1; omega)
      | succ n84 ih84 =>
        intro H84 locs ls j84_1 hB hR hl hF g84_0 g84_1 hm84
        have lj84_1 := ti_lo j84_1; have uj84_1 := ti_hi j84_1
        have mm40 := (th_F_o hB.2.2 h0 ro_42 (j := 7) (by decide) (by decide)).trans sb3
        have mm41 := (th_F_o hB.2.2 h0 ro_42 (j := 10) (by decide) (by decide)).trans sb13
        have mm42 := (th_F_o hB.2.2 h0 ro_42 (j := 0) (by decide) (by decide)).trans sb14
        have mm43 := (th_F_o hB.2.2 hb14 ro_32 (j := 0) (by decide) (by decide)).trans sb15
        have mm44 := (th_F_o hB.2.2 h0 ro_42 (j := 8) (by decide) (by decide)).trans sb22
        have mm45 := (th_F_o hB.2.2 hb22 ro_23 (j := 1) (by decide) (by decide)).trans sb23
        have hm84 : (2147483648 : Int) - j84_1.toInt ≤ (n84 : Int) + 1 := by omega
        replace hF := hF.trans (dv_lp_eq)
        replace hF := hF.trans (congrArg (dv_k f_X11_orders_84b) (f_X11_orders_84c.eq_1 (dv G Γ H84) ((a0 : Int)) (j84_1.toInt)))
        refine lv_iload_n hx hb dX11_orders_84 rfl (lv_at hl 1 rfl) ?_
        refine lv_aload_n hx hb dX11_orders_85 rfl (lv_at hl 0 rfl) ?_
        refine th_getK hC cf_X11 hB.1 h0 ro_42 rfl (j := 7) (by decide) mm40 kf_X11_51 dX11_orders_86 ?_
        replace hF := hF.trans (congrArg (dv_k f_X11_orders_84b) (dv_bn (dv_getR h0 ro_42 (j := 7) rfl mm40 (by decide))))
        refine th_getI (j := 3) hC cf_X10 hB.1 hb3 ro_39 rfl rfl kf_X11_214 dX11_orders_89 (fun x46 mx46 lx46 ux46 => ?_)
        replace hF := hF.trans (congrArg (dv_k f_X11_orders_84b) (dv_bn (dv_getI hb3 ro_39 (j := 3) rfl mx46 (by decide))))
        refine tr_icmp_ge (tgt := 158) hx hb dX11_orders_92 (by decide) (Eq.refl _) (Eq.refl _) (fun c92 => ?_) (fun c92 => ?_)
        · replace hF := hF.trans (congrArg (dv_k f_X11_orders_84b) (if_pos c92))
          refine lv_aload_n hx hb dX11_orders_158 rfl (lv_at hl 0 rfl) ?_
          refine lv_aload_n hx hb dX11_orders_159 rfl (lv_at hl 0 rfl) ?_
          refine th_getK hC cf_X11 hB.1 h0 ro_42 rfl (j := 8) (by decide) mm44 kf_X11_58 dX11_orders_160 ?_
          replace hF := hF.trans (congrArg (dv_k f_X11_orders_84b) (dv_bn (dv_getR h0 ro_42 (j := 8) rfl mm44 (by decide))))
          refine th_getK hC cf_X6 hB.1 hb22 ro_23 rfl (j := 1) (by decide) mm45 kf_X11_211 dX11_orders_163 ?_
          refine lv_iconst (v := 1) hx hb dX11_orders_166 (by decide) ?_
          refine th_ialdF hC hB.1 hb23 ro_25 rfl tk_1 (by omega) (by omega) rfl dX11_orders_167 (fun x47 mx47 lx47 ux47 => ?_)
          replace hF := hF.trans (congrArg (dv_k f_X11_orders_84b) (dv_bn (dv_aldI hB.1 hU hb23 ow_25 (z := 1) mx47 (by omega))))
          refine th_call (th_runV (As := [.int x47]) (rest := []) hC mf_X11_answer km_X11_117 im_X11_answer se_X11_answer (c_X11_answer l G Γ H84 hB.1 hR hU a0 h0 x47) rfl rfl ⟨Nat.le_of_ble_eq_true rfl, Nat.le_of_ble_eq_true rfl⟩ hB.1 h0 ro_42 rfl rfl hl.1 rfl (Nat.le_of_ble_eq_true rfl) dX11_orders_168 ⟨Nat.le_refl _, Nat.le_refl _⟩) hB.2.1 (fun v168 H168 locs hp hz hS => ?_)
          obtain ⟨x48, rfl, q168_0, hI1, hf, hR, z168_0⟩ := hp
          have hB := th_B_c hB hI1 hS hf (by decide)
          have mm49 := (th_F_o hf h0 ro_42 (j := 7) (by decide) (by decide)).trans mm40
          have mm50 := (th_F_o hf h0 ro_42 (j := 10) (by decide) (by decide)).trans mm41
          have mm51 := (th_F_o hf h0 ro_42 (j := 0) (by decide) (by decide)).trans mm42
          have mm52 := (th_F_o hf hb14 ro_32 (j := 0) (by decide) (by decide)).trans mm43
          have mm53 := (th_F_o hf h0 ro_42 (j := 8) (by decide) (by decide)).trans mm44
          have mm54 := (th_F_o hf hb22 ro_23 (j := 1) (by decide) (by decide)).trans mm45
          have mm55 := (th_F_o hf hb3 ro_39 (j := 3) (by decide) (by decide)).trans mx46
          replace hF := hF.trans (congrArg (dv_k f_X11_orders_84b) (dv_bn2 (z168_0)))
          refine W.eq (g2 := F0 m 171 ls [.int x48]) rfl ?_
          replace hF := hF.trans (dv_kr)
          exact th_iret hC hH hr hlocks rfl hB.2.1 ⟨_, rfl, hB.1, hB.2.2, hR, (hF0.symm.trans hF)⟩ dX11_orders_171
        · replace hF := hF.trans (congrArg (dv_k f_X11_orders_84b) (if_neg (Int.not_le.mpr c92)))
          refine lv_aload_n hx hb dX11_orders_95 rfl (lv_at hl 0 rfl) ?_
          refine th_getK hC cf_X11 hB.1 h0 ro_42 rfl (j := 7) (by decide) mm40 kf_X11_51 dX11_orders_96 ?_
          replace hF := hF.trans (congrArg (dv_k f_X11_orders_84b) (dv_bn (dv_getR h0 ro_42 (j := 7) rfl mm40 (by decide))))
          refine lv_iload_n hx hb dX11_orders_99 rfl (lv_at hl 1 rfl) ?_
          refine lv_iconst (v := 1) hx hb dX11_orders_100 (by decide) ?_
          refine th_call (th_runV (As := [.int j84_1, .int 1]) (rest := []) hC mf_X10_mark km_X11_217 im_X10_mark se_X10_mark (c_X10_mark l G Γ H84 hB.1 hU b3 hb3 j84_1 (by omega) (by omega) 1 (by decide) (by decide)) rfl rfl ⟨Nat.le_of_ble_eq_true rfl, Nat.le_of_ble_eq_true rfl⟩ hB.1 hb3 ro_39 rfl rfl hl.1 rfl (Nat.le_of_ble_eq_true rfl) dX11_orders_101 ⟨Nat.le_refl _, Nat.le_refl _⟩) hB.2.1 (fun v101 H101 locs hp hz hS => ?_)
          obtain ⟨x56, rfl, q101_0, q101_1, rfl⟩ := hp
          have hB := th_B_s hB hS
          have w101_1 := tk_1
          have zf101 := q101_1
          rw [tk_1] at zf101
          replace hF := hF.trans (congrArg (dv_k f_X11_orders_84b) (dv_bn2 (zf101)))
          refine W.eq (g2 := F0 m 104 ls [.int x56]) rfl ?_
          have lx56 := ti_lo x56; have ux56 := ti_hi x56
          refine lv_istore_n (lv' := [(2, .int x56), (0, .ref a0), (1, .int j84_1)]) hx hb dX11_orders_104 rfl hl (by decide) rfl (fun ls hl => ?_)
          refine lv_iconst (v := 0) hx hb dX11_orders_105 (by decide) ?_
          refine lv_istore_n (lv' := [(3, .int 0), (2, .int x56), (0, .ref a0), (1, .int j84_1)]) hx hb dX11_orders_106 rfl hl (by decide) rfl (fun ls hl => ?_)
          have lp107 : ∀ (n107 : Nat) (H107 : Heap) (locs : List Loc) (ls : Array Slot) (j107_3 : Int32), th_B G Γ Γ [(45, 0), (42, 14), (20, 5), (20, 6), (20, 7), (20, 8), (40, 0), (39, 2), (41, 0), (39, 3), (21, 0), (22, 0), (20, 2), (20, 3), (20, 4), (37, 1), (42, 15), (42, 17), (24, 0), (23, 3), (26, 0), (25, 0), (18, 0), (17, 4), (4, 0), (5, 0), (6, 0), (9, 0), (3, 7), (3, 8), (3, 9), (3, 10), (7, 0), (8, 0), (19, 0), (17, 3)] H0 H107 locs → th_RC G Γ H107 → lv_has ls 4 [(2, .int x56), (0, .ref a0), (1, .int j84_1), (3, .int j107_3)] → F = dv_k f_X11_orders_84b (dv_lp f_X11_orders_107b (dv G Γ H107, x56.toInt, (a0 : Int), j84_1.toInt, j107_3.toInt)) → 0 ≤ j107_3.toInt → th_sl H107 b3 (G.1.2 10 3) = .int x46 → (2147483648 : Int) - j107_3.toInt ≤ (n107 : Int) → W p l e ({ frames := 46, cells := 0, slots := 0, locals := 1360 } : Room) s m ([.ref a0] : List Value).toArray below meth c H107 locs 0 0 (MQ below (th_Q (fun (v : Option Value) (H1 : Heap) => ∃ r : Int32, v = some (.int r) ∧ th_I G Γ H1 ∧ th_F G Γ [(45, 0), (42, 14), (20, 5), (20, 6), (20, 7), (20, 8), (40, 0), (39, 2), (41, 0), (39, 3), (21, 0), (22, 0), (20, 2), (20, 3), (20, 4), (37, 1), (42, 15), (42, 17), (24, 0), (23, 3), (26, 0), (25, 0), (18, 0), (17, 4), (4, 0), (5, 0), (6, 0), (9, 0), (3, 7), (3, 8), (3, 9), (3, 10), (7, 0), (8, 0), (19, 0), (17, 3)] H0 H1 ∧ th_RC G Γ H1 ∧ (f_X11_orders (dv G Γ H0) (a0 : Int) = (dv G Γ H1, r.toInt))) G) ([.ref a0] : List Value).toArray s 0 0 (fun q => G.2.2 ≤ q)) (F0 m 107 ls []) := by
            intro n107
            induction n107 with
            | zero => intro H107 locs ls j107_3 hB hR hl hF g107_0 g107_1 hm107; exact absurd hm107 (by have := ti_hi j107_3; omega)
            | succ n107 ih107 =>
              intro H107 locs ls j107_3 hB hR hl hF g107_0 g107_1 hm107
              have lj107_3 := ti_lo j107_3; have uj107_3 := ti_hi j107_3
              have mm57 := (th_F_o hB.2.2 h0 ro_42 (j := 7) (by decide) (by decide)).trans sb3
              have mm58 := (th_F_o hB.2.2 h0 ro_42 (j := 10) (by decide) (by decide)).trans sb13
              have mm59 := (th_F_o hB.2.2 h0 ro_42 (j := 0) (by decide) (by decide)).trans sb14
              have mm60 := (th_F_o hB.2.2 hb14 ro_32 (j := 0) (by decide) (by decide)).trans sb15
              have mm61 := (th_F_o hB.2.2 h0 ro_42 (j := 8) (by decide) (by decide)).trans sb22
              have mm62 := (th_F_o hB.2.2 hb22 ro_23 (j := 1) (by decide) (by decide)).trans sb23
              have hm107 : (2147483648 : Int) - j107_3.toInt ≤ (n107 : Int) + 1 := by omega
              replace hF := hF.trans (congrArg (dv_k f_X11_orders_84b) (dv_lp_eq))
              replace hF := hF.trans (congrArg (dv_k f_X11_orders_84b) (congrArg (dv_k f_X11_orders_107b) (f_X11_orders_107c.eq_1 (dv G Γ H107) (x56.toInt) ((a0 : Int)) (j84_1.toInt) (j107_3.toInt))))
              refine lv_iload_n hx hb dX11_orders_107 rfl (lv_at hl 3 rfl) ?_
              refine lv_iload_n hx hb dX11_orders_108 rfl (lv_at hl 0 rfl) ?_
              refine tr_icmp_ge (tgt := 152) hx hb dX11_orders_109 (by decide) (Eq.refl _) (Eq.refl _) (fun c109 => ?_) (fun c109 => ?_)
              · replace hF := hF.trans (congrArg (dv_k f_X11_orders_84b) (congrArg (dv_k f_X11_orders_107b) (if_pos c109)))
                refine tr_iinc (fun x63 => [(1, .int x63), (2, .int x56), (0, .ref a0), (3, .int j107_3)]) hx hb dX11_orders_152 hl (k := 2) rfl (Eq.refl _) tk_1 (by omega) (by omega) (by decide) (fun _ => rfl) (fun x63 ls ex63 hl => ?_)
                replace hF := hF.trans (congrArg (dv_k f_X11_orders_84b) (congrArg (dv_k f_X11_orders_107b) (dv_bn (ex63.symm))))
                refine lv_goto (tgt := 84) hx hb dX11_orders_155 (by decide) ?_
                replace hF := hF.trans (congrArg (dv_k f_X11_orders_84b) (dv_kr))
                replace hF := hF.trans (dv_kl)
                exact ih84 H107 locs ls x63 hB hR (lv_sub hl [2, 0] rfl) hF (by omega) (by omega) (by omega)
              · replace hF := hF.trans (congrArg (dv_k f_X11_orders_84b) (congrArg (dv_k f_X11_orders_107b) (if_neg (Int.not_le.mpr c109))))
                refine lv_aload_n hx hb dX11_orders_112 rfl (lv_at hl 1 rfl) ?_
                refine lv_iload_n hx hb dX11_orders_113 rfl (lv_at hl 2 rfl) ?_
                refine th_call (th_runV (As := [.int j84_1]) (rest := []) hC mf_X11_runOnce km_X11_220 im_X11_runOnce se_X11_runOnce (c_X11_runOnce l G Γ H107 hB.1 hR hU a0 h0 j84_1 (by omega) (by omega)) rfl rfl ⟨Nat.le_of_ble_eq_true rfl, Nat.le_of_ble_eq_true rfl⟩ hB.1 h0 ro_42 rfl rfl hl.1 rfl (Nat.le_of_ble_eq_true rfl) dX11_orders_114 ⟨Nat.le_refl _, Nat.le_refl _⟩) hB.2.1 (fun v114 H114 locs hp hz hS => ?_)
                obtain ⟨x64, rfl, lx64, ux64, hI1, hf, hR, z114_0⟩ := hp
                have hB := th_B_c hB hI1 hS hf (by decide)
                have mm65 := (th_F_o hf hb3 ro_39 (j := 3) (by decide) (by decide)).trans g107_1
                have mm66 := (th_F_o hf h0 ro_42 (j := 7) (by decide) (by decide)).trans mm57
                have mm67 := (th_F_o hf h0 ro_42 (j := 10) (by decide) (by decide)).trans mm58
                have mm68 := (th_F_o hf h0 ro_42 (j := 0) (by decide) (by decide)).trans mm59
                have mm69 := (th_F_o hf hb14 ro_32 (j := 0) (by decide) (by decide)).trans mm60
                have mm70 := (th_F_o hf h0 ro_42 (j := 8) (by decide) (by decide)).trans mm61
                have mm71 := (th_F_o hf hb22 ro_23 (j := 1) (by decide) (by decide)).trans mm62
                replace hF := hF.trans (congrArg (dv_k f_X11_orders_84b) (congrArg (dv_k f_X11_orders_107b) (dv_bn2 (z114_0))))
                refine W.eq (g2 := F0 m 117 ls [.int x64]) rfl ?_
                refine tr_if_ne (tgt := 146) hx hb dX11_orders_117 (by decide) (Eq.refl _) (fun c117 => ?_) (fun c117 => ?_)
                · replace hF := hF.trans (congrArg (dv_k f_X11_orders_84b) (congrArg (dv_k f_X11_orders_107b) (if_pos c117)))
                  refine tr_iinc (fun x72 => [(3, .int x72), (2, .int x56), (0, .ref a0), (1, .int j84_1)]) hx hb dX11_orders_146 hl (k := 3) rfl (Eq.refl _) tk_1 (by omega) (by omega) (by decide) (fun _ => rfl) (fun x72 ls ex72 hl => ?_)
                  replace hF := hF.trans (congrArg (dv_k f_X11_orders_84b) (congrArg (dv_k f_X11_orders_107b) (dv_bn (ex72.symm))))
                  refine lv_goto (tgt := 107) hx hb dX11_orders_149 (by decide) ?_
                  replace hF := hF.trans (congrArg (dv_k f_X11_orders_84b) (dv_kl))
                  exact ih107 H114 locs ls x72 hB hR (lv_sub hl [1, 2, 3, 0] rfl) hF (by omega) mm65 (by omega)
                · replace hF := hF.trans (congrArg (dv_k f_X11_orders_84b) (congrArg (dv_k f_X11_orders_107b) (if_neg (not_not_intro c117))))
                  refine lv_aload_n hx hb dX11_orders_120 rfl (lv_at hl 1 rfl) ?_
                  refine th_getK hC cf_X11 hB.1 h0 ro_42 rfl (j := 10) (by decide) mm67 kf_X11_72 dX11_orders_121 ?_
                  replace hF := hF.trans (congrArg (dv_k f_X11_orders_84b) (congrArg (dv_k f_X11_orders_107b) (dv_bn (dv_getR h0 ro_42 (j := 10) rfl mm67 (by decide)))))
                  refine lv_aload_n hx hb dX11_orders_124 rfl (lv_at hl 1 rfl) ?_
                  refine th_getK hC cf_X11 hB.1 h0 ro_42 rfl (j := 0) (by decide) mm68 kf_X11_12 dX11_orders_125 ?_
                  replace hF := hF.trans (congrArg (dv_k f_X11_orders_84b) (congrArg (dv_k f_X11_orders_107b) (dv_bn (dv_getR h0 ro_42 (j := 0) rfl mm68 (by decide)))))
                  refine th_getK hC cf_X8 hB.1 hb14 ro_32 rfl (j := 0) (by decide) mm69 kf_X11_107 dX11_orders_128 ?_
                  replace hF := hF.trans (congrArg (dv_k f_X11_orders_84b) (congrArg (dv_k f_X11_orders_107b) (dv_bn (dv_getR hb14 ro_32 (j := 0) rfl mm69 (by decide)))))
                  refine th_call (th_runV (As := [.ref b15]) (rest := []) hC mf_X4_restore km_X11_223 im_X4_restore se_X4_restore (c_X4_restore l G Γ H114 hB.1 hR hU b13 hb13 b15 hb15) rfl rfl ⟨Nat.le_of_ble_eq_true rfl, Nat.le_of_ble_eq_true rfl⟩ hB.1 hb13 ro_17 rfl rfl hl.1 rfl (Nat.le_of_ble_eq_true rfl) dX11_orders_131 ⟨Nat.le_refl _, Nat.le_refl _⟩) hB.2.1 (fun v131 H131 locs hp hz hS => ?_)
                  obtain ⟨rfl, hI1, hf, hR, z131_0⟩ := hp
                  have hB := th_B_c hB hI1 hS hf (by decide)
                  have mm73 := (th_F_o hf hb3 ro_39 (j := 3) (by decide) (by decide)).trans mm65
                  have mm74 := (th_F_o hf h0 ro_42 (j := 7) (by decide) (by decide)).trans mm66
                  have mm75 := (th_F_o hf h0 ro_42 (j := 10) (by decide) (by decide)).trans mm67
                  have mm76 := (th_F_o hf h0 ro_42 (j := 0) (by decide) (by decide)).trans mm68
                  have mm77 := (th_F_o hf hb14 ro_32 (j := 0) (by decide) (by decide)).trans mm69
                  have mm78 := (th_F_o hf h0 ro_42 (j := 8) (by decide) (by decide)).trans mm70
                  have mm79 := (th_F_o hf hb22 ro_23 (j := 1) (by decide) (by decide)).trans mm71
                  replace hF := hF.trans (congrArg (dv_k f_X11_orders_84b) (congrArg (dv_k f_X11_orders_107b) (dv_bn2 (z131_0))))
                  refine W.eq (g2 := F0 m 134 ls []) rfl ?_
                  refine lv_aload_n hx hb dX11_orders_134 rfl (lv_at hl 1 rfl) ?_
                  refine lv_iload_n hx hb dX11_orders_135 rfl (lv_at hl 2 rfl) ?_
                  refine th_put hC cf_X11 hB h0 (Or.inl h0) ro_42 rfl (j := 17) rfl th_sIa (by decide) rfl rfl rfl kf_X11_104 dX11_orders_136 (fun H136 locs hB hf hst136 => ?_)
                  have mm80 := (th_F_o hf hb3 ro_39 (j := 3) (by decide) (by decide)).trans mm73
                  have mm81 := (th_F_o hf h0 ro_42 (j := 7) (by decide) (by decide)).trans mm74
                  have mm82 := (th_F_o hf h0 ro_42 (j := 10) (by decide) (by decide)).trans mm75
                  have mm83 := (th_F_o hf h0 ro_42 (j := 0) (by decide) (by decide)).trans mm76
                  have mm84 := (th_F_o hf hb14 ro_32 (j := 0) (by decide) (by decide)).trans mm77
                  have mm85 := (th_F_o hf h0 ro_42 (j := 8) (by decide) (by decide)).trans mm78
                  have mm86 := (th_F_o hf hb22 ro_23 (j := 1) (by decide) (by decide)).trans mm79
                  have hR := th_RC_F hB.1 hR hf (th_T_s h0 ro_42 hst136) (by decide)
                  replace hF := hF.trans (congrArg (dv_k f_X11_orders_84b) (congrArg (dv_k f_X11_orders_107b) (dv_bn (dv_putI hB.1 h0 ro_42 (j := 17) rfl (th_apart hC cf_X11) hst136 (Eq.refl _) (by decide)))))
                  refine lv_aload_n hx hb dX11_orders_139 rfl (lv_at hl 1 rfl) ?_
                  refine lv_bipush (v := (-3)) hx hb dX11_orders_140 (by decide) ?_
                  refine th_call (th_runV (As := [.int (-3)]) (rest := []) hC mf_X11_answer km_X11_117 im_X11_answer se_X11_answer (c_X11_answer l G Γ H136 hB.1 hR hU a0 h0 (-3)) rfl rfl ⟨Nat.le_of_ble_eq_true rfl, Nat.le_of_ble_eq_true rfl⟩ hB.1 h0 ro_42 rfl rfl hl.1 rfl (Nat.le_of_ble_eq_true rfl) dX11_orders_142 ⟨Nat.le_refl _, Nat.le_refl _⟩) hB.2.1 (fun v142 H142 locs hp hz hS => ?_)
                  obtain ⟨x87, rfl, q142_0, hI1, hf, hR, z142_0⟩ := hp
                  have hB := th_B_c hB hI1 hS hf (by decide)
                  have mm88 := (th_F_o hf hb3 ro_39 (j := 3) (by decide) (by decide)).trans mm80
                  have mm89 := (th_F_o hf h0 ro_42 (j := 7) (by decide) (by decide)).trans mm81
                  have mm90 := (th_F_o hf h0 ro_42 (j := 10) (by decide) (by decide)).trans mm82
                  have mm91 := (th_F_o hf h0 ro_42 (j := 0) (by decide) (by decide)).trans mm83
                  have mm92 := (th_F_o hf hb14 ro_32 (j := 0) (by decide) (by decide)).trans mm84
                  have mm93 := (th_F_o hf h0 ro_42 (j := 8) (by decide) (by decide)).trans mm85
                  have mm94 := (th_F_o hf hb22 ro_23 (j := 1) (by decide) (by decide)).trans mm86
                  have w142_0 := tk_m3
                  have zf142 := z142_0
                  rw [tk_m3] at zf142
                  replace hF := hF.trans (congrArg (dv_k f_X11_orders_84b) (congrArg (dv_k f_X11_orders_107b) (dv_bn2 (zf142))))
                  refine W.eq (g2 := F0 m 145 ls [.int x87]) rfl ?_
                  replace hF := hF.trans (congrArg (dv_k f_X11_orders_84b) (dv_kr))
                  replace hF := hF.trans (dv_kr)
                  exact th_iret hC hH hr hlocks rfl hB.2.1 ⟨_, rfl, hB.1, hB.2.2, hR, (hF0.symm.trans hF)⟩ dX11_orders_145
          exact lp107 ((2147483648 : Int) - (0)).toNat H84 locs ls 0 hB hR (lv_sub hl [1, 2, 3, 0] rfl) (by rw [tk_0]; exact hF) (by decide) mx46 (by have w0 := tk_0; omega)
    exact lp84 ((2147483648 : Int) - (0)).toNat H81 locs ls 0 hB hR (lv_sub hl [1, 0] rfl) (by rw [tk_0]; exact hF) (by decide) (by decide) (by have w0 := tk_0; omega)
  · replace hF := hF.trans (if_neg c38)
    refine lv_aload_n hx hb dX11_orders_41 rfl (lv_at hl 0 rfl) ?_
    refine lv_bipush (v := (-6)) hx hb dX11_orders_42 (by decide) ?_
    refine th_call (th_runV (As := [.int (-6)]) (rest := []) hC mf_X11_answer km_X11_117 im_X11_answer se_X11_answer (c_X11_answer l G Γ H30 hB.1 hR hU a0 h0 (-6)) rfl rfl ⟨Nat.le_of_ble_eq_true rfl, Nat.le_of_ble_eq_true rfl⟩ hB.1 h0 ro_42 rfl rfl hl.1 rfl (Nat.le_of_ble_eq_true rfl) dX11_orders_44 ⟨Nat.le_refl _, Nat.le_refl _⟩) hB.2.1 (fun v44 H44 locs hp hz hS => ?_)
    obtain ⟨x95, rfl, q44_0, hI1, hf, hR, z44_0⟩ := hp
    have hB := th_B_c hB hI1 hS hf (by decide)
    have mm96 := (th_F_o hf h0 ro_42 (j := 5) (by decide) (by decide)).trans mm10
    have mm97 := (th_F_o hf h0 ro_42 (j := 7) (by decide) (by decide)).trans mm11
    have mm98 := (th_F_o hf h0 ro_42 (j := 15) (by decide) (by decide)).trans mm12
    have w44_0 := tk_m6
    have zf44 := z44_0
    rw [tk_m6] at zf44
    replace hF := hF.trans (dv_bn2 (zf44))
    refine W.eq (g2 := F0 m 47 ls [.int x95]) rfl ?_
    exact th_iret hC hH hr hlocks rfl hB.2.1 ⟨_, rfl, hB.1, hB.2.2, hR, (hF0.symm.trans hF)⟩ dX11_orders_47
