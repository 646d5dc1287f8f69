set_option maxHeartbeats 4000000 in
set_option maxRecDepth 100000 in
theorem c_X12_obeys (l : Launch) (G : th_G) (Γ : th_Ga) (H0 : Heap) (hI : th_I G Γ H0) (hU : dv_U Γ) (a0 : Nat) (h0 : Γ a0 = (46, 0)) (hR : th_RN a0 G Γ H0) : Met l yX12_obeys (.code yX12_obeys cX12_obeys 2 (some FieldType.int) :: th_tb) ({ frames := 54, cells := 0, slots := 0, locals := 1697 } : Room) (th_P [.ref a0] G H0) (th_Q (fun (v : Option Value) (H1 : Heap) => ∃ r : Int32, v = some (.int r) ∧ th_I G Γ H1 ∧ th_F G Γ [(48, 0), (61, 0), (46, 33), (46, 22), (46, 24), (58, 0), (46, 23), (46, 25), (59, 0), (60, 0), (46, 28)] H0 H1 ∧ th_RN a0 G Γ H1 ∧ (∀ z : Int, 29 ≤ z → mo_v G H1 a0 2 z = mo_v G H0 a0 2 z) ∧ (f_X12_obeys (dv G Γ H0) (a0 : Int) = (dv G Γ H1, r.toInt))) G) 0 0 (fun q => G.2.2 ≤ q) := by
  refine th_met RX12 (by decide) rfl (Nat.le_of_ble_eq_true rfl) ?_
  intro p e s m below meth c hC hH hr hlocks hnm ls hl
  have hx := hC.1
  have hb := hC.2.1
  have hB : th_B G Γ Γ [(48, 0), (61, 0), (46, 33), (46, 22), (46, 24), (58, 0), (46, 23), (46, 25), (59, 0), (60, 0), (46, 28)] H0 H0 [] := ⟨hI, va_S.rf, th_F_rf⟩
  have hl : lv_has ls 2 [(0, .ref a0)] := hl
  obtain ⟨F, hF0⟩ : ∃ F, F = f_X12_obeys (dv G Γ H0) ((a0 : Int)) := ⟨_, rfl⟩
  have hF := hF0.trans (f_X12_obeys.eq_1 (dv G Γ H0) ((a0 : Int)))
  refine lv_aload_n hx hb dX12_obeys_0 rfl (lv_at hl 0 rfl) ?_
  refine th_getI (j := 50) hC cf_X12 hB.1 h0 ro_46 rfl rfl kf_X12_489 dX12_obeys_1 (fun x1 mx1 lx1 ux1 => ?_)
  replace hF := hF.trans (dv_bn (dv_getI h0 ro_46 (j := 50) rfl mx1 (by decide)))
  by_cases k4_0 : x1.toInt = 24
  · replace hF := hF.trans (if_pos k4_0)
    refine lv_tableIn (off := 28) (tgt := 32) hx hb dX12_obeys_4 (by omega) (by omega) (by rw [show x1.toInt = 24 from k4_0]; decide) (by decide) ?_
    refine lv_aload_n hx hb dX12_obeys_32 rfl (lv_at hl 0 rfl) ?_
    refine lv_aload_n hx hb dX12_obeys_33 rfl (lv_at hl 0 rfl) ?_
    refine th_getO (j := 53) (r2 := 69) hC cf_X12 hB.1 h0 ro_46 rfl rfl kf_X12_100 dX12_obeys_34 (fun b2 mb2 hb2 => ?_)
    refine lv_iconst (v := 0) hx hb dX12_obeys_37 (by decide) ?_
    refine th_laldF hC hB.1 hb2 ro_69 rfl tk_0 (by omega) (by omega) rfl dX12_obeys_38 (fun y3 my3 ly3 uy3 => ?_)
    replace hF := hF.trans (dv_bn (dv_aldL hB.1 hU hb2 ow_69 (z := 0) my3 (by omega)))
    refine th_call (th_runS (As := [.long y3]) (rest := [.ref a0]) hC mf_X12_small km_X12_503 st_X12_small (c_X12_small l G Γ H0 hB.1 hU y3) rfl rfl ⟨Nat.le_of_ble_eq_true rfl, Nat.le_of_ble_eq_true rfl⟩ rfl hl.1 rfl (Nat.le_of_ble_eq_true rfl) dX12_obeys_39 ⟨Nat.le_refl _, Nat.le_refl _⟩) hB.2.1 (fun v39 H39 locs hp hz hS => ?_)
    obtain ⟨x4, rfl, lx4, ux4, q39_0, rfl⟩ := hp
    have hB := th_B_s hB hS
    replace hF := hF.trans (dv_bn2 (q39_0))
    refine W.eq (g2 := F0 m 42 ls [.int x4, .ref a0]) rfl ?_
    refine th_call (th_runV (As := [.int x4]) (rest := []) hC mf_X12_rollsKept km_X12_385 im_X12_rollsKept se_X12_rollsKept (c_X12_rollsKept l G Γ H0 hB.1 hU a0 h0 hR x4) rfl rfl ⟨Nat.le_of_ble_eq_true rfl, Nat.le_of_ble_eq_true rfl⟩ hB.1 h0 ro_46 rfl rfl hl.1 rfl (Nat.le_of_ble_eq_true rfl) dX12_obeys_42 ⟨Nat.le_refl _, Nat.le_refl _⟩) hB.2.1 (fun v42 H42 locs hp hz hS => ?_)
    obtain ⟨x5, rfl, lx5, ux5, hI1, hf, hR, z42_0, z42_1⟩ := hp
    have hB := th_B_c hB hI1 hS hf (by decide)
    replace hF := hF.trans (dv_bn2 (z42_1))
    refine W.eq (g2 := F0 m 45 ls [.int x5]) rfl ?_
    exact th_iret hC hH hr hlocks rfl hB.2.1 ⟨_, rfl, hB.1, hB.2.2, hR, z42_0, (hF0.symm.trans hF)⟩ dX12_obeys_45
  replace hF := hF.trans (if_neg k4_0)
  by_cases k4_1 : x1.toInt = 25
  · replace hF := hF.trans (if_pos k4_1)
    refine lv_tableIn (off := 42) (tgt := 46) hx hb dX12_obeys_4 (by omega) (by omega) (by rw [show x1.toInt = 25 from k4_1]; decide) (by decide) ?_
    refine lv_aload_n hx hb dX12_obeys_46 rfl (lv_at hl 0 rfl) ?_
    refine th_call (th_runV (As := []) (rest := []) hC mf_X12_mirrorsKept km_X12_388 im_X12_mirrorsKept se_X12_mirrorsKept (c_X12_mirrorsKept l G Γ H0 hB.1 hU a0 h0 hR) rfl rfl ⟨Nat.le_of_ble_eq_true rfl, Nat.le_of_ble_eq_true rfl⟩ hB.1 h0 ro_46 rfl rfl hl.1 rfl (Nat.le_of_ble_eq_true rfl) dX12_obeys_47 ⟨Nat.le_refl _, Nat.le_refl _⟩) hB.2.1 (fun v47 H47 locs hp hz hS => ?_)
    obtain ⟨x6, rfl, lx6, ux6, hI1, hf, hR, z47_0, z47_1⟩ := hp
    have hB := th_B_c hB hI1 hS hf (by decide)
    replace hF := hF.trans (dv_bn2 (z47_1))
    refine W.eq (g2 := F0 m 50 ls [.int x6]) rfl ?_
    exact th_iret hC hH hr hlocks rfl hB.2.1 ⟨_, rfl, hB.1, hB.2.2, hR, z47_0, (hF0.symm.trans hF)⟩ dX12_obeys_50
  replace hF := hF.trans (if_neg k4_1)
  by_cases k4_2 : x1.toInt = 26
  · replace hF := hF.trans (if_pos k4_2)
    refine lv_tableIn (off := 47) (tgt := 51) hx hb dX12_obeys_4 (by omega) (by omega) (by rw [show x1.toInt = 26 from k4_2]; decide) (by decide) ?_
    refine lv_aload_n hx hb dX12_obeys_51 rfl (lv_at hl 0 rfl) ?_
    refine th_call (th_runV (As := []) (rest := []) hC mf_X12_passesKept km_X12_391 im_X12_passesKept se_X12_passesKept (c_X12_passesKept l G Γ H0 hB.1 hU a0 h0 hR) rfl rfl ⟨Nat.le_of_ble_eq_true rfl, Nat.le_of_ble_eq_true rfl⟩ hB.1 h0 ro_46 rfl rfl hl.1 rfl (Nat.le_of_ble_eq_true rfl) dX12_obeys_52 ⟨Nat.le_refl _, Nat.le_refl _⟩) hB.2.1 (fun v52 H52 locs hp hz hS => ?_)
    obtain ⟨x7, rfl, lx7, ux7, hI1, hf, hR, z52_0, z52_1⟩ := hp
    have hB := th_B_c hB hI1 hS hf (by decide)
    replace hF := hF.trans (dv_bn2 (z52_1))
    refine W.eq (g2 := F0 m 55 ls [.int x7]) rfl ?_
    exact th_iret hC hH hr hlocks rfl hB.2.1 ⟨_, rfl, hB.1, hB.2.2, hR, z52_0, (hF0.symm.trans hF)⟩ dX12_obeys_55
  replace hF := hF.trans (if_neg k4_2)
  refine lv_tableOut (tgt := 56) hx hb dX12_obeys_4 (by omega) (by decide) ?_
  refine lv_aload_n hx hb dX12_obeys_56 rfl (lv_at hl 0 rfl) ?_
  refine lv_aload_n hx hb dX12_obeys_57 rfl (lv_at hl 0 rfl) ?_
  refine th_getO (j := 53) (r2 := 69) hC cf_X12 hB.1 h0 ro_46 rfl rfl kf_X12_100 dX12_obeys_58 (fun b8 mb8 hb8 => ?_)
  refine lv_iconst (v := 0) hx hb dX12_obeys_61 (by decide) ?_
  refine th_laldF hC hB.1 hb8 ro_69 rfl tk_0 (by omega) (by omega) rfl dX12_obeys_62 (fun y9 my9 ly9 uy9 => ?_)
  replace hF := hF.trans (dv_bn (dv_aldL hB.1 hU hb8 ow_69 (z := 0) my9 (by omega)))
  refine th_call (th_runS (As := [.long y9]) (rest := [.ref a0]) hC mf_X12_small km_X12_503 st_X12_small (c_X12_small l G Γ H0 hB.1 hU y9) rfl rfl ⟨Nat.le_of_ble_eq_true rfl, Nat.le_of_ble_eq_true rfl⟩ rfl hl.1 rfl (Nat.le_of_ble_eq_true rfl) dX12_obeys_63 ⟨Nat.le_refl _, Nat.le_refl _⟩) hB.2.1 (fun v63 H63 locs hp hz hS => ?_)
  obtain ⟨x10, rfl, lx10, ux10, q63_0, rfl⟩ := hp
  have hB := th_B_s hB hS
  replace hF := hF.trans (dv_bn2 (q63_0))
  refine W.eq (g2 := F0 m 66 ls [.int x10, .ref a0]) rfl ?_
  refine lv_aload_n hx hb dX12_obeys_66 rfl (lv_at hl 0 rfl) ?_
  refine th_getK hC cf_X12 hB.1 h0 ro_46 rfl (j := 53) (by decide) mb8 kf_X12_100 dX12_obeys_67 ?_
  refine lv_iconst (v := 1) hx hb dX12_obeys_70 (by decide) ?_
  refine th_laldF hC hB.1 hb8 ro_69 rfl tk_1 (by omega) (by omega) rfl dX12_obeys_71 (fun y11 my11 ly11 uy11 => ?_)
  replace hF := hF.trans (dv_bn (dv_aldL hB.1 hU hb8 ow_69 (z := 1) my11 (by omega)))
  refine th_call (th_runS (As := [.long y11]) (rest := [.int x10, .ref a0]) hC mf_X12_small km_X12_503 st_X12_small (c_X12_small l G Γ H0 hB.1 hU y11) rfl rfl ⟨Nat.le_of_ble_eq_true rfl, Nat.le_of_ble_eq_true rfl⟩ rfl hl.1 rfl (Nat.le_of_ble_eq_true rfl) dX12_obeys_72 ⟨Nat.le_refl _, Nat.le_refl _⟩) hB.2.1 (fun v72 H72 locs hp hz hS => ?_)
  obtain ⟨x12, rfl, lx12, ux12, q72_0, rfl⟩ := hp
  have hB := th_B_s hB hS
  replace hF := hF.trans (dv_bn2 (q72_0))
  refine W.eq (g2 := F0 m 75 ls [.int x12, .int x10, .ref a0]) rfl ?_
  refine lv_aload_n hx hb dX12_obeys_75 rfl (lv_at hl 0 rfl) ?_
  refine th_getK hC cf_X12 hB.1 h0 ro_46 rfl (j := 53) (by decide) mb8 kf_X12_100 dX12_obeys_76 ?_
  refine lv_iconst (v := 2) hx hb dX12_obeys_79 (by decide) ?_
  refine th_laldF hC hB.1 hb8 ro_69 rfl tk_2 (by omega) (by omega) rfl dX12_obeys_80 (fun y13 my13 ly13 uy13 => ?_)
  replace hF := hF.trans (dv_bn (dv_aldL hB.1 hU hb8 ow_69 (z := 2) my13 (by omega)))
  refine th_call (th_runS (As := [.long y13]) (rest := [.int x12, .int x10, .ref a0]) hC mf_X12_small km_X12_503 st_X12_small (c_X12_small l G Γ H0 hB.1 hU y13) rfl rfl ⟨Nat.le_of_ble_eq_true rfl, Nat.le_of_ble_eq_true rfl⟩ rfl hl.1 rfl (Nat.le_of_ble_eq_true rfl) dX12_obeys_81 ⟨Nat.le_refl _, Nat.le_refl _⟩) hB.2.1 (fun v81 H81 locs hp hz hS => ?_)
  obtain ⟨x14, rfl, lx14, ux14, q81_0, rfl⟩ := hp
  have hB := th_B_s hB hS
  replace hF := hF.trans (dv_bn2 (q81_0))
  refine W.eq (g2 := F0 m 84 ls [.int x14, .int x12, .int x10, .ref a0]) rfl ?_
  refine th_call (th_runV (As := [.int x10, .int x12, .int x14]) (rest := []) hC mf_X12_laysKept km_X12_379 im_X12_laysKept se_X12_laysKept (c_X12_laysKept l G Γ H0 hB.1 hU a0 h0 hR x10 x12 x14) rfl rfl ⟨Nat.le_of_ble_eq_true rfl, Nat.le_of_ble_eq_true rfl⟩ hB.1 h0 ro_46 rfl rfl hl.1 rfl (Nat.le_of_ble_eq_true rfl) dX12_obeys_84 ⟨Nat.le_refl _, Nat.le_refl _⟩) hB.2.1 (fun v84 H84 locs hp hz hS => ?_)
  obtain ⟨x15, rfl, lx15, ux15, hI1, hf, hR, z84_0, z84_1⟩ := hp
  have hB := th_B_c hB hI1 hS hf (by decide)
  have mm16 := (th_F_o hf h0 ro_46 (j := 53) (by decide) (by decide)).trans mb8
  replace hF := hF.trans (dv_bn2 (z84_1))
  refine W.eq (g2 := F0 m 87 ls [.int x15]) rfl ?_
  refine lv_istore_n (lv' := [(1, .int x15), (0, .ref a0)]) hx hb dX12_obeys_87 rfl hl (by decide) rfl (fun ls hl => ?_)
  refine lv_aload_n hx hb dX12_obeys_88 rfl (lv_at hl 1 rfl) ?_
  refine lv_iload_n hx hb dX12_obeys_89 rfl (lv_at hl 0 rfl) ?_
  have jn101 : ∀ (locs : List Loc) (ls : Array Slot) (s101_1 : Int32), th_B G Γ Γ [(48, 0), (61, 0), (46, 33), (46, 22), (46, 24), (58, 0), (46, 23), (46, 25), (59, 0), (60, 0), (46, 28)] H0 H84 locs → lv_has ls 2 [(1, .int x15)] → F = f_X12_obeys_101 (dv G Γ H84) (x15.toInt) ((a0 : Int)) (s101_1.toInt) → W p l e ({ frames := 54, cells := 0, slots := 0, locals := 1697 } : Room) s m ([.ref a0] : List Value).toArray below meth c H84 locs 0 0 (MQ below (th_Q (fun (v : Option Value) (H1 : Heap) => ∃ r : Int32, v = some (.int r) ∧ th_I G Γ H1 ∧ th_F G Γ [(48, 0), (61, 0), (46, 33), (46, 22), (46, 24), (58, 0), (46, 23), (46, 25), (59, 0), (60, 0), (46, 28)] H0 H1 ∧ th_RN a0 G Γ H1 ∧ (∀ z : Int, 29 ≤ z → mo_v G H1 a0 2 z = mo_v G H0 a0 2 z) ∧ (f_X12_obeys (dv G Γ H0) (a0 : Int) = (dv G Γ H1, r.toInt))) G) ([.ref a0] : List Value).toArray s 0 0 (fun q => G.2.2 ≤ q)) (F0 m 101 ls [.int s101_1, .ref a0]) := by
    intro locs ls s101_1 hB hl hF
    have ls101_1 := ti_lo s101_1; have us101_1 := ti_hi s101_1
    replace hF := hF.trans (f_X12_obeys_101.eq_1 (dv G Γ H84) (x15.toInt) ((a0 : Int)) (s101_1.toInt))
    refine th_put hC cf_X12 hB h0 (Or.inl h0) ro_46 rfl (j := 28) rfl th_sIa (by decide) rfl rfl rfl kf_X12_320 dX12_obeys_101 (fun H101 locs hB hf hst101 => ?_)
    have mm17 := (th_F_o hf h0 ro_46 (j := 53) (by decide) (by decide)).trans mm16
    have hR := th_RN_F hB.1 hR h0 hf (th_T_s h0 ro_46 hst101) (by decide)
    have vv_H101_2 : mo_v G H101 a0 2 = mo_v G H84 a0 2 := mo_v_F (r := 48) hB.1 hf h0 rfl ro_48 (by decide) (by decide)
    replace hF := hF.trans (dv_bn (dv_putI hB.1 h0 ro_46 (j := 28) rfl (th_apart hC cf_X12) hst101 (Eq.refl _) (by decide)))
    refine lv_iload_n hx hb dX12_obeys_104 rfl (lv_at hl 0 rfl) ?_
    exact th_iret hC hH hr hlocks rfl hB.2.1 ⟨_, rfl, hB.1, hB.2.2, hR, fun z a9 => by rw [vv_H101_2]; exact z84_0 z a9, (hF0.symm.trans hF)⟩ dX12_obeys_105
  refine tr_if_ge (tgt := 100) hx hb dX12_obeys_90 (by decide) (Eq.refl _) (fun c90 => ?_) (fun c90 => ?_)
  · replace hF := hF.trans (if_pos c90)
    refine lv_iload_n hx hb dX12_obeys_100 rfl (lv_at hl 0 rfl) ?_
    exact jn101 locs ls x15 hB (lv_sub hl [0] rfl) hF
  · replace hF := hF.trans (if_neg (Int.not_le.mpr c90))
    refine lv_aload_n hx hb dX12_obeys_93 rfl (lv_at hl 1 rfl) ?_
    refine th_getI (j := 28) hC cf_X12 hB.1 h0 ro_46 rfl rfl kf_X12_320 dX12_obeys_94 (fun x18 mx18 lx18 ux18 => ?_)
    replace hF := hF.trans (dv_bn (dv_getI h0 ro_46 (j := 28) rfl mx18 (by decide)))
    refine lv_goto (tgt := 101) hx hb dX12_obeys_97 (by decide) ?_
    exact jn101 locs ls x18 hB (lv_sub hl [0] rfl) hF

set_option maxHeartbeats 4000000 in
set_option maxRecDepth 100000 in
theorem c_X12_runs (l : Launch) (G : th_G) (Γ : th_Ga) (H0 : Heap) (hI : th_I G Γ H0) (hU : dv_U Γ) (a0 : Nat) (h0 : Γ a0 = (46, 0)) (hR : th_RN a0 G Γ H0) (p1 : Int32) (f1 : 2400 ≤ p1.toInt) (g1 : p1.toInt ≤ 2800) (i j : Int) (k1 : mo_f G H0 a0 48 = 2400 + i) (k2 : 0 ≤ i ∧ j ≤ p1.toInt - 2400) (k3 : mo_ord (mo_tf (mo_v G H0 a0 2) 2480 (p1.toInt - 2400)) i j) : Met l yX12_runs (.code yX12_runs cX12_runs 5 (some FieldType.boolean) :: th_tb) ({ frames := 55, cells := 0, slots := 0, locals := 1718 } : Room) (th_P [.ref a0, .int p1] G H0) (th_Q (fun (v : Option Value) (H1 : Heap) => ∃ r : Int32, v = some (.int r) ∧ 0 ≤ r.toInt ∧ r.toInt ≤ 1 ∧ th_I G Γ H1 ∧ th_F G Γ [(46, 22), (46, 24), (46, 23), (46, 25), (46, 49), (46, 50), (46, 51), (46, 52), (69, 0), (48, 0), (61, 0), (46, 33), (58, 0), (59, 0), (60, 0), (46, 28), (46, 27), (46, 48)] H0 H1 ∧ th_RN a0 G Γ H1 ∧ (∀ z : Int, 29 ≤ z → mo_v G H1 a0 2 z = mo_v G H0 a0 2 z) ∧ (r.toInt = 1 → mo_f G H1 a0 48 = 2400 + j + 1) ∧ (f_X12_runs (dv G Γ H0) (a0 : Int) p1.toInt = (dv G Γ H1, r.toInt))) G) 0 0 (fun q => G.2.2 ≤ q) := by
  refine th_met RX12 (by decide) rfl (Nat.le_of_ble_eq_true rfl) ?_
  intro p e s m below meth c hC hH hr hlocks hnm ls hl
  have hx := hC.1
  have hb := hC.2.1
  have hB : th_B G Γ Γ [(46, 22), (46, 24), (46, 23), (46, 25), (46, 49), (46, 50), (46, 51), (46, 52), (69, 0), (48, 0), (61, 0), (46, 33), (58, 0), (59, 0), (60, 0), (46, 28), (46, 27), (46, 48)] H0 H0 [] := ⟨hI, va_S.rf, th_F_rf⟩
  have hl : lv_has ls 5 [(0, .ref a0), (1, .int p1)] := hl
  have lp1 := ti_lo p1; have up1 := ti_hi p1
  obtain ⟨F, hF0⟩ : ∃ F, F = f_X12_runs (dv G Γ H0) ((a0 : Int)) (p1.toInt) := ⟨_, rfl⟩
  have hF := hF0.trans (f_X12_runs.eq_1 (dv G Γ H0) ((a0 : Int)) (p1.toInt))
  refine lv_aload_n hx hb dX12_runs_0 rfl (lv_at hl 0 rfl) ?_
  refine lv_iload_n hx hb dX12_runs_1 rfl (lv_at hl 1 rfl) ?_
  refine lv_iconst (v := 0) hx hb dX12_runs_2 (by decide) ?_
  refine th_call (th_runV (As := [.int p1, .int 0]) (rest := []) hC mf_X12_goesAlong km_X12_507 im_X12_goesAlong se_X12_goesAlong (c_X12_goesAlong l G Γ H0 hB.1 hR.1 hU a0 h0 p1 (by omega) (by omega) 0 (by decide) (by decide) i j k1 k2 k3) rfl rfl ⟨Nat.le_of_ble_eq_true rfl, Nat.le_of_ble_eq_true rfl⟩ hB.1 h0 ro_46 rfl rfl hl.1 rfl (Nat.le_of_ble_eq_true rfl) dX12_runs_3 ⟨Nat.le_refl _, Nat.le_refl _⟩) hB.2.1 (fun v3 H3 locs hp hz hS => ?_)
  have hRD := hR
  obtain ⟨rfl, hI1, hf, hR, z3_0, z3_1⟩ := hp
  have hR := th_RN_c hR hRD hI1 h0 hf (by decide)
  have hB := th_B_c hB hI1 hS hf (by decide)
  have fv_H3_48 : mo_f G H3 a0 48 = mo_f G H0 a0 48 := mo_f_F hf h0 (by decide) (by decide)
  have vv_H3_2 : mo_v G H3 a0 2 = mo_v G H0 a0 2 := mo_v_F (r := 48) hB.1 hf h0 rfl ro_48 (by decide) (by decide)
  have zf3 := z3_1
  rw [tk_0] at zf3
  replace hF := hF.trans (dv_bn2 (zf3))
  refine W.eq (g2 := F0 m 6 ls []) rfl ?_
  refine lv_aload_n hx hb dX12_runs_6 rfl (lv_at hl 0 rfl) ?_
  refine th_getI (j := 49) hC cf_X12 hB.1 h0 ro_46 rfl rfl kf_X12_495 dX12_runs_7 (fun x1 mx1 lx1 ux1 => ?_)
  replace hF := hF.trans (dv_bn (dv_getI h0 ro_46 (j := 49) rfl mx1 (by decide)))
  refine lv_istore_n (lv' := [(2, .int x1), (0, .ref a0), (1, .int p1)]) hx hb dX12_runs_10 rfl hl (by decide) rfl (fun ls hl => ?_)
  refine lv_aload_n hx hb dX12_runs_11 rfl (lv_at hl 1 rfl) ?_
  refine th_getI (j := 22) hC cf_X12 hB.1 h0 ro_46 rfl rfl kf_X12_281 dX12_runs_12 (fun x2 mx2 lx2 ux2 => ?_)
  replace hF := hF.trans (dv_bn (dv_getI h0 ro_46 (j := 22) rfl mx2 (by decide)))
  have fg3 : mo_f G H3 a0 22 = x2.toInt := mo_fat mx2
  refine lv_istore_n (lv' := [(3, .int x2), (2, .int x1), (0, .ref a0), (1, .int p1)]) hx hb dX12_runs_15 rfl hl (by decide) rfl (fun ls hl => ?_)
  refine lv_iconst (v := 0) hx hb dX12_runs_16 (by decide) ?_
  refine lv_istore (lv' := [(4, .int 0), (3, .int x2), (2, .int x1), (0, .ref a0), (1, .int p1)]) hx hb dX12_runs_17 hl (by decide) rfl (fun ls hl => ?_)
  have lp19 : ∀ (n19 : Nat) (H19 : Heap) (locs : List Loc) (ls : Array Slot) (j19_4 : Int32), th_B G Γ Γ [(46, 22), (46, 24), (46, 23), (46, 25), (46, 49), (46, 50), (46, 51), (46, 52), (69, 0), (48, 0), (61, 0), (46, 33), (58, 0), (59, 0), (60, 0), (46, 28), (46, 27), (46, 48)] H0 H19 locs → th_RN a0 G Γ H19 → lv_has ls 5 [(3, .int x2), (2, .int x1), (0, .ref a0), (1, .int p1), (4, .int j19_4)] → F = dv_lp f_X12_runs_19b (dv G Γ H19, x2.toInt, x1.toInt, (a0 : Int), p1.toInt, j19_4.toInt) → (∀ z : Int, 29 ≤ z → mo_v G H19 a0 2 z = mo_v G H0 a0 2 z) → mo_f G H19 a0 48 = mo_f G H0 a0 48 → (2147483648 : Int) - j19_4.toInt ≤ (n19 : Int) → W p l e ({ frames := 55, cells := 0, slots := 0, locals := 1718 } : Room) s m ([.ref a0, .int p1] : List Value).toArray below meth c H19 locs 0 0 (MQ below (th_Q (fun (v : Option Value) (H1 : Heap) => ∃ r : Int32, v = some (.int r) ∧ 0 ≤ r.toInt ∧ r.toInt ≤ 1 ∧ th_I G Γ H1 ∧ th_F G Γ [(46, 22), (46, 24), (46, 23), (46, 25), (46, 49), (46, 50), (46, 51), (46, 52), (69, 0), (48, 0), (61, 0), (46, 33), (58, 0), (59, 0), (60, 0), (46, 28), (46, 27), (46, 48)] H0 H1 ∧ th_RN a0 G Γ H1 ∧ (∀ z : Int, 29 ≤ z → mo_v G H1 a0 2 z = mo_v G H0 a0 2 z) ∧ (r.toInt = 1 → mo_f G H1 a0 48 = 2400 + j + 1) ∧ (f_X12_runs (dv G Γ H0) (a0 : Int) p1.toInt = (dv G Γ H1, r.toInt))) G) ([.ref a0, .int p1] : List Value).toArray s 0 0 (fun q => G.2.2 ≤ q)) (F0 m 19 ls []) := by
    intro n19
    induction n19 with
    | zero => intro H19 locs ls j19_4 hB hR hl hF g19_0 g19_1 hm19; exact absurd hm19 (by have := ti_hi j19_4; omega)
    | succ n19 ih19 =>
      intro H19 locs ls j19_4 hB hR hl hF g19_0 g19_1 hm19
      have lj19_4 := ti_lo j19_4; have uj19_4 := ti_hi j19_4
      have hm19 : (2147483648 : Int) - j19_4.toInt ≤ (n19 : Int) + 1 := by omega
      replace hF := hF.trans (dv_lp_eq)
      replace hF := hF.trans (congrArg (dv_k f_X12_runs_19b) (f_X12_runs_19c.eq_1 (dv G Γ H19) (x2.toInt) (x1.toInt) ((a0 : Int)) (p1.toInt) (j19_4.toInt)))
      refine lv_iload hx hb dX12_runs_19 (lv_at hl 4 rfl) ?_
      refine lv_iload_n hx hb dX12_runs_21 rfl (lv_at hl 1 rfl) ?_
      refine tr_icmp_ge (tgt := 73) hx hb dX12_runs_22 (by decide) (Eq.refl _) (Eq.refl _) (fun c22 => ?_) (fun c22 => ?_)
      · replace hF := hF.trans (congrArg (dv_k f_X12_runs_19b) (if_pos c22))
        refine lv_aload_n hx hb dX12_runs_73 rfl (lv_at hl 2 rfl) ?_
        refine lv_iload_n hx hb dX12_runs_74 rfl (lv_at hl 0 rfl) ?_
        refine th_put hC cf_X12 hB h0 (Or.inl h0) ro_46 rfl (j := 48) rfl th_sIa (by decide) rfl rfl rfl kf_X12_480 dX12_runs_75 (fun H75 locs hB hf hst75 => ?_)
        have hR := th_RN_F hB.1 hR h0 hf (th_T_s h0 ro_46 hst75) (by decide)
        have fv_H75_22 : mo_f G H75 a0 22 = mo_f G H19 a0 22 := mo_f_F hf h0 (by decide) (by decide)
        have vv_H75_2 : mo_v G H75 a0 2 = mo_v G H19 a0 2 := mo_v_F (r := 48) hB.1 hf h0 rfl ro_48 (by decide) (by decide)
        replace hF := hF.trans (congrArg (dv_k f_X12_runs_19b) (dv_bn (dv_putI hB.1 h0 ro_46 (j := 48) rfl (th_apart hC cf_X12) hst75 (Eq.refl _) (by decide))))
        have fp75 : mo_f G H75 a0 48 = x2.toInt := mo_f_St hst75
        refine lv_iconst (v := 1) hx hb dX12_runs_78 (by decide) ?_
        replace hF := hF.trans (dv_kr)
        exact th_iret hC hH hr hlocks narrow_b1 hB.2.1 ⟨_, rfl, by decide, by decide, hB.1, hB.2.2, hR, fun z a9 => by rw [vv_H75_2]; exact g19_0 z a9, fun _ => by omega, (hF0.symm.trans (hF.trans (by rw [tk_1])))⟩ dX12_runs_79
      · replace hF := hF.trans (congrArg (dv_k f_X12_runs_19b) (if_neg (Int.not_le.mpr c22)))
        refine lv_aload_n hx hb dX12_runs_25 rfl (lv_at hl 2 rfl) ?_
        refine lv_iload_n hx hb dX12_runs_26 rfl (lv_at hl 3 rfl) ?_
        refine lv_iconst (v := 1) hx hb dX12_runs_27 (by decide) ?_
        refine th_call (th_runV (As := [.int p1, .int 1]) (rest := []) hC mf_X12_goesAlong km_X12_507 im_X12_goesAlong se_X12_goesAlong (c_X12_goesAlong l G Γ H19 hB.1 hR.1 hU a0 h0 p1 (by omega) (by omega) 1 (by decide) (by decide) i j (by omega) k2 (by rw [mo_tf_29 g19_0 (by omega)]; exact k3)) rfl rfl ⟨Nat.le_of_ble_eq_true rfl, Nat.le_of_ble_eq_true rfl⟩ hB.1 h0 ro_46 rfl rfl hl.1 rfl (Nat.le_of_ble_eq_true rfl) dX12_runs_28 ⟨Nat.le_refl _, Nat.le_refl _⟩) hB.2.1 (fun v28 H28 locs hp hz hS => ?_)
        have hRD := hR
        obtain ⟨rfl, hI1, hf, hR, z28_0, z28_1⟩ := hp
        have hR := th_RN_c hR hRD hI1 h0 hf (by decide)
        have hB := th_B_c hB hI1 hS hf (by decide)
        have fv_H28_48 : mo_f G H28 a0 48 = mo_f G H19 a0 48 := mo_f_F hf h0 (by decide) (by decide)
        have vv_H28_2 : mo_v G H28 a0 2 = mo_v G H19 a0 2 := mo_v_F (r := 48) hB.1 hf h0 rfl ro_48 (by decide) (by decide)
        have zf28 := z28_1
        rw [tk_1] at zf28
        replace hF := hF.trans (congrArg (dv_k f_X12_runs_19b) (dv_bn2 (zf28)))
        refine W.eq (g2 := F0 m 31 ls []) rfl ?_
        refine lv_aload_n hx hb dX12_runs_31 rfl (lv_at hl 2 rfl) ?_
        refine th_getI (j := 52) hC cf_X12 hB.1 h0 ro_46 rfl rfl kf_X12_498 dX12_runs_32 (fun x4 mx4 lx4 ux4 => ?_)
        replace hF := hF.trans (congrArg (dv_k f_X12_runs_19b) (dv_bn (dv_getI h0 ro_46 (j := 52) rfl mx4 (by decide))))
        have jn67 : ∀ (H67 : Heap) (locs : List Loc) (ls : Array Slot) , th_B G Γ Γ [(46, 22), (46, 24), (46, 23), (46, 25), (46, 49), (46, 50), (46, 51), (46, 52), (69, 0), (48, 0), (61, 0), (46, 33), (58, 0), (59, 0), (60, 0), (46, 28), (46, 27), (46, 48)] H0 H67 locs → th_RN a0 G Γ H67 → lv_has ls 5 [(3, .int x2), (2, .int x1), (0, .ref a0), (1, .int p1), (4, .int j19_4)] → F = dv_k f_X12_runs_19b (f_X12_runs_67 (dv G Γ H67) (x2.toInt) (x1.toInt) ((a0 : Int)) (p1.toInt) (j19_4.toInt)) → (∀ z : Int, 29 ≤ z → mo_v G H67 a0 2 z = mo_v G H0 a0 2 z) → mo_f G H67 a0 48 = mo_f G H0 a0 48 → th_sl H67 a0 (G.1.2 12 52) = .int x4 → W p l e ({ frames := 55, cells := 0, slots := 0, locals := 1718 } : Room) s m ([.ref a0, .int p1] : List Value).toArray below meth c H67 locs 0 0 (MQ below (th_Q (fun (v : Option Value) (H1 : Heap) => ∃ r : Int32, v = some (.int r) ∧ 0 ≤ r.toInt ∧ r.toInt ≤ 1 ∧ th_I G Γ H1 ∧ th_F G Γ [(46, 22), (46, 24), (46, 23), (46, 25), (46, 49), (46, 50), (46, 51), (46, 52), (69, 0), (48, 0), (61, 0), (46, 33), (58, 0), (59, 0), (60, 0), (46, 28), (46, 27), (46, 48)] H0 H1 ∧ th_RN a0 G Γ H1 ∧ (∀ z : Int, 29 ≤ z → mo_v G H1 a0 2 z = mo_v G H0 a0 2 z) ∧ (r.toInt = 1 → mo_f G H1 a0 48 = 2400 + j + 1) ∧ (f_X12_runs (dv G Γ H0) (a0 : Int) p1.toInt = (dv G Γ H1, r.toInt))) G) ([.ref a0, .int p1] : List Value).toArray s 0 0 (fun q => G.2.2 ≤ q)) (F0 m 67 ls []) := by
          intro H67 locs ls hB hR hl hF g67_0 g67_1 g67_2
          replace hF := hF.trans (congrArg (dv_k f_X12_runs_19b) (f_X12_runs_67.eq_1 (dv G Γ H67) (x2.toInt) (x1.toInt) ((a0 : Int)) (p1.toInt) (j19_4.toInt)))
          refine tr_iinc (fun x5 => [(4, .int x5), (3, .int x2), (2, .int x1), (0, .ref a0), (1, .int p1)]) hx hb dX12_runs_67 hl (k := 4) rfl (Eq.refl _) tk_1 (by omega) (by omega) (by decide) (fun _ => rfl) (fun x5 ls ex5 hl => ?_)
          replace hF := hF.trans (congrArg (dv_k f_X12_runs_19b) (dv_bn (ex5.symm)))
          refine lv_goto (tgt := 19) hx hb dX12_runs_70 (by decide) ?_
          replace hF := hF.trans (dv_kl)
          exact ih19 H67 locs ls x5 hB hR (lv_sub hl [1, 2, 3, 4, 0] rfl) hF g67_0 (by omega) (by omega)
        refine tr_if_ne (tgt := 41) hx hb dX12_runs_35 (by decide) (Eq.refl _) (fun c35 => ?_) (fun c35 => ?_)
        · replace hF := hF.trans (congrArg (dv_k f_X12_runs_19b) (if_pos c35))
          refine lv_aload_n hx hb dX12_runs_41 rfl (lv_at hl 2 rfl) ?_
          refine th_getI (j := 51) hC cf_X12 hB.1 h0 ro_46 rfl rfl kf_X12_492 dX12_runs_42 (fun x6 mx6 lx6 ux6 => ?_)
          replace hF := hF.trans (congrArg (dv_k f_X12_runs_19b) (dv_bn (dv_getI h0 ro_46 (j := 51) rfl mx6 (by decide))))
          refine tr_if_eq (tgt := 55) hx hb dX12_runs_45 (by decide) (Eq.refl _) (fun c45 => ?_) (fun c45 => ?_)
          · replace hF := hF.trans (congrArg (dv_k f_X12_runs_19b) (if_pos c45))
            refine lv_iconst (v := 0) hx hb dX12_runs_55 (by decide) ?_
            replace hF := hF.trans (dv_kr)
            exact th_iret hC hH hr hlocks narrow_b0 hB.2.1 ⟨_, rfl, by decide, by decide, hB.1, hB.2.2, hR, fun z a9 => by rw [vv_H28_2]; exact g19_0 z a9, fun h9 => absurd h9 (by decide), (hF0.symm.trans (hF.trans (by rw [tk_0])))⟩ dX12_runs_56
          · replace hF := hF.trans (congrArg (dv_k f_X12_runs_19b) (if_neg c45))
            refine lv_aload_n hx hb dX12_runs_48 rfl (lv_at hl 2 rfl) ?_
            refine th_call (th_runV (As := []) (rest := []) hC mf_X12_obeys km_X12_511 im_X12_obeys se_X12_obeys (c_X12_obeys l G Γ H28 hB.1 hU a0 h0 hR) rfl rfl ⟨Nat.le_of_ble_eq_true rfl, Nat.le_of_ble_eq_true rfl⟩ hB.1 h0 ro_46 rfl rfl hl.1 rfl (Nat.le_of_ble_eq_true rfl) dX12_runs_49 ⟨Nat.le_refl _, Nat.le_refl _⟩) hB.2.1 (fun v49 H49 locs hp hz hS => ?_)
            obtain ⟨x7, rfl, hI1, hf, hR, z49_0, z49_1⟩ := hp
            have hB := th_B_c hB hI1 hS hf (by decide)
            have mm8 := (th_F_o hf h0 ro_46 (j := 52) (by decide) (by decide)).trans mx4
            have mm9 := (th_F_o hf h0 ro_46 (j := 51) (by decide) (by decide)).trans mx6
            have fv_H49_48 : mo_f G H49 a0 48 = mo_f G H28 a0 48 := mo_f_F hf h0 (by decide) (by decide)
            replace hF := hF.trans (congrArg (dv_k f_X12_runs_19b) (dv_bn2 (z49_1)))
            refine W.eq (g2 := F0 m 52 ls [.int x7]) rfl ?_
            refine tr_if_ge (tgt := 57) hx hb dX12_runs_52 (by decide) (Eq.refl _) (fun c52 => ?_) (fun c52 => ?_)
            · replace hF := hF.trans (congrArg (dv_k f_X12_runs_19b) (if_pos c52))
              refine lv_aload_n hx hb dX12_runs_57 rfl (lv_at hl 2 rfl) ?_
              refine lv_dup hx hb dX12_runs_58 rfl ?_
              refine th_getI (j := 27) hC cf_X12 hB.1 h0 ro_46 rfl rfl kf_X12_317 dX12_runs_59 (fun x10 mx10 lx10 ux10 => ?_)
              replace hF := hF.trans (congrArg (dv_k f_X12_runs_19b) (dv_bn (dv_getI h0 ro_46 (j := 27) rfl mx10 (by decide))))
              refine lv_iconst (v := 1) hx hb dX12_runs_62 (by decide) ?_
              refine lv_iadd hx hb dX12_runs_63 ?_
              refine lv_topi (fun x11 ex11 => ?_)
              have lx11 := ti_lo x11; have ux11 := ti_hi x11
              replace hF := hF.trans (congrArg (dv_k f_X12_runs_19b) (dv_bn (dv_add_e (Eq.refl _) tk_1 ex11)))
              refine th_put hC cf_X12 hB h0 (Or.inl h0) ro_46 rfl (j := 27) rfl th_sIa (by decide) rfl rfl rfl kf_X12_317 dX12_runs_64 (fun H64 locs hB hf hst64 => ?_)
              have mm12 := (th_F_o hf h0 ro_46 (j := 52) (by decide) (by decide)).trans mm8
              have mm13 := (th_F_o hf h0 ro_46 (j := 51) (by decide) (by decide)).trans mm9
              have hR := th_RN_F hB.1 hR h0 hf (th_T_s h0 ro_46 hst64) (by decide)
              have fv_H64_22 : mo_f G H64 a0 22 = mo_f G H49 a0 22 := mo_f_F hf h0 (by decide) (by decide)
              have fv_H64_48 : mo_f G H64 a0 48 = mo_f G H49 a0 48 := mo_f_F hf h0 (by decide) (by decide)
              have vv_H64_2 : mo_v G H64 a0 2 = mo_v G H49 a0 2 := mo_v_F (r := 48) hB.1 hf h0 rfl ro_48 (by decide) (by decide)
              replace hF := hF.trans (congrArg (dv_k f_X12_runs_19b) (dv_bn (dv_putI hB.1 h0 ro_46 (j := 27) rfl (th_apart hC cf_X12) hst64 (Eq.refl _) (by decide))))
              have mm14 := hst64.2.1
              exact jn67 H64 locs ls hB hR (lv_sub hl [0, 1, 2, 3, 4] rfl) hF (fun z a9 => by rw [vv_H64_2, z49_0 z a9, vv_H28_2]; exact g19_0 z a9) (by omega) mm12
            · replace hF := hF.trans (congrArg (dv_k f_X12_runs_19b) (if_neg (Int.not_le.mpr c52)))
              refine lv_iconst (v := 0) hx hb dX12_runs_55 (by decide) ?_
              replace hF := hF.trans (dv_kr)
              exact th_iret hC hH hr hlocks narrow_b0 hB.2.1 ⟨_, rfl, by decide, by decide, hB.1, hB.2.2, hR, fun z a9 => by rw [z49_0 z a9, vv_H28_2]; exact g19_0 z a9, fun h9 => absurd h9 (by decide), (hF0.symm.trans (hF.trans (by rw [tk_0])))⟩ dX12_runs_56
        · replace hF := hF.trans (congrArg (dv_k f_X12_runs_19b) (if_neg (not_not_intro c35)))
          refine lv_goto (tgt := 67) hx hb dX12_runs_38 (by decide) ?_
          exact jn67 H28 locs ls hB hR (lv_sub hl [0, 1, 2, 3, 4] rfl) hF (fun z a9 => by rw [vv_H28_2]; exact g19_0 z a9) (by omega) mx4
  exact lp19 ((2147483648 : Int) - (0)).toNat H3 locs ls 0 hB hR (lv_sub hl [1, 2, 3, 4, 0] rfl) (by rw [tk_0]; exact hF) (fun z a9 => by rw [vv_H3_2]) (by have w0 := tk_0; omega) (by have w0 := tk_0; omega)
