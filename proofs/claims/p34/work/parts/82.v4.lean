set_option maxHeartbeats 4000000 in
set_option maxRecDepth 100000 in
theorem c_X12_carpet_q (l : Launch) (G : th_G) (Γ : th_Ga) (H0 : Heap) (hI : th_I G Γ H0) (a0 : Nat) (h0 : Γ a0 = (46, 0)) (hR : th_RN a0 G Γ H0) (p1 : Int32) (p2 : Int32) (p3 : Int32) : Met l yX12_carpet (.code yX12_carpet cX12_carpet 4 (some FieldType.int) :: th_tb) ({ frames := 3, cells := 0, slots := 0, locals := 64 } : Room) (th_P [.ref a0, .int p1, .int p2, .int p3] G H0) (th_Q (fun (v : Option Value) (H1 : Heap) => ∃ r : Int32, v = some (.int r) ∧ th_I G Γ H1 ∧ th_F G Γ [(47, 0), (46, 0), (48, 0), (46, 33)] H0 H1 ∧ th_RN a0 G Γ H1 ∧ (mo_v G H1 a0 2 70 = mo_v G H0 a0 2 70)) G) 0 0 (fun q => G.2.2 ≤ q) := by
  refine th_met RX12 (by decide) rfl (Nat.le_of_ble_eq_true rfl) ?_
  intro p e s m below meth c hC hH hr hlocks hnm ls hl
  have hx := hC.1
  have hb := hC.2.1
  have hB : th_B G Γ Γ [(47, 0), (46, 0), (48, 0), (46, 33)] H0 H0 [] := ⟨hI, va_S.rf, th_F_rf⟩
  have hl : lv_has ls 4 [(0, .ref a0), (1, .int p1), (2, .int p2), (3, .int p3)] := hl
  have lp1 := ti_lo p1; have up1 := ti_hi p1
  have lp2 := ti_lo p2; have up2 := ti_hi p2
  have lp3 := ti_lo p3; have up3 := ti_hi p3
  refine lv_iload_n hx hb dX12_carpet_0 rfl (lv_at hl 1 rfl) ?_
  refine lv_iload_n hx hb dX12_carpet_1 rfl (lv_at hl 2 rfl) ?_
  refine lv_iload_n hx hb dX12_carpet_2 rfl (lv_at hl 3 rfl) ?_
  refine th_call (th_runS (As := [.int p1, .int p2, .int p3]) (rest := []) hC mf_X12_canBe km_X12_127 st_X12_canBe (c_X12_canBe l G Γ H0 hB.1 p1 p2 p3) rfl rfl ⟨Nat.le_of_ble_eq_true rfl, Nat.le_of_ble_eq_true rfl⟩ rfl hl.1 rfl (Nat.le_of_ble_eq_true rfl) dX12_carpet_3 ⟨Nat.le_refl _, Nat.le_refl _⟩) hB.2.1 (fun v3 H3 locs hp hz hS => ?_)
  obtain ⟨x1, rfl, lx1, ux1, q3_0, rfl⟩ := hp
  have hB := th_B_s hB hS
  refine W.eq (g2 := F0 m 6 ls [.int x1]) rfl ?_
  refine tr_if_ne (tgt := 15) hx hb dX12_carpet_6 (by decide) (Eq.refl _) (fun c6 => ?_) (fun c6 => ?_)
  · refine lv_aload_n hx hb dX12_carpet_15 rfl (lv_at hl 0 rfl) ?_
    refine th_call (th_runV (As := []) (rest := []) hC mf_X12_many km_X12_115 im_X12_many se_X12_many (c_X12_many l G Γ H0 hB.1 a0 h0) rfl rfl ⟨Nat.le_of_ble_eq_true rfl, Nat.le_of_ble_eq_true rfl⟩ hB.1 h0 ro_46 rfl rfl hl.1 rfl (Nat.le_of_ble_eq_true rfl) dX12_carpet_16 ⟨Nat.le_refl _, Nat.le_refl _⟩) hB.2.1 (fun v16 H16 locs hp hz hS => ?_)
    obtain ⟨x2, rfl, lx2, ux2, q16_0, rfl⟩ := hp
    have hB := th_B_s hB hS
    refine W.eq (g2 := F0 m 19 ls [.int x2]) rfl ?_
    have e16 := q16_0
    refine lv_bipush (v := 9) hx hb dX12_carpet_19 (by decide) ?_
    refine tr_icmp_ne (tgt := 31) hx hb dX12_carpet_21 (by decide) (Eq.refl _) tk_9 (fun c21 => ?_) (fun c21 => ?_)
    · refine lv_aload_n hx hb dX12_carpet_31 rfl (lv_at hl 0 rfl) ?_
      have hR := th_NZ hR
      refine lv_iload_n hx hb dX12_carpet_32 rfl (lv_at hl 1 rfl) ?_
      refine lv_iload_n hx hb dX12_carpet_33 rfl (lv_at hl 2 rfl) ?_
      refine lv_iload_n hx hb dX12_carpet_34 rfl (lv_at hl 3 rfl) ?_
      refine th_call (th_runV (As := [.int p1, .int p2, .int p3]) (rest := []) hC mf_X12_adds km_X12_130 im_X12_adds se_X12_adds (c_X12_adds l G Γ H0 hB.1 a0 h0 (th_KE (th_ZK hR)) p1 (by omega) (by omega) p2 p3 (by omega)) rfl rfl ⟨Nat.le_of_ble_eq_true rfl, Nat.le_of_ble_eq_true rfl⟩ hB.1 h0 ro_46 rfl rfl hl.1 rfl (Nat.le_of_ble_eq_true rfl) dX12_carpet_35 ⟨Nat.le_refl _, Nat.le_refl _⟩) hB.2.1 (fun v35 H35 locs hp hz hS => ?_)
      have hRD := hR
      obtain ⟨rfl, hI1, hf, hR, z35_0⟩ := hp
      have hRc35 := hR
      have hR := hRD
      have hRC := hRc35.1
      have hB := th_B_c hB hI1 hS hf (by decide)
      have fv_H35_33 : mo_f G H35 a0 33 = mo_f G H0 a0 33 := mo_f_F hf h0 (by decide) (by decide)
      have vv_H35_3 : mo_v G H35 a0 3 = mo_v G H0 a0 3 := mo_v_F (r := 49) hB.1 hf h0 rfl ro_49 (by decide) (by decide)
      have vv_H35_4 : mo_v G H35 a0 4 = mo_v G H0 a0 4 := mo_v_F (r := 50) hB.1 hf h0 rfl ro_50 (by decide) (by decide)
      have vv_H35_31 : mo_v G H35 a0 31 = mo_v G H0 a0 31 := mo_v_F (r := 61) hB.1 hf h0 rfl ro_61 (by decide) (by decide)
      have tv_p70_H35 : mo_v G H35 a0 2 70 = mo_v G H0 a0 2 70 := ((by rw [z35_0]; unfold mo_ad; rw [mo_un (by omega), mo_un (by omega), mo_un (by omega), mo_un (by omega), mo_un (by omega), mo_un (by omega)]))
      refine W.eq (g2 := F0 m 38 ls []) rfl ?_
      have hR : th_RZ a0 G Γ H35 := ⟨hRC, by rw [z35_0, vv_H35_3, vv_H35_4]; exact ⟨mo_kg_ad hR.2.1 rfl (by omega) (by omega) (by omega), hR.2.2⟩⟩
      refine lv_aload_n hx hb dX12_carpet_38 rfl (lv_at hl 0 rfl) ?_
      refine lv_aload_n hx hb dX12_carpet_39 rfl (lv_at hl 0 rfl) ?_
      refine th_call (th_runV (As := []) (rest := [.ref a0]) hC mf_X12_many km_X12_115 im_X12_many se_X12_many (c_X12_many l G Γ H35 hB.1 a0 h0) rfl rfl ⟨Nat.le_of_ble_eq_true rfl, Nat.le_of_ble_eq_true rfl⟩ hB.1 h0 ro_46 rfl rfl hl.1 rfl (Nat.le_of_ble_eq_true rfl) dX12_carpet_40 ⟨Nat.le_refl _, Nat.le_refl _⟩) hB.2.1 (fun v40 H40 locs hp hz hS => ?_)
      obtain ⟨x3, rfl, lx3, ux3, q40_0, rfl⟩ := hp
      have hB := th_B_s hB hS
      refine W.eq (g2 := F0 m 43 ls [.int x3, .ref a0]) rfl ?_
      refine lv_iconst (v := 1) hx hb dX12_carpet_43 (by decide) ?_
      refine tr_isub hx hb dX12_carpet_44 (Eq.refl _) tk_1 (by omega) (by omega) (fun x4 ex4 => ?_)
      refine th_call (th_runV (As := [.int x4]) (rest := []) hC mf_X12_settled km_X12_112 im_X12_settled se_X12_settled (c_X12_settled l G Γ H35 hB.1 hR.1 a0 h0 x4) rfl rfl ⟨Nat.le_of_ble_eq_true rfl, Nat.le_of_ble_eq_true rfl⟩ hB.1 h0 ro_46 rfl rfl hl.1 rfl (Nat.le_of_ble_eq_true rfl) dX12_carpet_45 ⟨Nat.le_refl _, Nat.le_refl _⟩) hB.2.1 (fun v45 H45 locs hp hz hS => ?_)
      have hRD := hR
      obtain ⟨x5, rfl, q45_0, hI1, hf, hR, z45_0⟩ := hp
      have hR := th_RZ_c hR hRD hI1 h0 hf (by decide)
      have hB := th_B_c hB hI1 hS hf (by decide)
      have vv_H45_2 : mo_v G H45 a0 2 = mo_v G H35 a0 2 := mo_v_F (r := 48) hB.1 hf h0 rfl ro_48 (by decide) (by decide)
      have vv_H45_3 : mo_v G H45 a0 3 = mo_v G H35 a0 3 := mo_v_F (r := 49) hB.1 hf h0 rfl ro_49 (by decide) (by decide)
      have vv_H45_4 : mo_v G H45 a0 4 = mo_v G H35 a0 4 := mo_v_F (r := 50) hB.1 hf h0 rfl ro_50 (by decide) (by decide)
      have vv_H45_31 : mo_v G H45 a0 31 = mo_v G H35 a0 31 := mo_v_F (r := 61) hB.1 hf h0 rfl ro_61 (by decide) (by decide)
      have tv_p70_H45 : mo_v G H45 a0 2 70 = mo_v G H0 a0 2 70 := (congrFun (mo_v_F (j := 2) (r := 48) hB.1 hf h0 rfl ro_48 (by decide) (by decide)) 70).trans tv_p70_H35
      refine W.eq (g2 := F0 m 48 ls [.int x5]) rfl ?_
      have hR := th_ZN hR z45_0
      exact th_iret hC hH hr hlocks rfl hB.2.1 ⟨_, rfl, hB.1, hB.2.2, hR, tv_p70_H45⟩ dX12_carpet_48
    · refine lv_aload_n hx hb dX12_carpet_24 rfl (lv_at hl 0 rfl) ?_
      refine lv_bipush (v := (-5)) hx hb dX12_carpet_25 (by decide) ?_
      refine th_call (th_runV (As := [.int (-5)]) (rest := []) hC mf_X12_refuses km_X12_109 im_X12_refuses se_X12_refuses (c_X12_refuses l G Γ H0 hB.1 hR.1 a0 h0 (-5) (by decide) (by decide)) rfl rfl ⟨Nat.le_of_ble_eq_true rfl, Nat.le_of_ble_eq_true rfl⟩ hB.1 h0 ro_46 rfl rfl hl.1 rfl (Nat.le_of_ble_eq_true rfl) dX12_carpet_27 ⟨Nat.le_refl _, Nat.le_refl _⟩) hB.2.1 (fun v27 H27 locs hp hz hS => ?_)
      have hRD := hR
      obtain ⟨x6, rfl, q27_0, hI1, hf, hR⟩ := hp
      have hR := th_RN_c hR hRD hI1 h0 hf (by decide)
      have hB := th_B_c hB hI1 hS hf (by decide)
      have fv_H27_33 : mo_f G H27 a0 33 = mo_f G H0 a0 33 := mo_f_F hf h0 (by decide) (by decide)
      have vv_H27_2 : mo_v G H27 a0 2 = mo_v G H0 a0 2 := mo_v_F (r := 48) hB.1 hf h0 rfl ro_48 (by decide) (by decide)
      have vv_H27_3 : mo_v G H27 a0 3 = mo_v G H0 a0 3 := mo_v_F (r := 49) hB.1 hf h0 rfl ro_49 (by decide) (by decide)
      have vv_H27_4 : mo_v G H27 a0 4 = mo_v G H0 a0 4 := mo_v_F (r := 50) hB.1 hf h0 rfl ro_50 (by decide) (by decide)
      have vv_H27_31 : mo_v G H27 a0 31 = mo_v G H0 a0 31 := mo_v_F (r := 61) hB.1 hf h0 rfl ro_61 (by decide) (by decide)
      have tv_p70_H27 : mo_v G H27 a0 2 70 = mo_v G H0 a0 2 70 := congrFun (mo_v_F (j := 2) (r := 48) hB.1 hf h0 rfl ro_48 (by decide) (by decide)) 70
      have w27_0 := tk_m5
      refine W.eq (g2 := F0 m 30 ls [.int x6]) rfl ?_
      exact th_iret hC hH hr hlocks rfl hB.2.1 ⟨_, rfl, hB.1, hB.2.2, hR, tv_p70_H27⟩ dX12_carpet_30
  · refine lv_aload_n hx hb dX12_carpet_9 rfl (lv_at hl 0 rfl) ?_
    refine lv_iconst (v := (-1)) hx hb dX12_carpet_10 (by decide) ?_
    refine th_call (th_runV (As := [.int (-1)]) (rest := []) hC mf_X12_refuses km_X12_109 im_X12_refuses se_X12_refuses (c_X12_refuses l G Γ H0 hB.1 hR.1 a0 h0 (-1) (by decide) (by decide)) rfl rfl ⟨Nat.le_of_ble_eq_true rfl, Nat.le_of_ble_eq_true rfl⟩ hB.1 h0 ro_46 rfl rfl hl.1 rfl (Nat.le_of_ble_eq_true rfl) dX12_carpet_11 ⟨Nat.le_refl _, Nat.le_refl _⟩) hB.2.1 (fun v11 H11 locs hp hz hS => ?_)
    have hRD := hR
    obtain ⟨x7, rfl, q11_0, hI1, hf, hR⟩ := hp
    have hR := th_RN_c hR hRD hI1 h0 hf (by decide)
    have hB := th_B_c hB hI1 hS hf (by decide)
    have fv_H11_33 : mo_f G H11 a0 33 = mo_f G H0 a0 33 := mo_f_F hf h0 (by decide) (by decide)
    have vv_H11_2 : mo_v G H11 a0 2 = mo_v G H0 a0 2 := mo_v_F (r := 48) hB.1 hf h0 rfl ro_48 (by decide) (by decide)
    have vv_H11_3 : mo_v G H11 a0 3 = mo_v G H0 a0 3 := mo_v_F (r := 49) hB.1 hf h0 rfl ro_49 (by decide) (by decide)
    have vv_H11_4 : mo_v G H11 a0 4 = mo_v G H0 a0 4 := mo_v_F (r := 50) hB.1 hf h0 rfl ro_50 (by decide) (by decide)
    have vv_H11_31 : mo_v G H11 a0 31 = mo_v G H0 a0 31 := mo_v_F (r := 61) hB.1 hf h0 rfl ro_61 (by decide) (by decide)
    have tv_p70_H11 : mo_v G H11 a0 2 70 = mo_v G H0 a0 2 70 := congrFun (mo_v_F (j := 2) (r := 48) hB.1 hf h0 rfl ro_48 (by decide) (by decide)) 70
    have w11_0 := tk_m1
    refine W.eq (g2 := F0 m 14 ls [.int x7]) rfl ?_
    exact th_iret hC hH hr hlocks rfl hB.2.1 ⟨_, rfl, hB.1, hB.2.2, hR, tv_p70_H11⟩ dX12_carpet_14

set_option maxHeartbeats 4000000 in
set_option maxRecDepth 100000 in
theorem c_X12_hall_q (l : Launch) (G : th_G) (Γ : th_Ga) (H0 : Heap) (hI : th_I G Γ H0) (a0 : Nat) (h0 : Γ a0 = (46, 0)) (hR : th_RN a0 G Γ H0) (p1 : Int32) (p2 : Int32) : Met l yX12_hall (.code yX12_hall cX12_hall 3 (some FieldType.int) :: th_tb) ({ frames := 2, cells := 0, slots := 0, locals := 43 } : Room) (th_P [.ref a0, .int p1, .int p2] G H0) (th_Q (fun (v : Option Value) (H1 : Heap) => ∃ r : Int32, v = some (.int r) ∧ th_I G Γ H1 ∧ th_F G Γ [(47, 0), (46, 0), (48, 0), (46, 33)] H0 H1 ∧ th_RN a0 G Γ H1 ∧ (mo_v G H1 a0 2 69 = mo_v G H0 a0 2 69) ∧ (mo_v G H1 a0 2 70 = mo_v G H0 a0 2 70)) G) 0 0 (fun q => G.2.2 ≤ q) := by
  refine th_met RX12 (by decide) rfl (Nat.le_of_ble_eq_true rfl) ?_
  intro p e s m below meth c hC hH hr hlocks hnm ls hl
  have hx := hC.1
  have hb := hC.2.1
  have hB : th_B G Γ Γ [(47, 0), (46, 0), (48, 0), (46, 33)] H0 H0 [] := ⟨hI, va_S.rf, th_F_rf⟩
  have hl : lv_has ls 3 [(0, .ref a0), (1, .int p1), (2, .int p2)] := hl
  have lp1 := ti_lo p1; have up1 := ti_hi p1
  have lp2 := ti_lo p2; have up2 := ti_hi p2
  refine lv_iload_n hx hb dX12_hall_0 rfl (lv_at hl 1 rfl) ?_
  refine th_call (th_runS (As := [.int p1]) (rest := []) hC mf_X12_isSide km_X12_119 st_X12_isSide (c_X12_isSide l G Γ H0 hB.1 p1) rfl rfl ⟨Nat.le_of_ble_eq_true rfl, Nat.le_of_ble_eq_true rfl⟩ rfl hl.1 rfl (Nat.le_of_ble_eq_true rfl) dX12_hall_1 ⟨Nat.le_refl _, Nat.le_refl _⟩) hB.2.1 (fun v1 H1 locs hp hz hS => ?_)
  obtain ⟨x1, rfl, lx1, ux1, q1_0, rfl⟩ := hp
  have hB := th_B_s hB hS
  refine W.eq (g2 := F0 m 4 ls [.int x1]) rfl ?_
  have jn14 : ∀ (locs : List Loc) (ls : Array Slot) , th_B G Γ Γ [(47, 0), (46, 0), (48, 0), (46, 33)] H0 H0 locs → lv_has ls 3 [(0, .ref a0)] → W p l e ({ frames := 2, cells := 0, slots := 0, locals := 43 } : Room) s m ([.ref a0, .int p1, .int p2] : List Value).toArray below meth c H0 locs 0 0 (MQ below (th_Q (fun (v : Option Value) (H1 : Heap) => ∃ r : Int32, v = some (.int r) ∧ th_I G Γ H1 ∧ th_F G Γ [(47, 0), (46, 0), (48, 0), (46, 33)] H0 H1 ∧ th_RN a0 G Γ H1 ∧ (mo_v G H1 a0 2 69 = mo_v G H0 a0 2 69) ∧ (mo_v G H1 a0 2 70 = mo_v G H0 a0 2 70)) G) ([.ref a0, .int p1, .int p2] : List Value).toArray s 0 0 (fun q => G.2.2 ≤ q)) (F0 m 14 ls []) := by
    intro locs ls hB hl
    refine lv_aload_n hx hb dX12_hall_14 rfl (lv_at hl 0 rfl) ?_
    refine lv_iconst (v := (-1)) hx hb dX12_hall_15 (by decide) ?_
    refine th_call (th_runV (As := [.int (-1)]) (rest := []) hC mf_X12_refuses km_X12_109 im_X12_refuses se_X12_refuses (c_X12_refuses l G Γ H0 hB.1 hR.1 a0 h0 (-1) (by decide) (by decide)) rfl rfl ⟨Nat.le_of_ble_eq_true rfl, Nat.le_of_ble_eq_true rfl⟩ hB.1 h0 ro_46 rfl rfl hl.1 rfl (Nat.le_of_ble_eq_true rfl) dX12_hall_16 ⟨Nat.le_refl _, Nat.le_refl _⟩) hB.2.1 (fun v16 H16 locs hp hz hS => ?_)
    have hRD := hR
    obtain ⟨x2, rfl, q16_0, hI1, hf, hR⟩ := hp
    have hR := th_RN_c hR hRD hI1 h0 hf (by decide)
    have hB := th_B_c hB hI1 hS hf (by decide)
    have fv_H16_33 : mo_f G H16 a0 33 = mo_f G H0 a0 33 := mo_f_F hf h0 (by decide) (by decide)
    have vv_H16_2 : mo_v G H16 a0 2 = mo_v G H0 a0 2 := mo_v_F (r := 48) hB.1 hf h0 rfl ro_48 (by decide) (by decide)
    have vv_H16_3 : mo_v G H16 a0 3 = mo_v G H0 a0 3 := mo_v_F (r := 49) hB.1 hf h0 rfl ro_49 (by decide) (by decide)
    have vv_H16_4 : mo_v G H16 a0 4 = mo_v G H0 a0 4 := mo_v_F (r := 50) hB.1 hf h0 rfl ro_50 (by decide) (by decide)
    have vv_H16_31 : mo_v G H16 a0 31 = mo_v G H0 a0 31 := mo_v_F (r := 61) hB.1 hf h0 rfl ro_61 (by decide) (by decide)
    have tv_p69_H16 : mo_v G H16 a0 2 69 = mo_v G H0 a0 2 69 := congrFun (mo_v_F (j := 2) (r := 48) hB.1 hf h0 rfl ro_48 (by decide) (by decide)) 69
    have tv_p70_H16 : mo_v G H16 a0 2 70 = mo_v G H0 a0 2 70 := congrFun (mo_v_F (j := 2) (r := 48) hB.1 hf h0 rfl ro_48 (by decide) (by decide)) 70
    have w16_0 := tk_m1
    refine W.eq (g2 := F0 m 19 ls [.int x2]) rfl ?_
    exact th_iret hC hH hr hlocks rfl hB.2.1 ⟨_, rfl, hB.1, hB.2.2, hR, tv_p69_H16, tv_p70_H16⟩ dX12_hall_19
  refine tr_if_eq (tgt := 14) hx hb dX12_hall_4 (by decide) (Eq.refl _) (fun c4 => ?_) (fun c4 => ?_)
  · exact jn14 locs ls hB (lv_sub hl [0] rfl)
  · refine lv_iload_n hx hb dX12_hall_7 rfl (lv_at hl 2 rfl) ?_
    refine th_call (th_runS (As := [.int p2]) (rest := []) hC mf_X12_isSide km_X12_119 st_X12_isSide (c_X12_isSide l G Γ H0 hB.1 p2) rfl rfl ⟨Nat.le_of_ble_eq_true rfl, Nat.le_of_ble_eq_true rfl⟩ rfl hl.1 rfl (Nat.le_of_ble_eq_true rfl) dX12_hall_8 ⟨Nat.le_refl _, Nat.le_refl _⟩) hB.2.1 (fun v8 H8 locs hp hz hS => ?_)
    obtain ⟨x3, rfl, lx3, ux3, q8_0, rfl⟩ := hp
    have hB := th_B_s hB hS
    refine W.eq (g2 := F0 m 11 ls [.int x3]) rfl ?_
    refine tr_if_ne (tgt := 20) hx hb dX12_hall_11 (by decide) (Eq.refl _) (fun c11 => ?_) (fun c11 => ?_)
    · refine lv_aload_n hx hb dX12_hall_20 rfl (lv_at hl 0 rfl) ?_
      refine th_call (th_runV (As := []) (rest := []) hC mf_X12_laidMany km_X12_143 im_X12_laidMany se_X12_laidMany (c_X12_laidMany l G Γ H0 hB.1 a0 h0) rfl rfl ⟨Nat.le_of_ble_eq_true rfl, Nat.le_of_ble_eq_true rfl⟩ hB.1 h0 ro_46 rfl rfl hl.1 rfl (Nat.le_of_ble_eq_true rfl) dX12_hall_21 ⟨Nat.le_refl _, Nat.le_refl _⟩) hB.2.1 (fun v21 H21 locs hp hz hS => ?_)
      obtain ⟨x4, rfl, lx4, ux4, q21_0, rfl⟩ := hp
      have hB := th_B_s hB hS
      refine W.eq (g2 := F0 m 24 ls [.int x4]) rfl ?_
      refine tr_if_le (tgt := 34) hx hb dX12_hall_24 (by decide) (Eq.refl _) (fun c24 => ?_) (fun c24 => ?_)
      · refine lv_aload_n hx hb dX12_hall_34 rfl (lv_at hl 0 rfl) ?_
        have hR := th_NZ hR
        refine th_getO (j := 2) (r2 := 48) hC cf_X12 hB.1 h0 ro_46 rfl rfl kf_X12_28 dX12_hall_35 (fun b5 mb5 hb5 => ?_)
        refine lv_bipush (v := 67) hx hb dX12_hall_38 (by decide) ?_
        refine lv_iload_n hx hb dX12_hall_40 rfl (lv_at hl 1 rfl) ?_
        refine th_iastF hC hB hb5 (Or.inl hb5) ro_48 rfl (by decide) tk_67 (by omega) (by omega) (by rw [(ek_hall (by omega) (by omega))]; exact (th_sI (by omega) (by omega))) dX12_hall_41 (fun H41 locs hB hf41 hst41 => ?_)
        have hf := hf41
        have mm6 := (th_F_o hf h0 ro_46 (j := 2) (by decide) (by decide)).trans mb5
        have hRC := th_RC_F hB.1 hR.1 hf (th_T_s hb5 ro_48 hst41) (by decide)
        have fv_H41_33 : mo_f G H41 a0 33 = mo_f G H0 a0 33 := mo_f_F hf h0 (by decide) (by decide)
        have vv_H41_3 : mo_v G H41 a0 3 = mo_v G H0 a0 3 := mo_v_F (r := 49) hB.1 hf h0 rfl ro_49 (by decide) (by decide)
        have vv_H41_4 : mo_v G H41 a0 4 = mo_v G H0 a0 4 := mo_v_F (r := 50) hB.1 hf h0 rfl ro_50 (by decide) (by decide)
        have vv_H41_31 : mo_v G H41 a0 31 = mo_v G H0 a0 31 := mo_v_F (r := 61) hB.1 hf h0 rfl ro_61 (by decide) (by decide)
        have vs41 : mo_v G H41 a0 2 = mo_u (mo_v G H0 a0 2) 67 p1.toInt := by rw [show (67 : Int) = 67 by omega]; exact mo_v_st h0 hb5 (by decide) mb5 hst41 (by omega)
        have tv_p69_H41 : mo_v G H41 a0 2 69 = mo_v G H0 a0 2 69 := by rw [vs41, mo_un (by omega)]
        have tv_p70_H41 : mo_v G H41 a0 2 70 = mo_v G H0 a0 2 70 := by rw [vs41, mo_un (by omega)]
        refine lv_aload_n hx hb dX12_hall_42 rfl (lv_at hl 0 rfl) ?_
        refine th_getK hC cf_X12 hB.1 h0 ro_46 rfl (j := 2) (by decide) mm6 kf_X12_28 dX12_hall_43 ?_
        refine lv_bipush (v := 68) hx hb dX12_hall_46 (by decide) ?_
        refine lv_iload_n hx hb dX12_hall_48 rfl (lv_at hl 2 rfl) ?_
        refine th_iastF hC hB hb5 (Or.inl hb5) ro_48 rfl (by decide) tk_68 (by omega) (by omega) (by rw [(ek_hall (by omega) (by omega))]; exact (th_sI (by omega) (by omega))) dX12_hall_49 (fun H49 locs hB hf49 hst49 => ?_)
        have hf := hf49
        have mm7 := (th_F_o hf h0 ro_46 (j := 2) (by decide) (by decide)).trans mm6
        have hRC := th_RC_F hB.1 hRC hf (th_T_s hb5 ro_48 hst49) (by decide)
        have fv_H49_33 : mo_f G H49 a0 33 = mo_f G H41 a0 33 := mo_f_F hf h0 (by decide) (by decide)
        have vv_H49_3 : mo_v G H49 a0 3 = mo_v G H41 a0 3 := mo_v_F (r := 49) hB.1 hf h0 rfl ro_49 (by decide) (by decide)
        have vv_H49_4 : mo_v G H49 a0 4 = mo_v G H41 a0 4 := mo_v_F (r := 50) hB.1 hf h0 rfl ro_50 (by decide) (by decide)
        have vv_H49_31 : mo_v G H49 a0 31 = mo_v G H41 a0 31 := mo_v_F (r := 61) hB.1 hf h0 rfl ro_61 (by decide) (by decide)
        have vs49 : mo_v G H49 a0 2 = mo_u (mo_v G H41 a0 2) 68 p2.toInt := by rw [show (68 : Int) = 68 by omega]; exact mo_v_st h0 hb5 (by decide) mm6 hst49 (by omega)
        have tv_p69_H49 : mo_v G H49 a0 2 69 = mo_v G H0 a0 2 69 := by rw [vs49, mo_un (by omega)]; exact tv_p69_H41
        have tv_p70_H49 : mo_v G H49 a0 2 70 = mo_v G H0 a0 2 70 := by rw [vs49, mo_un (by omega)]; exact tv_p70_H41
        have hR : th_RZ a0 G Γ H49 := ⟨hRC, by rw [vs49, vs41, vv_H49_3, vv_H41_3, vv_H49_4, vv_H41_4]; exact ⟨mo_kg_hall hR.2.1 (by omega) (by omega) (q21_0 (by omega)), hR.2.2⟩⟩
        refine lv_aload_n hx hb dX12_hall_50 rfl (lv_at hl 0 rfl) ?_
        refine lv_iload_n hx hb dX12_hall_51 rfl (lv_at hl 1 rfl) ?_
        refine lv_iload_n hx hb dX12_hall_52 rfl (lv_at hl 2 rfl) ?_
        have q9 := ti_mulr (a := p1.toInt) (b := p2.toInt) (A := 12) (B := 12) (by omega) (by omega) (by omega) (by omega)
        generalize hex8 : p1.toInt * p2.toInt = wx8 at q9
        refine tr_imul hx hb dX12_hall_53 (Eq.refl _) (Eq.refl _) (by rw [hex8]; omega) (by rw [hex8]; omega) (fun x8 ex8 => ?_)
        rw [hex8] at ex8
        refine th_call (th_runV (As := [.int x8]) (rest := []) hC mf_X12_settled km_X12_112 im_X12_settled se_X12_settled (c_X12_settled l G Γ H49 hB.1 hR.1 a0 h0 x8) rfl rfl ⟨Nat.le_of_ble_eq_true rfl, Nat.le_of_ble_eq_true rfl⟩ hB.1 h0 ro_46 rfl rfl hl.1 rfl (Nat.le_of_ble_eq_true rfl) dX12_hall_54 ⟨Nat.le_refl _, Nat.le_refl _⟩) hB.2.1 (fun v54 H54 locs hp hz hS => ?_)
        have hRD := hR
        obtain ⟨x10, rfl, q54_0, hI1, hf, hR, z54_0⟩ := hp
        have hR := th_RZ_c hR hRD hI1 h0 hf (by decide)
        have hB := th_B_c hB hI1 hS hf (by decide)
        have mm11 := (th_F_o hf h0 ro_46 (j := 2) (by decide) (by decide)).trans mm7
        have vv_H54_2 : mo_v G H54 a0 2 = mo_v G H49 a0 2 := mo_v_F (r := 48) hB.1 hf h0 rfl ro_48 (by decide) (by decide)
        have vv_H54_3 : mo_v G H54 a0 3 = mo_v G H49 a0 3 := mo_v_F (r := 49) hB.1 hf h0 rfl ro_49 (by decide) (by decide)
        have vv_H54_4 : mo_v G H54 a0 4 = mo_v G H49 a0 4 := mo_v_F (r := 50) hB.1 hf h0 rfl ro_50 (by decide) (by decide)
        have vv_H54_31 : mo_v G H54 a0 31 = mo_v G H49 a0 31 := mo_v_F (r := 61) hB.1 hf h0 rfl ro_61 (by decide) (by decide)
        have tv_p69_H54 : mo_v G H54 a0 2 69 = mo_v G H0 a0 2 69 := (congrFun (mo_v_F (j := 2) (r := 48) hB.1 hf h0 rfl ro_48 (by decide) (by decide)) 69).trans tv_p69_H49
        have tv_p70_H54 : mo_v G H54 a0 2 70 = mo_v G H0 a0 2 70 := (congrFun (mo_v_F (j := 2) (r := 48) hB.1 hf h0 rfl ro_48 (by decide) (by decide)) 70).trans tv_p70_H49
        refine W.eq (g2 := F0 m 57 ls [.int x10]) rfl ?_
        have hR := th_ZN hR z54_0
        exact th_iret hC hH hr hlocks rfl hB.2.1 ⟨_, rfl, hB.1, hB.2.2, hR, tv_p69_H54, tv_p70_H54⟩ dX12_hall_57
      · refine lv_aload_n hx hb dX12_hall_27 rfl (lv_at hl 0 rfl) ?_
        refine lv_bipush (v := (-3)) hx hb dX12_hall_28 (by decide) ?_
        refine th_call (th_runV (As := [.int (-3)]) (rest := []) hC mf_X12_refuses km_X12_109 im_X12_refuses se_X12_refuses (c_X12_refuses l G Γ H0 hB.1 hR.1 a0 h0 (-3) (by decide) (by decide)) rfl rfl ⟨Nat.le_of_ble_eq_true rfl, Nat.le_of_ble_eq_true rfl⟩ hB.1 h0 ro_46 rfl rfl hl.1 rfl (Nat.le_of_ble_eq_true rfl) dX12_hall_30 ⟨Nat.le_refl _, Nat.le_refl _⟩) hB.2.1 (fun v30 H30 locs hp hz hS => ?_)
        have hRD := hR
        obtain ⟨x12, rfl, q30_0, hI1, hf, hR⟩ := hp
        have hR := th_RN_c hR hRD hI1 h0 hf (by decide)
        have hB := th_B_c hB hI1 hS hf (by decide)
        have fv_H30_33 : mo_f G H30 a0 33 = mo_f G H0 a0 33 := mo_f_F hf h0 (by decide) (by decide)
        have vv_H30_2 : mo_v G H30 a0 2 = mo_v G H0 a0 2 := mo_v_F (r := 48) hB.1 hf h0 rfl ro_48 (by decide) (by decide)
        have vv_H30_3 : mo_v G H30 a0 3 = mo_v G H0 a0 3 := mo_v_F (r := 49) hB.1 hf h0 rfl ro_49 (by decide) (by decide)
        have vv_H30_4 : mo_v G H30 a0 4 = mo_v G H0 a0 4 := mo_v_F (r := 50) hB.1 hf h0 rfl ro_50 (by decide) (by decide)
        have vv_H30_31 : mo_v G H30 a0 31 = mo_v G H0 a0 31 := mo_v_F (r := 61) hB.1 hf h0 rfl ro_61 (by decide) (by decide)
        have tv_p69_H30 : mo_v G H30 a0 2 69 = mo_v G H0 a0 2 69 := congrFun (mo_v_F (j := 2) (r := 48) hB.1 hf h0 rfl ro_48 (by decide) (by decide)) 69
        have tv_p70_H30 : mo_v G H30 a0 2 70 = mo_v G H0 a0 2 70 := congrFun (mo_v_F (j := 2) (r := 48) hB.1 hf h0 rfl ro_48 (by decide) (by decide)) 70
        have w30_0 := tk_m3
        refine W.eq (g2 := F0 m 33 ls [.int x12]) rfl ?_
        exact th_iret hC hH hr hlocks rfl hB.2.1 ⟨_, rfl, hB.1, hB.2.2, hR, tv_p69_H30, tv_p70_H30⟩ dX12_hall_33
    · exact jn14 locs ls hB (lv_sub hl [0] rfl)

set_option maxHeartbeats 4000000 in
set_option maxRecDepth 100000 in
theorem c_X12_terms_q (l : Launch) (G : th_G) (Γ : th_Ga) (H0 : Heap) (hI : th_I G Γ H0) (a0 : Nat) (h0 : Γ a0 = (46, 0)) (hR : th_RN a0 G Γ H0) (p1 : Int32) (p2 : Int32) : Met l yX12_terms (.code yX12_terms cX12_terms 4 (some FieldType.int) :: th_tb) ({ frames := 2, cells := 0, slots := 0, locals := 43 } : Room) (th_P [.ref a0, .int p1, .int p2] G H0) (th_Q (fun (v : Option Value) (H1 : Heap) => ∃ r : Int32, v = some (.int r) ∧ th_I G Γ H1 ∧ th_F G Γ [(47, 0), (46, 0), (48, 0), (46, 33)] H0 H1 ∧ th_RN a0 G Γ H1 ∧ (mo_v G H1 a0 2 69 = mo_v G H0 a0 2 69) ∧ (mo_v G H1 a0 2 70 = mo_v G H0 a0 2 70)) G) 0 0 (fun q => G.2.2 ≤ q) := by
  refine th_met RX12 (by decide) rfl (Nat.le_of_ble_eq_true rfl) ?_
  intro p e s m below meth c hC hH hr hlocks hnm ls hl
  have hx := hC.1
  have hb := hC.2.1
  have hB : th_B G Γ Γ [(47, 0), (46, 0), (48, 0), (46, 33)] H0 H0 [] := ⟨hI, va_S.rf, th_F_rf⟩
  have hl : lv_has ls 4 [(0, .ref a0), (1, .int p1), (2, .int p2)] := hl
  have lp1 := ti_lo p1; have up1 := ti_hi p1
  have lp2 := ti_lo p2; have up2 := ti_hi p2
  refine lv_iload_n hx hb dX12_terms_0 rfl (lv_at hl 1 rfl) ?_
  refine lv_iload_n hx hb dX12_terms_1 rfl (lv_at hl 2 rfl) ?_
  refine th_call (th_runS (As := [.int p1, .int p2]) (rest := []) hC mf_X12_isTerm km_X12_162 st_X12_isTerm (c_X12_isTerm l G Γ H0 hB.1 p1 p2) rfl rfl ⟨Nat.le_of_ble_eq_true rfl, Nat.le_of_ble_eq_true rfl⟩ rfl hl.1 rfl (Nat.le_of_ble_eq_true rfl) dX12_terms_2 ⟨Nat.le_refl _, Nat.le_refl _⟩) hB.2.1 (fun v2 H2 locs hp hz hS => ?_)
  obtain ⟨x1, rfl, lx1, ux1, q2_0, rfl⟩ := hp
  have hB := th_B_s hB hS
  refine W.eq (g2 := F0 m 5 ls [.int x1]) rfl ?_
  refine tr_if_ne (tgt := 14) hx hb dX12_terms_5 (by decide) (Eq.refl _) (fun c5 => ?_) (fun c5 => ?_)
  · refine lv_aload_n hx hb dX12_terms_14 rfl (lv_at hl 0 rfl) ?_
    have hR := th_NZ hR
    refine th_getO (j := 2) (r2 := 48) hC cf_X12 hB.1 h0 ro_46 rfl rfl kf_X12_28 dX12_terms_15 (fun b2 mb2 hb2 => ?_)
    refine lv_iload_n hx hb dX12_terms_18 rfl (lv_at hl 1 rfl) ?_
    refine th_call (th_runS (As := [.int p1]) (rest := [.ref b2]) hC mf_X12_termAt km_X12_166 st_X12_termAt (c_X12_termAt l G Γ H0 hB.1 p1) rfl rfl ⟨Nat.le_of_ble_eq_true rfl, Nat.le_of_ble_eq_true rfl⟩ rfl hl.1 rfl (Nat.le_of_ble_eq_true rfl) dX12_terms_19 ⟨Nat.le_refl _, Nat.le_refl _⟩) hB.2.1 (fun v19 H19 locs hp hz hS => ?_)
    obtain ⟨x3, rfl, lx3, ux3, q19_0, rfl⟩ := hp
    have hB := th_B_s hB hS
    refine W.eq (g2 := F0 m 22 ls [.int x3, .ref b2]) rfl ?_
    refine th_ialdF hC hB.1 hb2 ro_48 rfl (Eq.refl _) (by omega) (by omega) (ek_t (by omega) (by omega)) dX12_terms_22 (fun x4 mx4 lx4 ux4 => ?_)
    have vgx4 : mo_v G H0 a0 2 x3.toInt = x4.toInt := by rw [show (x3.toInt : Int) = x3.toInt by omega]; exact mo_vat mb2 mx4 (by omega)
    refine lv_istore_n (lv' := [(3, .int x4), (0, .ref a0), (1, .int p1), (2, .int p2)]) hx hb dX12_terms_23 rfl hl (by decide) rfl (fun ls hl => ?_)
    refine lv_aload_n hx hb dX12_terms_24 rfl (lv_at hl 1 rfl) ?_
    refine th_getK hC cf_X12 hB.1 h0 ro_46 rfl (j := 2) (by decide) mb2 kf_X12_28 dX12_terms_25 ?_
    refine lv_iload_n hx hb dX12_terms_28 rfl (lv_at hl 2 rfl) ?_
    refine th_call (th_runS (As := [.int p1]) (rest := [.ref b2]) hC mf_X12_termAt km_X12_166 st_X12_termAt (c_X12_termAt l G Γ H0 hB.1 p1) rfl rfl ⟨Nat.le_of_ble_eq_true rfl, Nat.le_of_ble_eq_true rfl⟩ rfl hl.1 rfl (Nat.le_of_ble_eq_true rfl) dX12_terms_29 ⟨Nat.le_refl _, Nat.le_refl _⟩) hB.2.1 (fun v29 H29 locs hp hz hS => ?_)
    obtain ⟨x5, rfl, lx5, ux5, q29_0, rfl⟩ := hp
    have hB := th_B_s hB hS
    refine W.eq (g2 := F0 m 32 ls [.int x5, .ref b2]) rfl ?_
    refine lv_iload_n hx hb dX12_terms_32 rfl (lv_at hl 3 rfl) ?_
    refine th_iastF hC hB hb2 (Or.inl hb2) ro_48 rfl (by decide) (Eq.refl _) (by omega) (by omega) (by rw [(ek_t (by omega) (by omega))]; exact th_sIa) dX12_terms_33 (fun H33 locs hB hf33 hst33 => ?_)
    have hf := hf33
    have mm6 := (th_F_o hf h0 ro_46 (j := 2) (by decide) (by decide)).trans mb2
    have hRC := th_RC_F hB.1 hR.1 hf (th_T_s hb2 ro_48 hst33) (by decide)
    have fv_H33_33 : mo_f G H33 a0 33 = mo_f G H0 a0 33 := mo_f_F hf h0 (by decide) (by decide)
    have vv_H33_3 : mo_v G H33 a0 3 = mo_v G H0 a0 3 := mo_v_F (r := 49) hB.1 hf h0 rfl ro_49 (by decide) (by decide)
    have vv_H33_4 : mo_v G H33 a0 4 = mo_v G H0 a0 4 := mo_v_F (r := 50) hB.1 hf h0 rfl ro_50 (by decide) (by decide)
    have vv_H33_31 : mo_v G H33 a0 31 = mo_v G H0 a0 31 := mo_v_F (r := 61) hB.1 hf h0 rfl ro_61 (by decide) (by decide)
    have vs33 : mo_v G H33 a0 2 = mo_u (mo_v G H0 a0 2) x5.toInt p2.toInt := by rw [show (x5.toInt : Int) = x5.toInt by omega]; exact mo_v_st h0 hb2 (by decide) mb2 hst33 (by omega)
    have tv_p69_H33 : mo_v G H33 a0 2 69 = mo_v G H0 a0 2 69 := by rw [vs33, mo_un (by omega)]
    have tv_p70_H33 : mo_v G H33 a0 2 70 = mo_v G H0 a0 2 70 := by rw [vs33, mo_un (by omega)]
    have hR : th_RZ a0 G Γ H33 := ⟨hRC, by rw [vs33, vv_H33_3, vv_H33_4]; exact ⟨(fun q9 => mo_kg_gx q9 (mo_gx_u (by omega)) (mo_lw_u q9.1 (by omega))) hR.2.1, hR.2.2⟩⟩
    refine lv_aload_n hx hb dX12_terms_34 rfl (lv_at hl 1 rfl) ?_
    refine lv_iload_n hx hb dX12_terms_35 rfl (lv_at hl 0 rfl) ?_
    refine th_call (th_runV (As := [.int x4]) (rest := []) hC mf_X12_settled km_X12_112 im_X12_settled se_X12_settled (c_X12_settled l G Γ H33 hB.1 hR.1 a0 h0 x4) rfl rfl ⟨Nat.le_of_ble_eq_true rfl, Nat.le_of_ble_eq_true rfl⟩ hB.1 h0 ro_46 rfl rfl hl.1 rfl (Nat.le_of_ble_eq_true rfl) dX12_terms_36 ⟨Nat.le_refl _, Nat.le_refl _⟩) hB.2.1 (fun v36 H36 locs hp hz hS => ?_)
    have hRD := hR
    obtain ⟨x7, rfl, q36_0, hI1, hf, hR, z36_0⟩ := hp
    have hR := th_RZ_c hR hRD hI1 h0 hf (by decide)
    have hB := th_B_c hB hI1 hS hf (by decide)
    have mm8 := (th_F_o hf h0 ro_46 (j := 2) (by decide) (by decide)).trans mm6
    have vv_H36_2 : mo_v G H36 a0 2 = mo_v G H33 a0 2 := mo_v_F (r := 48) hB.1 hf h0 rfl ro_48 (by decide) (by decide)
    have vv_H36_3 : mo_v G H36 a0 3 = mo_v G H33 a0 3 := mo_v_F (r := 49) hB.1 hf h0 rfl ro_49 (by decide) (by decide)
    have vv_H36_4 : mo_v G H36 a0 4 = mo_v G H33 a0 4 := mo_v_F (r := 50) hB.1 hf h0 rfl ro_50 (by decide) (by decide)
    have vv_H36_31 : mo_v G H36 a0 31 = mo_v G H33 a0 31 := mo_v_F (r := 61) hB.1 hf h0 rfl ro_61 (by decide) (by decide)
    have tv_p69_H36 : mo_v G H36 a0 2 69 = mo_v G H0 a0 2 69 := (congrFun (mo_v_F (j := 2) (r := 48) hB.1 hf h0 rfl ro_48 (by decide) (by decide)) 69).trans tv_p69_H33
    have tv_p70_H36 : mo_v G H36 a0 2 70 = mo_v G H0 a0 2 70 := (congrFun (mo_v_F (j := 2) (r := 48) hB.1 hf h0 rfl ro_48 (by decide) (by decide)) 70).trans tv_p70_H33
    refine W.eq (g2 := F0 m 39 ls [.int x7]) rfl ?_
    have hR := th_ZN hR z36_0
    exact th_iret hC hH hr hlocks rfl hB.2.1 ⟨_, rfl, hB.1, hB.2.2, hR, tv_p69_H36, tv_p70_H36⟩ dX12_terms_39
  · refine lv_aload_n hx hb dX12_terms_8 rfl (lv_at hl 0 rfl) ?_
    refine lv_iconst (v := (-1)) hx hb dX12_terms_9 (by decide) ?_
    refine th_call (th_runV (As := [.int (-1)]) (rest := []) hC mf_X12_refuses km_X12_109 im_X12_refuses se_X12_refuses (c_X12_refuses l G Γ H0 hB.1 hR.1 a0 h0 (-1) (by decide) (by decide)) rfl rfl ⟨Nat.le_of_ble_eq_true rfl, Nat.le_of_ble_eq_true rfl⟩ hB.1 h0 ro_46 rfl rfl hl.1 rfl (Nat.le_of_ble_eq_true rfl) dX12_terms_10 ⟨Nat.le_refl _, Nat.le_refl _⟩) hB.2.1 (fun v10 H10 locs hp hz hS => ?_)
    have hRD := hR
    obtain ⟨x9, rfl, q10_0, hI1, hf, hR⟩ := hp
    have hR := th_RN_c hR hRD hI1 h0 hf (by decide)
    have hB := th_B_c hB hI1 hS hf (by decide)
    have fv_H10_33 : mo_f G H10 a0 33 = mo_f G H0 a0 33 := mo_f_F hf h0 (by decide) (by decide)
    have vv_H10_2 : mo_v G H10 a0 2 = mo_v G H0 a0 2 := mo_v_F (r := 48) hB.1 hf h0 rfl ro_48 (by decide) (by decide)
    have vv_H10_3 : mo_v G H10 a0 3 = mo_v G H0 a0 3 := mo_v_F (r := 49) hB.1 hf h0 rfl ro_49 (by decide) (by decide)
    have vv_H10_4 : mo_v G H10 a0 4 = mo_v G H0 a0 4 := mo_v_F (r := 50) hB.1 hf h0 rfl ro_50 (by decide) (by decide)
    have vv_H10_31 : mo_v G H10 a0 31 = mo_v G H0 a0 31 := mo_v_F (r := 61) hB.1 hf h0 rfl ro_61 (by decide) (by decide)
    have tv_p69_H10 : mo_v G H10 a0 2 69 = mo_v G H0 a0 2 69 := congrFun (mo_v_F (j := 2) (r := 48) hB.1 hf h0 rfl ro_48 (by decide) (by decide)) 69
    have tv_p70_H10 : mo_v G H10 a0 2 70 = mo_v G H0 a0 2 70 := congrFun (mo_v_F (j := 2) (r := 48) hB.1 hf h0 rfl ro_48 (by decide) (by decide)) 70
    have w10_0 := tk_m1
    refine W.eq (g2 := F0 m 13 ls [.int x9]) rfl ?_
    exact th_iret hC hH hr hlocks rfl hB.2.1 ⟨_, rfl, hB.1, hB.2.2, hR, tv_p69_H10, tv_p70_H10⟩ dX12_terms_13

set_option maxHeartbeats 4000000 in
set_option maxRecDepth 100000 in
theorem c_X12_row_q (l : Launch) (G : th_G) (Γ : th_Ga) (H0 : Heap) (hI : th_I G Γ H0) (a0 : Nat) (h0 : Γ a0 = (46, 0)) (hR : th_RN a0 G Γ H0) : Met l yX12_row (.code yX12_row cX12_row 5 (some FieldType.int) :: th_tb) ({ frames := 3, cells := 0, slots := 0, locals := 64 } : Room) (th_P [.ref a0] G H0) (th_Q (fun (v : Option Value) (H1 : Heap) => ∃ r : Int32, v = some (.int r) ∧ th_I G Γ H1 ∧ th_F G Γ [(47, 0), (46, 0), (48, 0), (46, 33), (46, 6), (46, 13)] H0 H1 ∧ th_RN a0 G Γ H1 ∧ (mo_v G H1 a0 2 70 = mo_v G H0 a0 2 70)) G) 0 0 (fun q => G.2.2 ≤ q) := by
  refine th_met RX12 (by decide) rfl (Nat.le_of_ble_eq_true rfl) ?_
  intro p e s m below meth c hC hH hr hlocks hnm ls hl
  have hx := hC.1
  have hb := hC.2.1
  have hB : th_B G Γ Γ [(47, 0), (46, 0), (48, 0), (46, 33), (46, 6), (46, 13)] H0 H0 [] := ⟨hI, va_S.rf, th_F_rf⟩
  have hl : lv_has ls 5 [(0, .ref a0)] := hl
  refine lv_aload_n hx hb dX12_row_0 rfl (lv_at hl 0 rfl) ?_
  refine th_getI (j := 13) hC cf_X12 hB.1 h0 ro_46 rfl rfl kf_X12_169 dX12_row_1 (fun x1 mx1 lx1 ux1 => ?_)
  refine lv_istore_n (lv' := [(1, .int x1), (0, .ref a0)]) hx hb dX12_row_4 rfl hl (by decide) rfl (fun ls hl => ?_)
  refine lv_aload_n hx hb dX12_row_5 rfl (lv_at hl 1 rfl) ?_
  refine lv_iconst (v := 0) hx hb dX12_row_6 (by decide) ?_
  refine th_put hC cf_X12 hB h0 (Or.inl h0) ro_46 rfl (j := 13) rfl (th_sI (by decide) (by decide)) (by decide) rfl rfl rfl kf_X12_169 dX12_row_7 (fun H7 locs hB hf hst7 => ?_)
  have hR := th_RN_F hB.1 hR h0 hf (th_T_s h0 ro_46 hst7) (by decide)
  have fv_H7_33 : mo_f G H7 a0 33 = mo_f G H0 a0 33 := mo_f_F hf h0 (by decide) (by decide)
  have vv_H7_2 : mo_v G H7 a0 2 = mo_v G H0 a0 2 := mo_v_F (r := 48) hB.1 hf h0 rfl ro_48 (by decide) (by decide)
  have vv_H7_3 : mo_v G H7 a0 3 = mo_v G H0 a0 3 := mo_v_F (r := 49) hB.1 hf h0 rfl ro_49 (by decide) (by decide)
  have vv_H7_4 : mo_v G H7 a0 4 = mo_v G H0 a0 4 := mo_v_F (r := 50) hB.1 hf h0 rfl ro_50 (by decide) (by decide)
  have vv_H7_31 : mo_v G H7 a0 31 = mo_v G H0 a0 31 := mo_v_F (r := 61) hB.1 hf h0 rfl ro_61 (by decide) (by decide)
  have tv_p70_H7 : mo_v G H7 a0 2 70 = mo_v G H0 a0 2 70 := congrFun (mo_v_F (j := 2) (r := 48) hB.1 hf h0 rfl ro_48 (by decide) (by decide)) 70
  refine lv_iload_n hx hb dX12_row_10 rfl (lv_at hl 0 rfl) ?_
  refine tr_if_ne (tgt := 21) hx hb dX12_row_11 (by decide) (Eq.refl _) (fun c11 => ?_) (fun c11 => ?_)
  · refine lv_iconst (v := 0) hx hb dX12_row_21 (by decide) ?_
    have hR := th_NZ hR
    refine lv_istore_n (lv' := [(2, .int 0), (1, .int x1), (0, .ref a0)]) hx hb dX12_row_22 rfl hl (by decide) rfl (fun ls hl => ?_)
    refine lv_aload_n hx hb dX12_row_23 rfl (lv_at hl 2 rfl) ?_
    refine lv_iload_n hx hb dX12_row_24 rfl (lv_at hl 1 rfl) ?_
    refine lv_iconst (v := 3) hx hb dX12_row_25 (by decide) ?_
    refine tr_irem hx hb dX12_row_26 (Eq.refl _) tk_3 (by omega) (by omega) (fun x2 ex2 => ?_)
    have jn35 : ∀ (locs : List Loc) (ls : Array Slot) (s35_1 : Int32), th_B G Γ Γ [(47, 0), (46, 0), (48, 0), (46, 33), (46, 6), (46, 13)] H0 H7 locs → lv_has ls 5 [(2, .int 0), (1, .int x1), (0, .ref a0)] → 0 ≤ s35_1.toInt → s35_1.toInt ≤ 1 → W p l e ({ frames := 3, cells := 0, slots := 0, locals := 64 } : Room) s m ([.ref a0] : List Value).toArray below meth c H7 locs 0 0 (MQ below (th_Q (fun (v : Option Value) (H1 : Heap) => ∃ r : Int32, v = some (.int r) ∧ th_I G Γ H1 ∧ th_F G Γ [(47, 0), (46, 0), (48, 0), (46, 33), (46, 6), (46, 13)] H0 H1 ∧ th_RN a0 G Γ H1 ∧ (mo_v G H1 a0 2 70 = mo_v G H0 a0 2 70)) G) ([.ref a0] : List Value).toArray s 0 0 (fun q => G.2.2 ≤ q)) (F0 m 35 ls [.int s35_1, .ref a0]) := by
      intro locs ls s35_1 hB hl g35_0 g35_1
      have ls35_1 := ti_lo s35_1; have us35_1 := ti_hi s35_1
      refine th_put hC cf_X12 hB h0 (Or.inl h0) ro_46 rfl (j := 6) rfl th_sIa (by decide) rfl rfl rfl kf_X12_172 dX12_row_35 (fun H35 locs hB hf hst35 => ?_)
      have hR := th_RZ_F hB.1 hR h0 hf (th_T_s h0 ro_46 hst35) (by decide)
      have fv_H35_33 : mo_f G H35 a0 33 = mo_f G H7 a0 33 := mo_f_F hf h0 (by decide) (by decide)
      have vv_H35_2 : mo_v G H35 a0 2 = mo_v G H7 a0 2 := mo_v_F (r := 48) hB.1 hf h0 rfl ro_48 (by decide) (by decide)
      have vv_H35_3 : mo_v G H35 a0 3 = mo_v G H7 a0 3 := mo_v_F (r := 49) hB.1 hf h0 rfl ro_49 (by decide) (by decide)
      have vv_H35_4 : mo_v G H35 a0 4 = mo_v G H7 a0 4 := mo_v_F (r := 50) hB.1 hf h0 rfl ro_50 (by decide) (by decide)
      have vv_H35_31 : mo_v G H35 a0 31 = mo_v G H7 a0 31 := mo_v_F (r := 61) hB.1 hf h0 rfl ro_61 (by decide) (by decide)
      have tv_p70_H35 : mo_v G H35 a0 2 70 = mo_v G H0 a0 2 70 := (congrFun (mo_v_F (j := 2) (r := 48) hB.1 hf h0 rfl ro_48 (by decide) (by decide)) 70).trans tv_p70_H7
      have mm3 := hst35.2.1
      refine lv_iconst (v := 0) hx hb dX12_row_38 (by decide) ?_
      refine lv_istore_n (lv' := [(3, .int 0), (2, .int 0), (1, .int x1), (0, .ref a0)]) hx hb dX12_row_39 rfl hl (by decide) rfl (fun ls hl => ?_)
      have lp40 : ∀ (n40 : Nat) (H40 : Heap) (locs : List Loc) (ls : Array Slot) (j40_2 : Int32) (j40_3 : Int32), th_B G Γ Γ [(47, 0), (46, 0), (48, 0), (46, 33), (46, 6), (46, 13)] H0 H40 locs → th_RZ a0 G Γ H40 → lv_has ls 5 [(1, .int x1), (0, .ref a0), (2, .int j40_2), (3, .int j40_3)] → 0 ≤ j40_3.toInt → j40_3.toInt ≤ 400 → mo_v G H40 a0 2 70 = mo_v G H0 a0 2 70 → (2147483648 : Int) - j40_3.toInt ≤ (n40 : Int) → W p l e ({ frames := 3, cells := 0, slots := 0, locals := 64 } : Room) s m ([.ref a0] : List Value).toArray below meth c H40 locs 0 0 (MQ below (th_Q (fun (v : Option Value) (H1 : Heap) => ∃ r : Int32, v = some (.int r) ∧ th_I G Γ H1 ∧ th_F G Γ [(47, 0), (46, 0), (48, 0), (46, 33), (46, 6), (46, 13)] H0 H1 ∧ th_RN a0 G Γ H1 ∧ (mo_v G H1 a0 2 70 = mo_v G H0 a0 2 70)) G) ([.ref a0] : List Value).toArray s 0 0 (fun q => G.2.2 ≤ q)) (F0 m 40 ls []) := by
        intro n40
        induction n40 with
        | zero => intro H40 locs ls j40_2 j40_3 hB hR hl g40_0 g40_1 g40_2 hm40; exact absurd hm40 (by have := ti_hi j40_3; omega)
        | succ n40 ih40 =>
          intro H40 locs ls j40_2 j40_3 hB hR hl g40_0 g40_1 g40_2 hm40
          have lj40_2 := ti_lo j40_2; have uj40_2 := ti_hi j40_2
          have lj40_3 := ti_lo j40_3; have uj40_3 := ti_hi j40_3
          have vw_H40_3 : mo_v G H40 a0 3 = mo_v G H0 a0 3 := mo_v_F (r := 49) hB.1 hB.2.2 h0 rfl ro_49 (by decide) (by decide)
          have vw_H40_4 : mo_v G H40 a0 4 = mo_v G H0 a0 4 := mo_v_F (r := 50) hB.1 hB.2.2 h0 rfl ro_50 (by decide) (by decide)
          have vw_H40_31 : mo_v G H40 a0 31 = mo_v G H0 a0 31 := mo_v_F (r := 61) hB.1 hB.2.2 h0 rfl ro_61 (by decide) (by decide)
          have hm40 : (2147483648 : Int) - j40_3.toInt ≤ (n40 : Int) + 1 := by omega
          refine lv_iload_n hx hb dX12_row_40 rfl (lv_at hl 3 rfl) ?_
          refine lv_iconst (v := 3) hx hb dX12_row_41 (by decide) ?_
          refine tr_iadd hx hb dX12_row_42 (Eq.refl _) tk_3 (by omega) (by omega) (fun x4 ex4 => ?_)
          refine lv_iload_n hx hb dX12_row_43 rfl (lv_at hl 0 rfl) ?_
          refine tr_icmp_gt (tgt := 160) hx hb dX12_row_44 (by decide) (Eq.refl _) (Eq.refl _) (fun c44 => ?_) (fun c44 => ?_)
          · refine lv_aload_n hx hb dX12_row_160 rfl (lv_at hl 1 rfl) ?_
            refine lv_iload_n hx hb dX12_row_161 rfl (lv_at hl 2 rfl) ?_
            refine th_call (th_runV (As := [.int j40_2]) (rest := []) hC mf_X12_settled km_X12_112 im_X12_settled se_X12_settled (c_X12_settled l G Γ H40 hB.1 hR.1 a0 h0 j40_2) rfl rfl ⟨Nat.le_of_ble_eq_true rfl, Nat.le_of_ble_eq_true rfl⟩ hB.1 h0 ro_46 rfl rfl hl.1 rfl (Nat.le_of_ble_eq_true rfl) dX12_row_162 ⟨Nat.le_refl _, Nat.le_refl _⟩) hB.2.1 (fun v162 H162 locs hp hz hS => ?_)
            have hRD := hR
            obtain ⟨x5, rfl, q162_0, hI1, hf, hR, z162_0⟩ := hp
            have hR := th_RZ_c hR hRD hI1 h0 hf (by decide)
            have hB := th_B_c hB hI1 hS hf (by decide)
            have vv_H162_2 : mo_v G H162 a0 2 = mo_v G H40 a0 2 := mo_v_F (r := 48) hB.1 hf h0 rfl ro_48 (by decide) (by decide)
            have vv_H162_3 : mo_v G H162 a0 3 = mo_v G H40 a0 3 := mo_v_F (r := 49) hB.1 hf h0 rfl ro_49 (by decide) (by decide)
            have vv_H162_4 : mo_v G H162 a0 4 = mo_v G H40 a0 4 := mo_v_F (r := 50) hB.1 hf h0 rfl ro_50 (by decide) (by decide)
            have vv_H162_31 : mo_v G H162 a0 31 = mo_v G H40 a0 31 := mo_v_F (r := 61) hB.1 hf h0 rfl ro_61 (by decide) (by decide)
            have tv_p70_H162 : mo_v G H162 a0 2 70 = mo_v G H0 a0 2 70 := (congrFun (mo_v_F (j := 2) (r := 48) hB.1 hf h0 rfl ro_48 (by decide) (by decide)) 70).trans g40_2
            refine W.eq (g2 := F0 m 165 ls [.int x5]) rfl ?_
            have hR := th_ZN hR z162_0
            exact th_iret hC hH hr hlocks rfl hB.2.1 ⟨_, rfl, hB.1, hB.2.2, hR, tv_p70_H162⟩ dX12_row_165
          · refine lv_aload_n hx hb dX12_row_47 rfl (lv_at hl 1 rfl) ?_
            refine th_call (th_runV (As := []) (rest := []) hC mf_X12_many km_X12_115 im_X12_many se_X12_many (c_X12_many l G Γ H40 hB.1 a0 h0) rfl rfl ⟨Nat.le_of_ble_eq_true rfl, Nat.le_of_ble_eq_true rfl⟩ hB.1 h0 ro_46 rfl rfl hl.1 rfl (Nat.le_of_ble_eq_true rfl) dX12_row_48 ⟨Nat.le_refl _, Nat.le_refl _⟩) hB.2.1 (fun v48 H48 locs hp hz hS => ?_)
            obtain ⟨x6, rfl, lx6, ux6, q48_0, rfl⟩ := hp
            have hB := th_B_s hB hS
            refine W.eq (g2 := F0 m 51 ls [.int x6]) rfl ?_
            refine lv_bipush (v := 9) hx hb dX12_row_51 (by decide) ?_
            refine tr_icmp_ge (tgt := 88) hx hb dX12_row_53 (by decide) (Eq.refl _) tk_9 (fun c53 => ?_) (fun c53 => ?_)
            · refine lv_iconst (v := 0) hx hb dX12_row_88 (by decide) ?_
              refine lv_istore (lv' := [(4, .int 0), (1, .int x1), (0, .ref a0), (2, .int j40_2), (3, .int j40_3)]) hx hb dX12_row_89 hl (by decide) rfl (fun ls hl => ?_)
              refine lv_iload hx hb dX12_row_91 (lv_at hl 0 rfl) ?_
              have jn122 : ∀ (H122 : Heap) (locs : List Loc) (ls : Array Slot) , th_B G Γ Γ [(47, 0), (46, 0), (48, 0), (46, 33), (46, 6), (46, 13)] H0 H122 locs → th_RZ a0 G Γ H122 → lv_has ls 5 [(4, .int 0), (1, .int x1), (0, .ref a0), (2, .int j40_2), (3, .int j40_3)] → mo_v G H122 a0 2 70 = mo_v G H0 a0 2 70 → W p l e ({ frames := 3, cells := 0, slots := 0, locals := 64 } : Room) s m ([.ref a0] : List Value).toArray below meth c H122 locs 0 0 (MQ below (th_Q (fun (v : Option Value) (H1 : Heap) => ∃ r : Int32, v = some (.int r) ∧ th_I G Γ H1 ∧ th_F G Γ [(47, 0), (46, 0), (48, 0), (46, 33), (46, 6), (46, 13)] H0 H1 ∧ th_RN a0 G Γ H1 ∧ (mo_v G H1 a0 2 70 = mo_v G H0 a0 2 70)) G) ([.ref a0] : List Value).toArray s 0 0 (fun q => G.2.2 ≤ q)) (F0 m 122 ls []) := by
                intro H122 locs ls hB hR hl g122_0
                have vw_H122_3 : mo_v G H122 a0 3 = mo_v G H0 a0 3 := mo_v_F (r := 49) hB.1 hB.2.2 h0 rfl ro_49 (by decide) (by decide)
                have vw_H122_4 : mo_v G H122 a0 4 = mo_v G H0 a0 4 := mo_v_F (r := 50) hB.1 hB.2.2 h0 rfl ro_50 (by decide) (by decide)
                have vw_H122_31 : mo_v G H122 a0 31 = mo_v G H0 a0 31 := mo_v_F (r := 61) hB.1 hB.2.2 h0 rfl ro_61 (by decide) (by decide)
                refine lv_iload_n hx hb dX12_row_122 rfl (lv_at hl 3 rfl) ?_
                refine lv_iload hx hb dX12_row_123 (lv_at hl 0 rfl) ?_
                refine tr_if_eq (tgt := 132) hx hb dX12_row_125 (by decide) tk_0 (fun c125 => ?_) (fun c125 => ?_)
                · refine lv_iconst (v := 0) hx hb dX12_row_132 (by decide) ?_
                  refine tr_iadd hx hb dX12_row_133 (Eq.refl _) tk_0 (by omega) (by omega) (fun x7 ex7 => ?_)
                  refine lv_istore_n (lv' := [(2, .int x7), (4, .int 0), (1, .int x1), (0, .ref a0), (3, .int j40_3)]) hx hb dX12_row_134 rfl hl (by decide) rfl (fun ls hl => ?_)
                  refine lv_aload_n hx hb dX12_row_135 rfl (lv_at hl 3 rfl) ?_
                  refine lv_dup hx hb dX12_row_136 rfl ?_
                  refine th_getI (j := 6) hC cf_X12 hB.1 h0 ro_46 rfl rfl kf_X12_172 dX12_row_137 (fun x8 mx8 lx8 ux8 => ?_)
                  refine lv_iload hx hb dX12_row_140 (lv_at hl 1 rfl) ?_
                  refine tr_if_eq (tgt := 149) hx hb dX12_row_142 (by decide) tk_0 (fun c142 => ?_) (fun c142 => ?_)
                  · refine lv_iconst (v := 1) hx hb dX12_row_149 (by decide) ?_
                    refine lv_iadd hx hb dX12_row_150 ?_
                    refine lv_topi (fun x9 ex9 => ?_)
                    have lx9 := ti_lo x9; have ux9 := ti_hi x9
                    refine th_put hC cf_X12 hB h0 (Or.inl h0) ro_46 rfl (j := 6) rfl th_sIa (by decide) rfl rfl rfl kf_X12_172 dX12_row_151 (fun H151 locs hB hf hst151 => ?_)
                    have hR := th_RZ_F hB.1 hR h0 hf (th_T_s h0 ro_46 hst151) (by decide)
                    have fv_H151_33 : mo_f G H151 a0 33 = mo_f G H122 a0 33 := mo_f_F hf h0 (by decide) (by decide)
                    have vv_H151_2 : mo_v G H151 a0 2 = mo_v G H122 a0 2 := mo_v_F (r := 48) hB.1 hf h0 rfl ro_48 (by decide) (by decide)
                    have vv_H151_3 : mo_v G H151 a0 3 = mo_v G H122 a0 3 := mo_v_F (r := 49) hB.1 hf h0 rfl ro_49 (by decide) (by decide)
                    have vv_H151_4 : mo_v G H151 a0 4 = mo_v G H122 a0 4 := mo_v_F (r := 50) hB.1 hf h0 rfl ro_50 (by decide) (by decide)
                    have vv_H151_31 : mo_v G H151 a0 31 = mo_v G H122 a0 31 := mo_v_F (r := 61) hB.1 hf h0 rfl ro_61 (by decide) (by decide)
                    have tv_p70_H151 : mo_v G H151 a0 2 70 = mo_v G H0 a0 2 70 := (congrFun (mo_v_F (j := 2) (r := 48) hB.1 hf h0 rfl ro_48 (by decide) (by decide)) 70).trans g122_0
                    have mm10 := hst151.2.1
                    refine tr_iinc (fun x11 => [(3, .int x11), (2, .int x7), (4, .int 0), (1, .int x1), (0, .ref a0)]) hx hb dX12_row_154 hl (k := 4) rfl (Eq.refl _) tk_3 (by omega) (by omega) (by decide) (fun _ => rfl) (fun x11 ls ex11 hl => ?_)
                    refine lv_goto (tgt := 40) hx hb dX12_row_157 (by decide) ?_
                    exact ih40 H151 locs ls x7 x11 hB hR (lv_sub hl [3, 4, 1, 0] rfl) (by omega) (by omega) tv_p70_H151 (by omega)
                  · exfalso; omega
                · exfalso; omega
              refine tr_if_eq (tgt := 122) hx hb dX12_row_93 (by decide) tk_0 (fun c93 => ?_) (fun c93 => ?_)
              · exact jn122 H40 locs ls hB hR (lv_sub hl [0, 1, 2, 3, 4] rfl) g40_2
              · exfalso; omega
            · refine lv_aload_n hx hb dX12_row_56 rfl (lv_at hl 1 rfl) ?_
              refine th_getO (j := 11) (r2 := 53) hC cf_X12 hB.1 h0 ro_46 rfl rfl kf_X12_45 dX12_row_57 (fun b12 mb12 hb12 => ?_)
              have sb12 := (th_F_o hB.2.2 h0 ro_46 (j := 11) (by decide) (by decide)).symm.trans mb12
              refine lv_iload_n hx hb dX12_row_60 rfl (lv_at hl 3 rfl) ?_
              refine th_baldF hC hB.1 hb12 ro_53 rfl (Eq.refl _) (by omega) (by omega) rfl dX12_row_61 (fun x13 mx13 lx13 ux13 => ?_)
              refine lv_aload_n hx hb dX12_row_62 rfl (lv_at hl 1 rfl) ?_
              refine th_getK hC cf_X12 hB.1 h0 ro_46 rfl (j := 11) (by decide) mb12 kf_X12_45 dX12_row_63 ?_
              refine lv_iload_n hx hb dX12_row_66 rfl (lv_at hl 3 rfl) ?_
              refine lv_iconst (v := 1) hx hb dX12_row_67 (by decide) ?_
              refine tr_iadd hx hb dX12_row_68 (Eq.refl _) tk_1 (by omega) (by omega) (fun x14 ex14 => ?_)
              refine th_baldF hC hB.1 hb12 ro_53 rfl (Eq.refl _) (by omega) (by omega) rfl dX12_row_69 (fun x15 mx15 lx15 ux15 => ?_)
              refine lv_aload_n hx hb dX12_row_70 rfl (lv_at hl 1 rfl) ?_
              refine th_getK hC cf_X12 hB.1 h0 ro_46 rfl (j := 11) (by decide) mb12 kf_X12_45 dX12_row_71 ?_
              refine lv_iload_n hx hb dX12_row_74 rfl (lv_at hl 3 rfl) ?_
              refine lv_iconst (v := 2) hx hb dX12_row_75 (by decide) ?_
              refine tr_iadd hx hb dX12_row_76 (Eq.refl _) tk_2 (by omega) (by omega) (fun x16 ex16 => ?_)
              refine th_baldF hC hB.1 hb12 ro_53 rfl (Eq.refl _) (by omega) (by omega) rfl dX12_row_77 (fun x17 mx17 lx17 ux17 => ?_)
              refine th_call (th_runS (As := [.int x13, .int x15, .int x17]) (rest := []) hC mf_X12_canBe km_X12_127 st_X12_canBe (c_X12_canBe l G Γ H40 hB.1 x13 x15 x17) rfl rfl ⟨Nat.le_of_ble_eq_true rfl, Nat.le_of_ble_eq_true rfl⟩ rfl hl.1 rfl (Nat.le_of_ble_eq_true rfl) dX12_row_78 ⟨Nat.le_refl _, Nat.le_refl _⟩) hB.2.1 (fun v78 H78 locs hp hz hS => ?_)
              obtain ⟨x18, rfl, lx18, ux18, q78_0, rfl⟩ := hp
              have hB := th_B_s hB hS
              refine W.eq (g2 := F0 m 81 ls [.int x18]) rfl ?_
              refine tr_if_eq (tgt := 88) hx hb dX12_row_81 (by decide) (Eq.refl _) (fun c81 => ?_) (fun c81 => ?_)
              · refine lv_iconst (v := 0) hx hb dX12_row_88 (by decide) ?_
                refine lv_istore (lv' := [(4, .int 0), (1, .int x1), (0, .ref a0), (2, .int j40_2), (3, .int j40_3)]) hx hb dX12_row_89 hl (by decide) rfl (fun ls hl => ?_)
                refine lv_iload hx hb dX12_row_91 (lv_at hl 0 rfl) ?_
                have jn122 : ∀ (H122 : Heap) (locs : List Loc) (ls : Array Slot) , th_B G Γ Γ [(47, 0), (46, 0), (48, 0), (46, 33), (46, 6), (46, 13)] H0 H122 locs → th_RZ a0 G Γ H122 → lv_has ls 5 [(4, .int 0), (1, .int x1), (0, .ref a0), (2, .int j40_2), (3, .int j40_3)] → mo_v G H122 a0 2 70 = mo_v G H0 a0 2 70 → W p l e ({ frames := 3, cells := 0, slots := 0, locals := 64 } : Room) s m ([.ref a0] : List Value).toArray below meth c H122 locs 0 0 (MQ below (th_Q (fun (v : Option Value) (H1 : Heap) => ∃ r : Int32, v = some (.int r) ∧ th_I G Γ H1 ∧ th_F G Γ [(47, 0), (46, 0), (48, 0), (46, 33), (46, 6), (46, 13)] H0 H1 ∧ th_RN a0 G Γ H1 ∧ (mo_v G H1 a0 2 70 = mo_v G H0 a0 2 70)) G) ([.ref a0] : List Value).toArray s 0 0 (fun q => G.2.2 ≤ q)) (F0 m 122 ls []) := by
                  intro H122 locs ls hB hR hl g122_0
                  have mm19 := (th_F_o hB.2.2 h0 ro_46 (j := 11) (by decide) (by decide)).trans sb12
                  have vw_H122_3 : mo_v G H122 a0 3 = mo_v G H0 a0 3 := mo_v_F (r := 49) hB.1 hB.2.2 h0 rfl ro_49 (by decide) (by decide)
                  have vw_H122_4 : mo_v G H122 a0 4 = mo_v G H0 a0 4 := mo_v_F (r := 50) hB.1 hB.2.2 h0 rfl ro_50 (by decide) (by decide)
                  have vw_H122_31 : mo_v G H122 a0 31 = mo_v G H0 a0 31 := mo_v_F (r := 61) hB.1 hB.2.2 h0 rfl ro_61 (by decide) (by decide)
                  refine lv_iload_n hx hb dX12_row_122 rfl (lv_at hl 3 rfl) ?_
                  refine lv_iload hx hb dX12_row_123 (lv_at hl 0 rfl) ?_
                  refine tr_if_eq (tgt := 132) hx hb dX12_row_125 (by decide) tk_0 (fun c125 => ?_) (fun c125 => ?_)
                  · refine lv_iconst (v := 0) hx hb dX12_row_132 (by decide) ?_
                    refine tr_iadd hx hb dX12_row_133 (Eq.refl _) tk_0 (by omega) (by omega) (fun x20 ex20 => ?_)
                    refine lv_istore_n (lv' := [(2, .int x20), (4, .int 0), (1, .int x1), (0, .ref a0), (3, .int j40_3)]) hx hb dX12_row_134 rfl hl (by decide) rfl (fun ls hl => ?_)
                    refine lv_aload_n hx hb dX12_row_135 rfl (lv_at hl 3 rfl) ?_
                    refine lv_dup hx hb dX12_row_136 rfl ?_
                    refine th_getI (j := 6) hC cf_X12 hB.1 h0 ro_46 rfl rfl kf_X12_172 dX12_row_137 (fun x21 mx21 lx21 ux21 => ?_)
                    refine lv_iload hx hb dX12_row_140 (lv_at hl 1 rfl) ?_
                    refine tr_if_eq (tgt := 149) hx hb dX12_row_142 (by decide) tk_0 (fun c142 => ?_) (fun c142 => ?_)
                    · refine lv_iconst (v := 1) hx hb dX12_row_149 (by decide) ?_
                      refine lv_iadd hx hb dX12_row_150 ?_
                      refine lv_topi (fun x22 ex22 => ?_)
                      have lx22 := ti_lo x22; have ux22 := ti_hi x22
                      refine th_put hC cf_X12 hB h0 (Or.inl h0) ro_46 rfl (j := 6) rfl th_sIa (by decide) rfl rfl rfl kf_X12_172 dX12_row_151 (fun H151 locs hB hf hst151 => ?_)
                      have mm23 := (th_F_o hf h0 ro_46 (j := 11) (by decide) (by decide)).trans mm19
                      have hR := th_RZ_F hB.1 hR h0 hf (th_T_s h0 ro_46 hst151) (by decide)
                      have fv_H151_33 : mo_f G H151 a0 33 = mo_f G H122 a0 33 := mo_f_F hf h0 (by decide) (by decide)
                      have vv_H151_2 : mo_v G H151 a0 2 = mo_v G H122 a0 2 := mo_v_F (r := 48) hB.1 hf h0 rfl ro_48 (by decide) (by decide)
                      have vv_H151_3 : mo_v G H151 a0 3 = mo_v G H122 a0 3 := mo_v_F (r := 49) hB.1 hf h0 rfl ro_49 (by decide) (by decide)
                      have vv_H151_4 : mo_v G H151 a0 4 = mo_v G H122 a0 4 := mo_v_F (r := 50) hB.1 hf h0 rfl ro_50 (by decide) (by decide)
                      have vv_H151_31 : mo_v G H151 a0 31 = mo_v G H122 a0 31 := mo_v_F (r := 61) hB.1 hf h0 rfl ro_61 (by decide) (by decide)
                      have tv_p70_H151 : mo_v G H151 a0 2 70 = mo_v G H0 a0 2 70 := (congrFun (mo_v_F (j := 2) (r := 48) hB.1 hf h0 rfl ro_48 (by decide) (by decide)) 70).trans g122_0
                      have mm24 := hst151.2.1
                      refine tr_iinc (fun x25 => [(3, .int x25), (2, .int x20), (4, .int 0), (1, .int x1), (0, .ref a0)]) hx hb dX12_row_154 hl (k := 4) rfl (Eq.refl _) tk_3 (by omega) (by omega) (by decide) (fun _ => rfl) (fun x25 ls ex25 hl => ?_)
                      refine lv_goto (tgt := 40) hx hb dX12_row_157 (by decide) ?_
                      exact ih40 H151 locs ls x20 x25 hB hR (lv_sub hl [3, 4, 1, 0] rfl) (by omega) (by omega) tv_p70_H151 (by omega)
                    · exfalso; omega
                  · exfalso; omega
                refine tr_if_eq (tgt := 122) hx hb dX12_row_93 (by decide) tk_0 (fun c93 => ?_) (fun c93 => ?_)
                · exact jn122 H40 locs ls hB hR (lv_sub hl [0, 1, 2, 3, 4] rfl) g40_2
                · exfalso; omega
              · refine lv_iconst (v := 1) hx hb dX12_row_84 (by decide) ?_
                refine lv_goto (tgt := 89) hx hb dX12_row_85 (by decide) ?_
                refine lv_istore (lv' := [(4, .int 1), (1, .int x1), (0, .ref a0), (2, .int j40_2), (3, .int j40_3)]) hx hb dX12_row_89 hl (by decide) rfl (fun ls hl => ?_)
                refine lv_iload hx hb dX12_row_91 (lv_at hl 0 rfl) ?_
                have jn122 : ∀ (H122 : Heap) (locs : List Loc) (ls : Array Slot) , th_B G Γ Γ [(47, 0), (46, 0), (48, 0), (46, 33), (46, 6), (46, 13)] H0 H122 locs → th_RZ a0 G Γ H122 → lv_has ls 5 [(4, .int 1), (1, .int x1), (0, .ref a0), (2, .int j40_2), (3, .int j40_3)] → mo_v G H122 a0 2 70 = mo_v G H0 a0 2 70 → W p l e ({ frames := 3, cells := 0, slots := 0, locals := 64 } : Room) s m ([.ref a0] : List Value).toArray below meth c H122 locs 0 0 (MQ below (th_Q (fun (v : Option Value) (H1 : Heap) => ∃ r : Int32, v = some (.int r) ∧ th_I G Γ H1 ∧ th_F G Γ [(47, 0), (46, 0), (48, 0), (46, 33), (46, 6), (46, 13)] H0 H1 ∧ th_RN a0 G Γ H1 ∧ (mo_v G H1 a0 2 70 = mo_v G H0 a0 2 70)) G) ([.ref a0] : List Value).toArray s 0 0 (fun q => G.2.2 ≤ q)) (F0 m 122 ls []) := by
                  intro H122 locs ls hB hR hl g122_0
                  have mm26 := (th_F_o hB.2.2 h0 ro_46 (j := 11) (by decide) (by decide)).trans sb12
                  have vw_H122_3 : mo_v G H122 a0 3 = mo_v G H0 a0 3 := mo_v_F (r := 49) hB.1 hB.2.2 h0 rfl ro_49 (by decide) (by decide)
                  have vw_H122_4 : mo_v G H122 a0 4 = mo_v G H0 a0 4 := mo_v_F (r := 50) hB.1 hB.2.2 h0 rfl ro_50 (by decide) (by decide)
                  have vw_H122_31 : mo_v G H122 a0 31 = mo_v G H0 a0 31 := mo_v_F (r := 61) hB.1 hB.2.2 h0 rfl ro_61 (by decide) (by decide)
                  refine lv_iload_n hx hb dX12_row_122 rfl (lv_at hl 3 rfl) ?_
                  refine lv_iload hx hb dX12_row_123 (lv_at hl 0 rfl) ?_
                  refine tr_if_eq (tgt := 132) hx hb dX12_row_125 (by decide) tk_1 (fun c125 => ?_) (fun c125 => ?_)
                  · exfalso; omega
                  · refine lv_iconst (v := 1) hx hb dX12_row_128 (by decide) ?_
                    refine lv_goto (tgt := 133) hx hb dX12_row_129 (by decide) ?_
                    refine lv_iadd hx hb dX12_row_133 ?_
                    refine lv_topi (fun x27 ex27 => ?_)
                    have lx27 := ti_lo x27; have ux27 := ti_hi x27
                    refine lv_istore_n (lv' := [(2, .int x27), (4, .int 1), (1, .int x1), (0, .ref a0), (3, .int j40_3)]) hx hb dX12_row_134 rfl hl (by decide) rfl (fun ls hl => ?_)
                    refine lv_aload_n hx hb dX12_row_135 rfl (lv_at hl 3 rfl) ?_
                    refine lv_dup hx hb dX12_row_136 rfl ?_
                    refine th_getI (j := 6) hC cf_X12 hB.1 h0 ro_46 rfl rfl kf_X12_172 dX12_row_137 (fun x28 mx28 lx28 ux28 => ?_)
                    refine lv_iload hx hb dX12_row_140 (lv_at hl 1 rfl) ?_
                    refine tr_if_eq (tgt := 149) hx hb dX12_row_142 (by decide) tk_1 (fun c142 => ?_) (fun c142 => ?_)
                    · exfalso; omega
                    · refine lv_iconst (v := 0) hx hb dX12_row_145 (by decide) ?_
                      refine lv_goto (tgt := 150) hx hb dX12_row_146 (by decide) ?_
                      refine tr_iadd hx hb dX12_row_150 (Eq.refl _) tk_0 (by omega) (by omega) (fun x29 ex29 => ?_)
                      refine th_put hC cf_X12 hB h0 (Or.inl h0) ro_46 rfl (j := 6) rfl th_sIa (by decide) rfl rfl rfl kf_X12_172 dX12_row_151 (fun H151 locs hB hf hst151 => ?_)
                      have mm30 := (th_F_o hf h0 ro_46 (j := 11) (by decide) (by decide)).trans mm26
                      have hR := th_RZ_F hB.1 hR h0 hf (th_T_s h0 ro_46 hst151) (by decide)
                      have fv_H151_33 : mo_f G H151 a0 33 = mo_f G H122 a0 33 := mo_f_F hf h0 (by decide) (by decide)
                      have vv_H151_2 : mo_v G H151 a0 2 = mo_v G H122 a0 2 := mo_v_F (r := 48) hB.1 hf h0 rfl ro_48 (by decide) (by decide)
                      have vv_H151_3 : mo_v G H151 a0 3 = mo_v G H122 a0 3 := mo_v_F (r := 49) hB.1 hf h0 rfl ro_49 (by decide) (by decide)
                      have vv_H151_4 : mo_v G H151 a0 4 = mo_v G H122 a0 4 := mo_v_F (r := 50) hB.1 hf h0 rfl ro_50 (by decide) (by decide)
                      have vv_H151_31 : mo_v G H151 a0 31 = mo_v G H122 a0 31 := mo_v_F (r := 61) hB.1 hf h0 rfl ro_61 (by decide) (by decide)
                      have tv_p70_H151 : mo_v G H151 a0 2 70 = mo_v G H0 a0 2 70 := (congrFun (mo_v_F (j := 2) (r := 48) hB.1 hf h0 rfl ro_48 (by decide) (by decide)) 70).trans g122_0
                      have mm31 := hst151.2.1
                      refine tr_iinc (fun x32 => [(3, .int x32), (2, .int x27), (4, .int 1), (1, .int x1), (0, .ref a0)]) hx hb dX12_row_154 hl (k := 4) rfl (Eq.refl _) tk_3 (by omega) (by omega) (by decide) (fun _ => rfl) (fun x32 ls ex32 hl => ?_)
                      refine lv_goto (tgt := 40) hx hb dX12_row_157 (by decide) ?_
                      exact ih40 H151 locs ls x27 x32 hB hR (lv_sub hl [3, 4, 1, 0] rfl) (by omega) (by omega) tv_p70_H151 (by omega)
                refine tr_if_eq (tgt := 122) hx hb dX12_row_93 (by decide) tk_1 (fun c93 => ?_) (fun c93 => ?_)
                · exfalso; omega
                · refine lv_aload_n hx hb dX12_row_96 rfl (lv_at hl 2 rfl) ?_
                  refine lv_aload_n hx hb dX12_row_97 rfl (lv_at hl 2 rfl) ?_
                  refine th_getK hC cf_X12 hB.1 h0 ro_46 rfl (j := 11) (by decide) mb12 kf_X12_45 dX12_row_98 ?_
                  refine lv_iload_n hx hb dX12_row_101 rfl (lv_at hl 4 rfl) ?_
                  refine th_baldF hC hB.1 hb12 ro_53 rfl (Eq.refl _) (by omega) (by omega) rfl dX12_row_102 (fun x33 mx33 lx33 ux33 => ?_)
                  have qx33 : x33.toInt = x13.toInt := by rw [show x33 = x13 from Value.int.inj (mx33.symm.trans mx13)]
                  refine lv_aload_n hx hb dX12_row_103 rfl (lv_at hl 2 rfl) ?_
                  refine th_getK hC cf_X12 hB.1 h0 ro_46 rfl (j := 11) (by decide) mb12 kf_X12_45 dX12_row_104 ?_
                  refine lv_iload_n hx hb dX12_row_107 rfl (lv_at hl 4 rfl) ?_
                  refine lv_iconst (v := 1) hx hb dX12_row_108 (by decide) ?_
                  refine tr_iadd hx hb dX12_row_109 (Eq.refl _) tk_1 (by omega) (by omega) (fun x34 ex34 => ?_)
                  refine th_baldF hC hB.1 hb12 ro_53 rfl (Eq.refl _) (by omega) (by omega) rfl dX12_row_110 (fun x35 mx35 lx35 ux35 => ?_)
                  refine lv_aload_n hx hb dX12_row_111 rfl (lv_at hl 2 rfl) ?_
                  refine th_getK hC cf_X12 hB.1 h0 ro_46 rfl (j := 11) (by decide) mb12 kf_X12_45 dX12_row_112 ?_
                  refine lv_iload_n hx hb dX12_row_115 rfl (lv_at hl 4 rfl) ?_
                  refine lv_iconst (v := 2) hx hb dX12_row_116 (by decide) ?_
                  refine tr_iadd hx hb dX12_row_117 (Eq.refl _) tk_2 (by omega) (by omega) (fun x36 ex36 => ?_)
                  refine th_baldF hC hB.1 hb12 ro_53 rfl (Eq.refl _) (by omega) (by omega) rfl dX12_row_118 (fun x37 mx37 lx37 ux37 => ?_)
                  refine th_call (th_runV (As := [.int x33, .int x35, .int x37]) (rest := []) hC mf_X12_adds km_X12_130 im_X12_adds se_X12_adds (c_X12_adds l G Γ H40 hB.1 a0 h0 (th_KE (th_ZK hR)) x33 (by omega) (by omega) x35 x37 (by omega)) rfl rfl ⟨Nat.le_of_ble_eq_true rfl, Nat.le_of_ble_eq_true rfl⟩ hB.1 h0 ro_46 rfl rfl hl.1 rfl (Nat.le_of_ble_eq_true rfl) dX12_row_119 ⟨Nat.le_refl _, Nat.le_refl _⟩) hB.2.1 (fun v119 H119 locs hp hz hS => ?_)
                  have hRD := hR
                  obtain ⟨rfl, hI1, hf, hR, z119_0⟩ := hp
                  have hRc119 := hR
                  have hR := hRD
                  have hRC := hRc119.1
                  have hB := th_B_c hB hI1 hS hf (by decide)
                  have mm38 := (th_F_o hf h0 ro_46 (j := 11) (by decide) (by decide)).trans mb12
                  have fv_H119_33 : mo_f G H119 a0 33 = mo_f G H40 a0 33 := mo_f_F hf h0 (by decide) (by decide)
                  have vv_H119_3 : mo_v G H119 a0 3 = mo_v G H40 a0 3 := mo_v_F (r := 49) hB.1 hf h0 rfl ro_49 (by decide) (by decide)
                  have vv_H119_4 : mo_v G H119 a0 4 = mo_v G H40 a0 4 := mo_v_F (r := 50) hB.1 hf h0 rfl ro_50 (by decide) (by decide)
                  have vv_H119_31 : mo_v G H119 a0 31 = mo_v G H40 a0 31 := mo_v_F (r := 61) hB.1 hf h0 rfl ro_61 (by decide) (by decide)
                  have tv_p70_H119 : mo_v G H119 a0 2 70 = mo_v G H0 a0 2 70 := (show mo_v G H119 a0 2 70 = mo_v G H40 a0 2 70 from (by rw [z119_0]; unfold mo_ad; rw [mo_un (by omega), mo_un (by omega), mo_un (by omega), mo_un (by omega), mo_un (by omega), mo_un (by omega)])).trans g40_2
                  refine W.eq (g2 := F0 m 122 ls []) rfl ?_
                  have hR : th_RZ a0 G Γ H119 := ⟨hRC, by rw [z119_0, vv_H119_3, vv_H119_4]; exact ⟨mo_kg_ad hR.2.1 rfl (by omega) (by omega) (by omega), hR.2.2⟩⟩
                  exact jn122 H119 locs ls hB hR (lv_sub hl [0, 1, 2, 3, 4] rfl) tv_p70_H119
      exact lp40 ((2147483648 : Int) - (0)).toNat H35 locs ls 0 0 hB hR (lv_sub hl [2, 3, 1, 0] rfl) (by decide) (by decide) tv_p70_H35 (by have w0 := tk_0; omega)
    refine tr_if_ne (tgt := 34) hx hb dX12_row_27 (by decide) (Eq.refl _) (fun c27 => ?_) (fun c27 => ?_)
    · refine lv_iconst (v := 1) hx hb dX12_row_34 (by decide) ?_
      exact jn35 locs ls 1 hB (lv_sub hl [0, 1, 2] rfl) (by decide) (by decide)
    · refine lv_iconst (v := 0) hx hb dX12_row_30 (by decide) ?_
      refine lv_goto (tgt := 35) hx hb dX12_row_31 (by decide) ?_
      exact jn35 locs ls 0 hB (lv_sub hl [0, 1, 2] rfl) (by decide) (by decide)
  · refine lv_aload_n hx hb dX12_row_14 rfl (lv_at hl 1 rfl) ?_
    refine lv_bipush (v := (-6)) hx hb dX12_row_15 (by decide) ?_
    refine th_call (th_runV (As := [.int (-6)]) (rest := []) hC mf_X12_refuses km_X12_109 im_X12_refuses se_X12_refuses (c_X12_refuses l G Γ H7 hB.1 hR.1 a0 h0 (-6) (by decide) (by decide)) rfl rfl ⟨Nat.le_of_ble_eq_true rfl, Nat.le_of_ble_eq_true rfl⟩ hB.1 h0 ro_46 rfl rfl hl.1 rfl (Nat.le_of_ble_eq_true rfl) dX12_row_17 ⟨Nat.le_refl _, Nat.le_refl _⟩) hB.2.1 (fun v17 H17 locs hp hz hS => ?_)
    have hRD := hR
    obtain ⟨x39, rfl, q17_0, hI1, hf, hR⟩ := hp
    have hR := th_RN_c hR hRD hI1 h0 hf (by decide)
    have hB := th_B_c hB hI1 hS hf (by decide)
    have fv_H17_33 : mo_f G H17 a0 33 = mo_f G H7 a0 33 := mo_f_F hf h0 (by decide) (by decide)
    have vv_H17_2 : mo_v G H17 a0 2 = mo_v G H7 a0 2 := mo_v_F (r := 48) hB.1 hf h0 rfl ro_48 (by decide) (by decide)
    have vv_H17_3 : mo_v G H17 a0 3 = mo_v G H7 a0 3 := mo_v_F (r := 49) hB.1 hf h0 rfl ro_49 (by decide) (by decide)
    have vv_H17_4 : mo_v G H17 a0 4 = mo_v G H7 a0 4 := mo_v_F (r := 50) hB.1 hf h0 rfl ro_50 (by decide) (by decide)
    have vv_H17_31 : mo_v G H17 a0 31 = mo_v G H7 a0 31 := mo_v_F (r := 61) hB.1 hf h0 rfl ro_61 (by decide) (by decide)
    have tv_p70_H17 : mo_v G H17 a0 2 70 = mo_v G H0 a0 2 70 := (congrFun (mo_v_F (j := 2) (r := 48) hB.1 hf h0 rfl ro_48 (by decide) (by decide)) 70).trans tv_p70_H7
    have w17_0 := tk_m6
    refine W.eq (g2 := F0 m 20 ls [.int x39]) rfl ?_
    exact th_iret hC hH hr hlocks rfl hB.2.1 ⟨_, rfl, hB.1, hB.2.2, hR, tv_p70_H17⟩ dX12_row_20

set_option maxHeartbeats 4000000 in
set_option maxRecDepth 100000 in
theorem c_X12_law_q (l : Launch) (G : th_G) (Γ : th_Ga) (H0 : Heap) (hI : th_I G Γ H0) (a0 : Nat) (h0 : Γ a0 = (46, 0)) (hR : th_RN a0 G Γ H0) : Met l yX12_law (.code yX12_law cX12_law 1 (some FieldType.int) :: th_tb) ({ frames := 75, cells := 0, slots := 0, locals := 2247 } : Room) (th_P [.ref a0] G H0) (th_Q (fun (v : Option Value) (H1 : Heap) => ∃ r : Int32, v = some (.int r) ∧ th_I G Γ H1 ∧ th_F G Γ [(47, 0), (46, 0), (48, 0), (46, 19), (46, 20), (46, 21), (46, 18), (57, 0), (56, 0), (55, 0), (46, 13), (46, 14), (46, 8), (46, 9), (46, 10)] H0 H1 ∧ th_RN a0 G Γ H1 ∧ (mo_v G H1 a0 2 69 = mo_v G H0 a0 2 69) ∧ (mo_v G H1 a0 2 70 = mo_v G H0 a0 2 70)) G) 0 0 (fun q => G.2.2 ≤ q) := by
  refine th_met RX12 (by decide) rfl (Nat.le_of_ble_eq_true rfl) ?_
  intro p e s m below meth c hC hH hr hlocks hnm ls hl
  have hx := hC.1
  have hb := hC.2.1
  have hB : th_B G Γ Γ [(47, 0), (46, 0), (48, 0), (46, 19), (46, 20), (46, 21), (46, 18), (57, 0), (56, 0), (55, 0), (46, 13), (46, 14), (46, 8), (46, 9), (46, 10)] H0 H0 [] := ⟨hI, va_S.rf, th_F_rf⟩
  have hl : lv_has ls 1 [(0, .ref a0)] := hl
  refine lv_aload_n hx hb dX12_law_0 rfl (lv_at hl 0 rfl) ?_
  refine th_getO (j := 2) (r2 := 48) hC cf_X12 hB.1 h0 ro_46 rfl rfl kf_X12_28 dX12_law_1 (fun b1 mb1 hb1 => ?_)
  refine lv_bipush (v := 71) hx hb dX12_law_4 (by decide) ?_
  refine th_ialdF hC hB.1 hb1 ro_48 rfl tk_71 (by omega) (by omega) (ek_told (by omega) (by omega)) dX12_law_6 (fun x2 mx2 lx2 ux2 => ?_)
  have vgx2 : mo_v G H0 a0 2 71 = x2.toInt := by rw [show (71 : Int) = 71 by omega]; exact mo_vat mb1 mx2 (by omega)
  refine lv_bipush (v := 6) hx hb dX12_law_7 (by decide) ?_
  refine tr_icmp_ne (tgt := 24) hx hb dX12_law_9 (by decide) (Eq.refl _) tk_6 (fun c9 => ?_) (fun c9 => ?_)
  · refine lv_aload_n hx hb dX12_law_24 rfl (lv_at hl 0 rfl) ?_
    refine lv_iconst (v := 0) hx hb dX12_law_25 (by decide) ?_
    refine th_call (th_runV (As := [.int 0]) (rest := []) hC mf_X12_readsAs km_X12_268 im_X12_readsAs se_X12_readsAs (c_X12_readsAs l G Γ H0 hB.1 hR.1 a0 h0 0 (by decide) (by decide)) rfl rfl ⟨Nat.le_of_ble_eq_true rfl, Nat.le_of_ble_eq_true rfl⟩ hB.1 h0 ro_46 rfl rfl hl.1 rfl (Nat.le_of_ble_eq_true rfl) dX12_law_26 ⟨Nat.le_refl _, Nat.le_refl _⟩) hB.2.1 (fun v26 H26 locs hp hz hS => ?_)
    have hRD := hR
    obtain ⟨x3, rfl, lx3, ux3, hI1, hf, hR, z26_0⟩ := hp
    have hR := th_RN_c hR hRD hI1 h0 hf (by decide)
    have hB := th_B_c hB hI1 hS hf (by decide)
    have mm4 := (th_F_o hf h0 ro_46 (j := 2) (by decide) (by decide)).trans mb1
    have fv_H26_33 : mo_f G H26 a0 33 = mo_f G H0 a0 33 := mo_f_F hf h0 (by decide) (by decide)
    have vv_H26_2 : mo_v G H26 a0 2 = mo_v G H0 a0 2 := mo_v_F (r := 48) hB.1 hf h0 rfl ro_48 (by decide) (by decide)
    have vv_H26_3 : mo_v G H26 a0 3 = mo_v G H0 a0 3 := mo_v_F (r := 49) hB.1 hf h0 rfl ro_49 (by decide) (by decide)
    have vv_H26_4 : mo_v G H26 a0 4 = mo_v G H0 a0 4 := mo_v_F (r := 50) hB.1 hf h0 rfl ro_50 (by decide) (by decide)
    have vv_H26_31 : mo_v G H26 a0 31 = mo_v G H0 a0 31 := mo_v_F (r := 61) hB.1 hf h0 rfl ro_61 (by decide) (by decide)
    have tv_p69_H26 : mo_v G H26 a0 2 69 = mo_v G H0 a0 2 69 := congrFun (mo_v_F (j := 2) (r := 48) hB.1 hf h0 rfl ro_48 (by decide) (by decide)) 69
    have tv_p70_H26 : mo_v G H26 a0 2 70 = mo_v G H0 a0 2 70 := congrFun (mo_v_F (j := 2) (r := 48) hB.1 hf h0 rfl ro_48 (by decide) (by decide)) 70
    refine W.eq (g2 := F0 m 29 ls [.int x3]) rfl ?_
    have hB26 := hB
    refine tr_if_ne (tgt := 39) hx hb dX12_law_29 (by decide) (Eq.refl _) (fun c29 => ?_) (fun c29 => ?_)
    · refine lv_aload_n hx hb dX12_law_39 rfl (lv_at hl 0 rfl) ?_
      refine lv_aload_n hx hb dX12_law_40 rfl (lv_at hl 0 rfl) ?_
      refine th_getK hC cf_X12 hB.1 h0 ro_46 rfl (j := 2) (by decide) mm4 kf_X12_28 dX12_law_41 ?_
      refine lv_bipush (v := 71) hx hb dX12_law_44 (by decide) ?_
      refine th_ialdF hC hB.1 hb1 ro_48 rfl tk_71 (by omega) (by omega) (ek_told (by omega) (by omega)) dX12_law_46 (fun x5 mx5 lx5 ux5 => ?_)
      have vgx5 : mo_v G H26 a0 2 71 = x5.toInt := by rw [show (71 : Int) = 71 by omega]; exact mo_vat mm4 mx5 (by omega)
      have e46 : mo_v G H26 a0 2 71 = mo_v G H0 a0 2 71 := by rw [vv_H26_2]
      refine th_call (th_runV (As := [.int x5]) (rest := []) hC mf_X12_lays km_X12_272 im_X12_lays se_X12_lays (c_X12_lays l G Γ H26 hB.1 hR.1 a0 h0 x5 (by omega) (by omega)) rfl rfl ⟨Nat.le_of_ble_eq_true rfl, Nat.le_of_ble_eq_true rfl⟩ hB.1 h0 ro_46 rfl rfl hl.1 rfl (Nat.le_of_ble_eq_true rfl) dX12_law_47 ⟨Nat.le_refl _, Nat.le_refl _⟩) hB.2.1 (fun v47 H47 locs hp hz hS => ?_)
      have hRD := hR
      obtain ⟨rfl, hI1, hf, hR, z47_0⟩ := hp
      have hRc47 := hR
      have hR := hRD
      have hRC := hRc47
      have hB := th_B_c hB hI1 hS hf (by decide)
      have mm6 := (th_F_o hf h0 ro_46 (j := 2) (by decide) (by decide)).trans mm4
      have fv_H47_33 : mo_f G H47 a0 33 = mo_f G H26 a0 33 := mo_f_F hf h0 (by decide) (by decide)
      have vv_H47_3 : mo_v G H47 a0 3 = mo_v G H26 a0 3 := mo_v_F (r := 49) hB.1 hf h0 rfl ro_49 (by decide) (by decide)
      have vv_H47_4 : mo_v G H47 a0 4 = mo_v G H26 a0 4 := mo_v_F (r := 50) hB.1 hf h0 rfl ro_50 (by decide) (by decide)
      have vv_H47_31 : mo_v G H47 a0 31 = mo_v G H26 a0 31 := mo_v_F (r := 61) hB.1 hf h0 rfl ro_61 (by decide) (by decide)
      have tv_p69_H47 : mo_v G H47 a0 2 69 = mo_v G H0 a0 2 69 := (show mo_v G H47 a0 2 69 = mo_v G H26 a0 2 69 from (by have w6 := tk_6; rw [z47_0 69 (by omega)]; unfold mo_ly; rw [if_neg (by omega), if_neg (by omega)])).trans tv_p69_H26
      have tv_p70_H47 : mo_v G H47 a0 2 70 = mo_v G H0 a0 2 70 := (show mo_v G H47 a0 2 70 = mo_v G H26 a0 2 70 from (by have w6 := tk_6; rw [z47_0 70 (by omega)]; unfold mo_ly; rw [if_neg (by omega), if_neg (by omega)])).trans tv_p70_H26
      refine W.eq (g2 := F0 m 50 ls []) rfl ?_
      refine lv_aload_n hx hb dX12_law_50 rfl (lv_at hl 0 rfl) ?_
      refine th_getK hC cf_X12 hB.1 h0 ro_46 rfl (j := 2) (by decide) mm6 kf_X12_28 dX12_law_51 ?_
      refine lv_bipush (v := 71) hx hb dX12_law_54 (by decide) ?_
      refine lv_dup2_11 hx hb dX12_law_56 rfl rfl ?_
      refine th_ialdF hC hB.1 hb1 ro_48 rfl tk_71 (by omega) (by omega) (ek_told (by omega) (by omega)) dX12_law_57 (fun x7 mx7 lx7 ux7 => ?_)
      have vgx7 : mo_v G H47 a0 2 71 = x7.toInt := by rw [show (71 : Int) = 71 by omega]; exact mo_vat mm6 mx7 (by omega)
      have e57 : x7.toInt = x5.toInt := by have q9 := vgx7; rw [z47_0 71 (by omega)] at q9; unfold mo_ly at q9; rw [if_neg (by omega), if_neg (by omega)] at q9; omega
      refine lv_iconst (v := 1) hx hb dX12_law_58 (by decide) ?_
      refine tr_iadd hx hb dX12_law_59 (Eq.refl _) tk_1 (by omega) (by omega) (fun x8 ex8 => ?_)
      refine th_iastF hC hB hb1 (Or.inl hb1) ro_48 rfl (by decide) tk_71 (by omega) (by omega) (by rw [(ek_told (by omega) (by omega))]; exact (th_sI (by omega) (by omega))) dX12_law_60 (fun H60 locs hB hf60 hst60 => ?_)
      have hf := hf60
      have mm9 := (th_F_o hf h0 ro_46 (j := 2) (by decide) (by decide)).trans mm6
      have hRC := th_RC_F hB.1 hRC hf (th_T_s hb1 ro_48 hst60) (by decide)
      have fv_H60_33 : mo_f G H60 a0 33 = mo_f G H47 a0 33 := mo_f_F hf h0 (by decide) (by decide)
      have vv_H60_3 : mo_v G H60 a0 3 = mo_v G H47 a0 3 := mo_v_F (r := 49) hB.1 hf h0 rfl ro_49 (by decide) (by decide)
      have vv_H60_4 : mo_v G H60 a0 4 = mo_v G H47 a0 4 := mo_v_F (r := 50) hB.1 hf h0 rfl ro_50 (by decide) (by decide)
      have vv_H60_31 : mo_v G H60 a0 31 = mo_v G H47 a0 31 := mo_v_F (r := 61) hB.1 hf h0 rfl ro_61 (by decide) (by decide)
      have vs60 : mo_v G H60 a0 2 = mo_u (mo_v G H47 a0 2) 71 x8.toInt := by rw [show (71 : Int) = 71 by omega]; exact mo_v_st h0 hb1 (by decide) mm6 hst60 (by omega)
      have tv_p69_H60 : mo_v G H60 a0 2 69 = mo_v G H0 a0 2 69 := by rw [vs60, mo_un (by omega)]; exact tv_p69_H47
      have tv_p70_H60 : mo_v G H60 a0 2 70 = mo_v G H0 a0 2 70 := by rw [vs60, mo_un (by omega)]; exact tv_p70_H47
      have hR : th_RN a0 G Γ H60 := ⟨hRC, by rw [vv_H60_3, vv_H47_3, vv_H60_4, vv_H47_4, vv_H60_31, vv_H47_31, fv_H60_33, fv_H47_33]; exact mo_ok_law hR.2 vgx5 (by omega) (by omega) (mo_f_rg hB26.1 h0 (j := 18) rfl).2 (z26_0 (by omega)) (fun z z0 z1 => by rw [vs60]; by_cases q9 : z = 71; rw [mo_us q9, if_pos q9]; omega; rw [mo_un q9, if_neg q9]; exact z47_0 z z1)⟩
      refine lv_aload_n hx hb dX12_law_61 rfl (lv_at hl 0 rfl) ?_
      refine lv_aload_n hx hb dX12_law_62 rfl (lv_at hl 0 rfl) ?_
      refine th_getK hC cf_X12 hB.1 h0 ro_46 rfl (j := 2) (by decide) mm9 kf_X12_28 dX12_law_63 ?_
      refine lv_bipush (v := 71) hx hb dX12_law_66 (by decide) ?_
      refine th_ialdF hC hB.1 hb1 ro_48 rfl tk_71 (by omega) (by omega) (ek_told (by omega) (by omega)) dX12_law_68 (fun x10 mx10 lx10 ux10 => ?_)
      have vgx10 : mo_v G H60 a0 2 71 = x10.toInt := by rw [show (71 : Int) = 71 by omega]; exact mo_vat mm9 mx10 (by omega)
      refine lv_iconst (v := 1) hx hb dX12_law_69 (by decide) ?_
      refine tr_isub hx hb dX12_law_70 (Eq.refl _) tk_1 (by omega) (by omega) (fun x11 ex11 => ?_)
      refine th_call (th_runV (As := [.int x11]) (rest := []) hC mf_X12_good km_X12_14 im_X12_good se_X12_good (c_X12_good l G Γ H60 hB.1 hR.1 a0 h0 x11) rfl rfl ⟨Nat.le_of_ble_eq_true rfl, Nat.le_of_ble_eq_true rfl⟩ hB.1 h0 ro_46 rfl rfl hl.1 rfl (Nat.le_of_ble_eq_true rfl) dX12_law_71 ⟨Nat.le_refl _, Nat.le_refl _⟩) hB.2.1 (fun v71 H71 locs hp hz hS => ?_)
      have hRD := hR
      obtain ⟨x12, rfl, q71_0, hI1, hf, hR⟩ := hp
      have hR := th_RN_c hR hRD hI1 h0 hf (by decide)
      have hB := th_B_c hB hI1 hS hf (by decide)
      have mm13 := (th_F_o hf h0 ro_46 (j := 2) (by decide) (by decide)).trans mm9
      have fv_H71_33 : mo_f G H71 a0 33 = mo_f G H60 a0 33 := mo_f_F hf h0 (by decide) (by decide)
      have vv_H71_2 : mo_v G H71 a0 2 = mo_v G H60 a0 2 := mo_v_F (r := 48) hB.1 hf h0 rfl ro_48 (by decide) (by decide)
      have vv_H71_3 : mo_v G H71 a0 3 = mo_v G H60 a0 3 := mo_v_F (r := 49) hB.1 hf h0 rfl ro_49 (by decide) (by decide)
      have vv_H71_4 : mo_v G H71 a0 4 = mo_v G H60 a0 4 := mo_v_F (r := 50) hB.1 hf h0 rfl ro_50 (by decide) (by decide)
      have vv_H71_31 : mo_v G H71 a0 31 = mo_v G H60 a0 31 := mo_v_F (r := 61) hB.1 hf h0 rfl ro_61 (by decide) (by decide)
      have tv_p69_H71 : mo_v G H71 a0 2 69 = mo_v G H0 a0 2 69 := (congrFun (mo_v_F (j := 2) (r := 48) hB.1 hf h0 rfl ro_48 (by decide) (by decide)) 69).trans tv_p69_H60
      have tv_p70_H71 : mo_v G H71 a0 2 70 = mo_v G H0 a0 2 70 := (congrFun (mo_v_F (j := 2) (r := 48) hB.1 hf h0 rfl ro_48 (by decide) (by decide)) 70).trans tv_p70_H60
      refine W.eq (g2 := F0 m 74 ls [.int x12]) rfl ?_
      exact th_iret hC hH hr hlocks rfl hB.2.1 ⟨_, rfl, hB.1, hB.2.2, hR, tv_p69_H71, tv_p70_H71⟩ dX12_law_74
    · refine lv_aload_n hx hb dX12_law_32 rfl (lv_at hl 0 rfl) ?_
      refine lv_bipush (v := (-6)) hx hb dX12_law_33 (by decide) ?_
      refine th_call (th_runV (As := [.int (-6)]) (rest := []) hC mf_X12_refuses km_X12_109 im_X12_refuses se_X12_refuses (c_X12_refuses l G Γ H26 hB.1 hR.1 a0 h0 (-6) (by decide) (by decide)) rfl rfl ⟨Nat.le_of_ble_eq_true rfl, Nat.le_of_ble_eq_true rfl⟩ hB.1 h0 ro_46 rfl rfl hl.1 rfl (Nat.le_of_ble_eq_true rfl) dX12_law_35 ⟨Nat.le_refl _, Nat.le_refl _⟩) hB.2.1 (fun v35 H35 locs hp hz hS => ?_)
      have hRD := hR
      obtain ⟨x14, rfl, q35_0, hI1, hf, hR⟩ := hp
      have hR := th_RN_c hR hRD hI1 h0 hf (by decide)
      have hB := th_B_c hB hI1 hS hf (by decide)
      have mm15 := (th_F_o hf h0 ro_46 (j := 2) (by decide) (by decide)).trans mm4
      have fv_H35_33 : mo_f G H35 a0 33 = mo_f G H26 a0 33 := mo_f_F hf h0 (by decide) (by decide)
      have vv_H35_2 : mo_v G H35 a0 2 = mo_v G H26 a0 2 := mo_v_F (r := 48) hB.1 hf h0 rfl ro_48 (by decide) (by decide)
      have vv_H35_3 : mo_v G H35 a0 3 = mo_v G H26 a0 3 := mo_v_F (r := 49) hB.1 hf h0 rfl ro_49 (by decide) (by decide)
      have vv_H35_4 : mo_v G H35 a0 4 = mo_v G H26 a0 4 := mo_v_F (r := 50) hB.1 hf h0 rfl ro_50 (by decide) (by decide)
      have vv_H35_31 : mo_v G H35 a0 31 = mo_v G H26 a0 31 := mo_v_F (r := 61) hB.1 hf h0 rfl ro_61 (by decide) (by decide)
      have tv_p69_H35 : mo_v G H35 a0 2 69 = mo_v G H0 a0 2 69 := (congrFun (mo_v_F (j := 2) (r := 48) hB.1 hf h0 rfl ro_48 (by decide) (by decide)) 69).trans tv_p69_H26
      have tv_p70_H35 : mo_v G H35 a0 2 70 = mo_v G H0 a0 2 70 := (congrFun (mo_v_F (j := 2) (r := 48) hB.1 hf h0 rfl ro_48 (by decide) (by decide)) 70).trans tv_p70_H26
      have w35_0 := tk_m6
      refine W.eq (g2 := F0 m 38 ls [.int x14]) rfl ?_
      exact th_iret hC hH hr hlocks rfl hB.2.1 ⟨_, rfl, hB.1, hB.2.2, hR, tv_p69_H35, tv_p70_H35⟩ dX12_law_38
  · refine lv_aload_n hx hb dX12_law_12 rfl (lv_at hl 0 rfl) ?_
    refine lv_iconst (v := 0) hx hb dX12_law_13 (by decide) ?_
    refine th_put hC cf_X12 hB h0 (Or.inl h0) ro_46 rfl (j := 13) rfl (th_sI (by decide) (by decide)) (by decide) rfl rfl rfl kf_X12_169 dX12_law_14 (fun H14 locs hB hf hst14 => ?_)
    have mm16 := (th_F_o hf h0 ro_46 (j := 2) (by decide) (by decide)).trans mb1
    have hR := th_RN_F hB.1 hR h0 hf (th_T_s h0 ro_46 hst14) (by decide)
    have fv_H14_33 : mo_f G H14 a0 33 = mo_f G H0 a0 33 := mo_f_F hf h0 (by decide) (by decide)
    have vv_H14_2 : mo_v G H14 a0 2 = mo_v G H0 a0 2 := mo_v_F (r := 48) hB.1 hf h0 rfl ro_48 (by decide) (by decide)
    have vv_H14_3 : mo_v G H14 a0 3 = mo_v G H0 a0 3 := mo_v_F (r := 49) hB.1 hf h0 rfl ro_49 (by decide) (by decide)
    have vv_H14_4 : mo_v G H14 a0 4 = mo_v G H0 a0 4 := mo_v_F (r := 50) hB.1 hf h0 rfl ro_50 (by decide) (by decide)
    have vv_H14_31 : mo_v G H14 a0 31 = mo_v G H0 a0 31 := mo_v_F (r := 61) hB.1 hf h0 rfl ro_61 (by decide) (by decide)
    have tv_p69_H14 : mo_v G H14 a0 2 69 = mo_v G H0 a0 2 69 := congrFun (mo_v_F (j := 2) (r := 48) hB.1 hf h0 rfl ro_48 (by decide) (by decide)) 69
    have tv_p70_H14 : mo_v G H14 a0 2 70 = mo_v G H0 a0 2 70 := congrFun (mo_v_F (j := 2) (r := 48) hB.1 hf h0 rfl ro_48 (by decide) (by decide)) 70
    refine lv_aload_n hx hb dX12_law_17 rfl (lv_at hl 0 rfl) ?_
    refine lv_bipush (v := (-5)) hx hb dX12_law_18 (by decide) ?_
    refine th_call (th_runV (As := [.int (-5)]) (rest := []) hC mf_X12_refuses km_X12_109 im_X12_refuses se_X12_refuses (c_X12_refuses l G Γ H14 hB.1 hR.1 a0 h0 (-5) (by decide) (by decide)) rfl rfl ⟨Nat.le_of_ble_eq_true rfl, Nat.le_of_ble_eq_true rfl⟩ hB.1 h0 ro_46 rfl rfl hl.1 rfl (Nat.le_of_ble_eq_true rfl) dX12_law_20 ⟨Nat.le_refl _, Nat.le_refl _⟩) hB.2.1 (fun v20 H20 locs hp hz hS => ?_)
    have hRD := hR
    obtain ⟨x17, rfl, q20_0, hI1, hf, hR⟩ := hp
    have hR := th_RN_c hR hRD hI1 h0 hf (by decide)
    have hB := th_B_c hB hI1 hS hf (by decide)
    have mm18 := (th_F_o hf h0 ro_46 (j := 2) (by decide) (by decide)).trans mm16
    have fv_H20_33 : mo_f G H20 a0 33 = mo_f G H14 a0 33 := mo_f_F hf h0 (by decide) (by decide)
    have vv_H20_2 : mo_v G H20 a0 2 = mo_v G H14 a0 2 := mo_v_F (r := 48) hB.1 hf h0 rfl ro_48 (by decide) (by decide)
    have vv_H20_3 : mo_v G H20 a0 3 = mo_v G H14 a0 3 := mo_v_F (r := 49) hB.1 hf h0 rfl ro_49 (by decide) (by decide)
    have vv_H20_4 : mo_v G H20 a0 4 = mo_v G H14 a0 4 := mo_v_F (r := 50) hB.1 hf h0 rfl ro_50 (by decide) (by decide)
    have vv_H20_31 : mo_v G H20 a0 31 = mo_v G H14 a0 31 := mo_v_F (r := 61) hB.1 hf h0 rfl ro_61 (by decide) (by decide)
    have tv_p69_H20 : mo_v G H20 a0 2 69 = mo_v G H0 a0 2 69 := (congrFun (mo_v_F (j := 2) (r := 48) hB.1 hf h0 rfl ro_48 (by decide) (by decide)) 69).trans tv_p69_H14
    have tv_p70_H20 : mo_v G H20 a0 2 70 = mo_v G H0 a0 2 70 := (congrFun (mo_v_F (j := 2) (r := 48) hB.1 hf h0 rfl ro_48 (by decide) (by decide)) 70).trans tv_p70_H14
    have w20_0 := tk_m5
    refine W.eq (g2 := F0 m 23 ls [.int x17]) rfl ?_
    exact th_iret hC hH hr hlocks rfl hB.2.1 ⟨_, rfl, hB.1, hB.2.2, hR, tv_p69_H20, tv_p70_H20⟩ dX12_law_23

set_option maxHeartbeats 4000000 in
set_option maxRecDepth 100000 in
theorem c_X12_force_q (l : Launch) (G : th_G) (Γ : th_Ga) (H0 : Heap) (hI : th_I G Γ H0) (a0 : Nat) (h0 : Γ a0 = (46, 0)) (hR : th_RN a0 G Γ H0) (p1 : Int32) : Met l yX12_force (.code yX12_force cX12_force 3 (some FieldType.int) :: th_tb) ({ frames := 2, cells := 0, slots := 0, locals := 43 } : Room) (th_P [.ref a0, .int p1] G H0) (th_Q (fun (v : Option Value) (H1 : Heap) => ∃ r : Int32, v = some (.int r) ∧ th_I G Γ H1 ∧ th_F G Γ [(47, 0), (46, 0), (48, 0)] H0 H1 ∧ th_RN a0 G Γ H1 ∧ (mo_v G H1 a0 2 69 = mo_v G H0 a0 2 69) ∧ (mo_v G H1 a0 2 70 = mo_v G H0 a0 2 70)) G) 0 0 (fun q => G.2.2 ≤ q) := by
  refine th_met RX12 (by decide) rfl (Nat.le_of_ble_eq_true rfl) ?_
  intro p e s m below meth c hC hH hr hlocks hnm ls hl
  have hx := hC.1
  have hb := hC.2.1
  have hB : th_B G Γ Γ [(47, 0), (46, 0), (48, 0)] H0 H0 [] := ⟨hI, va_S.rf, th_F_rf⟩
  have hl : lv_has ls 3 [(0, .ref a0), (1, .int p1)] := hl
  have lp1 := ti_lo p1; have up1 := ti_hi p1
  refine lv_aload_n hx hb dX12_force_0 rfl (lv_at hl 0 rfl) ?_
  refine lv_iload_n hx hb dX12_force_1 rfl (lv_at hl 1 rfl) ?_
  refine th_call (th_runV (As := [.int p1]) (rest := []) hC mf_X12_isLaw km_X12_275 im_X12_isLaw se_X12_isLaw (c_X12_isLaw l G Γ H0 hB.1 a0 h0 p1) rfl rfl ⟨Nat.le_of_ble_eq_true rfl, Nat.le_of_ble_eq_true rfl⟩ hB.1 h0 ro_46 rfl rfl hl.1 rfl (Nat.le_of_ble_eq_true rfl) dX12_force_2 ⟨Nat.le_refl _, Nat.le_refl _⟩) hB.2.1 (fun v2 H2 locs hp hz hS => ?_)
  obtain ⟨x1, rfl, lx1, ux1, q2_0, rfl⟩ := hp
  have hB := th_B_s hB hS
  refine W.eq (g2 := F0 m 5 ls [.int x1]) rfl ?_
  refine tr_if_ne (tgt := 15) hx hb dX12_force_5 (by decide) (Eq.refl _) (fun c5 => ?_) (fun c5 => ?_)
  · refine lv_aload_n hx hb dX12_force_15 rfl (lv_at hl 0 rfl) ?_
    refine th_getO (j := 2) (r2 := 48) hC cf_X12 hB.1 h0 ro_46 rfl rfl kf_X12_28 dX12_force_16 (fun b2 mb2 hb2 => ?_)
    refine lv_bipush (v := 72) hx hb dX12_force_19 (by decide) ?_
    refine th_ialdF hC hB.1 hb2 ro_48 rfl tk_72 (by omega) (by omega) (ek_force (by omega) (by omega)) dX12_force_21 (fun x3 mx3 lx3 ux3 => ?_)
    have vgx3 : mo_v G H0 a0 2 72 = x3.toInt := by rw [show (72 : Int) = 72 by omega]; exact mo_vat mb2 mx3 (by omega)
    refine lv_istore_n (lv' := [(2, .int x3), (0, .ref a0), (1, .int p1)]) hx hb dX12_force_22 rfl hl (by decide) rfl (fun ls hl => ?_)
    refine lv_aload_n hx hb dX12_force_23 rfl (lv_at hl 1 rfl) ?_
    refine th_getK hC cf_X12 hB.1 h0 ro_46 rfl (j := 2) (by decide) mb2 kf_X12_28 dX12_force_24 ?_
    refine lv_bipush (v := 72) hx hb dX12_force_27 (by decide) ?_
    refine lv_iload_n hx hb dX12_force_29 rfl (lv_at hl 2 rfl) ?_
    refine th_iastF hC hB hb2 (Or.inl hb2) ro_48 rfl (by decide) tk_72 (by omega) (by omega) (by rw [(ek_force (by omega) (by omega))]; exact (th_sI (by omega) (by omega))) dX12_force_30 (fun H30 locs hB hf30 hst30 => ?_)
    have hf := hf30
    have mm4 := (th_F_o hf h0 ro_46 (j := 2) (by decide) (by decide)).trans mb2
    have hRC := th_RC_F hB.1 hR.1 hf (th_T_s hb2 ro_48 hst30) (by decide)
    have fv_H30_33 : mo_f G H30 a0 33 = mo_f G H0 a0 33 := mo_f_F hf h0 (by decide) (by decide)
    have vv_H30_3 : mo_v G H30 a0 3 = mo_v G H0 a0 3 := mo_v_F (r := 49) hB.1 hf h0 rfl ro_49 (by decide) (by decide)
    have vv_H30_4 : mo_v G H30 a0 4 = mo_v G H0 a0 4 := mo_v_F (r := 50) hB.1 hf h0 rfl ro_50 (by decide) (by decide)
    have vv_H30_31 : mo_v G H30 a0 31 = mo_v G H0 a0 31 := mo_v_F (r := 61) hB.1 hf h0 rfl ro_61 (by decide) (by decide)
    have vs30 : mo_v G H30 a0 2 = mo_u (mo_v G H0 a0 2) 72 p1.toInt := by rw [show (72 : Int) = 72 by omega]; exact mo_v_st h0 hb2 (by decide) mb2 hst30 (by omega)
    have tv_p69_H30 : mo_v G H30 a0 2 69 = mo_v G H0 a0 2 69 := by rw [vs30, mo_un (by omega)]
    have tv_p70_H30 : mo_v G H30 a0 2 70 = mo_v G H0 a0 2 70 := by rw [vs30, mo_un (by omega)]
    have hR : th_RN a0 G Γ H30 := ⟨hRC, by rw [vs30, vv_H30_3, vv_H30_4, vv_H30_31, fv_H30_33]; exact mo_ok_f hR.2 (by omega)⟩
    refine lv_aload_n hx hb dX12_force_31 rfl (lv_at hl 1 rfl) ?_
    refine lv_iload_n hx hb dX12_force_32 rfl (lv_at hl 0 rfl) ?_
    refine th_call (th_runV (As := [.int x3]) (rest := []) hC mf_X12_good km_X12_14 im_X12_good se_X12_good (c_X12_good l G Γ H30 hB.1 hR.1 a0 h0 x3) rfl rfl ⟨Nat.le_of_ble_eq_true rfl, Nat.le_of_ble_eq_true rfl⟩ hB.1 h0 ro_46 rfl rfl hl.1 rfl (Nat.le_of_ble_eq_true rfl) dX12_force_33 ⟨Nat.le_refl _, Nat.le_refl _⟩) hB.2.1 (fun v33 H33 locs hp hz hS => ?_)
    have hRD := hR
    obtain ⟨x5, rfl, q33_0, hI1, hf, hR⟩ := hp
    have hR := th_RN_c hR hRD hI1 h0 hf (by decide)
    have hB := th_B_c hB hI1 hS hf (by decide)
    have mm6 := (th_F_o hf h0 ro_46 (j := 2) (by decide) (by decide)).trans mm4
    have fv_H33_33 : mo_f G H33 a0 33 = mo_f G H30 a0 33 := mo_f_F hf h0 (by decide) (by decide)
    have vv_H33_2 : mo_v G H33 a0 2 = mo_v G H30 a0 2 := mo_v_F (r := 48) hB.1 hf h0 rfl ro_48 (by decide) (by decide)
    have vv_H33_3 : mo_v G H33 a0 3 = mo_v G H30 a0 3 := mo_v_F (r := 49) hB.1 hf h0 rfl ro_49 (by decide) (by decide)
    have vv_H33_4 : mo_v G H33 a0 4 = mo_v G H30 a0 4 := mo_v_F (r := 50) hB.1 hf h0 rfl ro_50 (by decide) (by decide)
    have vv_H33_31 : mo_v G H33 a0 31 = mo_v G H30 a0 31 := mo_v_F (r := 61) hB.1 hf h0 rfl ro_61 (by decide) (by decide)
    have tv_p69_H33 : mo_v G H33 a0 2 69 = mo_v G H0 a0 2 69 := (congrFun (mo_v_F (j := 2) (r := 48) hB.1 hf h0 rfl ro_48 (by decide) (by decide)) 69).trans tv_p69_H30
    have tv_p70_H33 : mo_v G H33 a0 2 70 = mo_v G H0 a0 2 70 := (congrFun (mo_v_F (j := 2) (r := 48) hB.1 hf h0 rfl ro_48 (by decide) (by decide)) 70).trans tv_p70_H30
    refine W.eq (g2 := F0 m 36 ls [.int x5]) rfl ?_
    exact th_iret hC hH hr hlocks rfl hB.2.1 ⟨_, rfl, hB.1, hB.2.2, hR, tv_p69_H33, tv_p70_H33⟩ dX12_force_36
  · refine lv_aload_n hx hb dX12_force_8 rfl (lv_at hl 0 rfl) ?_
    refine lv_bipush (v := (-2)) hx hb dX12_force_9 (by decide) ?_
    refine th_call (th_runV (As := [.int (-2)]) (rest := []) hC mf_X12_refuses km_X12_109 im_X12_refuses se_X12_refuses (c_X12_refuses l G Γ H0 hB.1 hR.1 a0 h0 (-2) (by decide) (by decide)) rfl rfl ⟨Nat.le_of_ble_eq_true rfl, Nat.le_of_ble_eq_true rfl⟩ hB.1 h0 ro_46 rfl rfl hl.1 rfl (Nat.le_of_ble_eq_true rfl) dX12_force_11 ⟨Nat.le_refl _, Nat.le_refl _⟩) hB.2.1 (fun v11 H11 locs hp hz hS => ?_)
    have hRD := hR
    obtain ⟨x7, rfl, q11_0, hI1, hf, hR⟩ := hp
    have hR := th_RN_c hR hRD hI1 h0 hf (by decide)
    have hB := th_B_c hB hI1 hS hf (by decide)
    have fv_H11_33 : mo_f G H11 a0 33 = mo_f G H0 a0 33 := mo_f_F hf h0 (by decide) (by decide)
    have vv_H11_2 : mo_v G H11 a0 2 = mo_v G H0 a0 2 := mo_v_F (r := 48) hB.1 hf h0 rfl ro_48 (by decide) (by decide)
    have vv_H11_3 : mo_v G H11 a0 3 = mo_v G H0 a0 3 := mo_v_F (r := 49) hB.1 hf h0 rfl ro_49 (by decide) (by decide)
    have vv_H11_4 : mo_v G H11 a0 4 = mo_v G H0 a0 4 := mo_v_F (r := 50) hB.1 hf h0 rfl ro_50 (by decide) (by decide)
    have vv_H11_31 : mo_v G H11 a0 31 = mo_v G H0 a0 31 := mo_v_F (r := 61) hB.1 hf h0 rfl ro_61 (by decide) (by decide)
    have tv_p69_H11 : mo_v G H11 a0 2 69 = mo_v G H0 a0 2 69 := congrFun (mo_v_F (j := 2) (r := 48) hB.1 hf h0 rfl ro_48 (by decide) (by decide)) 69
    have tv_p70_H11 : mo_v G H11 a0 2 70 = mo_v G H0 a0 2 70 := congrFun (mo_v_F (j := 2) (r := 48) hB.1 hf h0 rfl ro_48 (by decide) (by decide)) 70
    have w11_0 := tk_m2
    refine W.eq (g2 := F0 m 14 ls [.int x7]) rfl ?_
    exact th_iret hC hH hr hlocks rfl hB.2.1 ⟨_, rfl, hB.1, hB.2.2, hR, tv_p69_H11, tv_p70_H11⟩ dX12_force_14

set_option maxHeartbeats 4000000 in
set_option maxRecDepth 100000 in
theorem c_X12_lay_q (l : Launch) (G : th_G) (Γ : th_Ga) (H0 : Heap) (hI : th_I G Γ H0) (a0 : Nat) (h0 : Γ a0 = (46, 0)) (hR : th_RN a0 G Γ H0) (p1 : Int32) (p2 : Int32) (p3 : Int32) : Met l yX12_lay (.code yX12_lay cX12_lay 4 (some FieldType.int) :: th_tb) ({ frames := 54, cells := 0, slots := 0, locals := 1697 } : Room) (th_P [.ref a0, .int p1, .int p2, .int p3] G H0) (th_Q (fun (v : Option Value) (H1 : Heap) => ∃ r : Int32, v = some (.int r) ∧ th_I G Γ H1 ∧ th_F G Γ [(48, 0), (61, 0), (46, 33), (47, 0), (46, 0), (46, 22), (46, 24), (58, 0), (46, 23), (46, 25), (59, 0)] H0 H1 ∧ th_RN a0 G Γ H1 ∧ (mo_v G H1 a0 2 69 = mo_v G H0 a0 2 69) ∧ (mo_v G H1 a0 2 70 = mo_v G H0 a0 2 70)) G) 0 0 (fun q => G.2.2 ≤ q) := by
  refine th_met RX12 (by decide) rfl (Nat.le_of_ble_eq_true rfl) ?_
  intro p e s m below meth c hC hH hr hlocks hnm ls hl
  have hx := hC.1
  have hb := hC.2.1
  have hB : th_B G Γ Γ [(48, 0), (61, 0), (46, 33), (47, 0), (46, 0), (46, 22), (46, 24), (58, 0), (46, 23), (46, 25), (59, 0)] H0 H0 [] := ⟨hI, va_S.rf, th_F_rf⟩
  have hl : lv_has ls 4 [(0, .ref a0), (1, .int p1), (2, .int p2), (3, .int p3)] := hl
  have lp1 := ti_lo p1; have up1 := ti_hi p1
  have lp2 := ti_lo p2; have up2 := ti_hi p2
  have lp3 := ti_lo p3; have up3 := ti_hi p3
  refine lv_aload_n hx hb dX12_lay_0 rfl (lv_at hl 0 rfl) ?_
  refine lv_aload_n hx hb dX12_lay_1 rfl (lv_at hl 0 rfl) ?_
  refine lv_iload_n hx hb dX12_lay_2 rfl (lv_at hl 1 rfl) ?_
  refine lv_iload_n hx hb dX12_lay_3 rfl (lv_at hl 2 rfl) ?_
  refine lv_iload_n hx hb dX12_lay_4 rfl (lv_at hl 3 rfl) ?_
  refine th_call (th_runV (As := [.int p1, .int p2, .int p3]) (rest := [.ref a0]) hC mf_X12_laysKept km_X12_379 im_X12_laysKept se_X12_laysKept (c_X12_laysKept l G Γ H0 hB.1 a0 h0 hR p1 p2 p3) rfl rfl ⟨Nat.le_of_ble_eq_true rfl, Nat.le_of_ble_eq_true rfl⟩ hB.1 h0 ro_46 rfl rfl hl.1 rfl (Nat.le_of_ble_eq_true rfl) dX12_lay_5 ⟨Nat.le_refl _, Nat.le_refl _⟩) hB.2.1 (fun v5 H5 locs hp hz hS => ?_)
  obtain ⟨x1, rfl, lx1, ux1, hI1, hf, hR, z5_0⟩ := hp
  have hB := th_B_c hB hI1 hS hf (by decide)
  have tv_p69_H5 : mo_v G H5 a0 2 69 = mo_v G H0 a0 2 69 := (z5_0 69 (by omega))
  have tv_p70_H5 : mo_v G H5 a0 2 70 = mo_v G H0 a0 2 70 := (z5_0 70 (by omega))
  refine W.eq (g2 := F0 m 8 ls [.int x1, .ref a0]) rfl ?_
  refine th_call (th_runV (As := [.int x1]) (rest := []) hC mf_X12_goodOr km_X12_382 im_X12_goodOr se_X12_goodOr (c_X12_goodOr l G Γ H5 hB.1 hR.1 a0 h0 x1 (by omega)) rfl rfl ⟨Nat.le_of_ble_eq_true rfl, Nat.le_of_ble_eq_true rfl⟩ hB.1 h0 ro_46 rfl rfl hl.1 rfl (Nat.le_of_ble_eq_true rfl) dX12_lay_8 ⟨Nat.le_refl _, Nat.le_refl _⟩) hB.2.1 (fun v8 H8 locs hp hz hS => ?_)
  have hRD := hR
  obtain ⟨x2, rfl, hI1, hf, hR⟩ := hp
  have hR := th_RN_c hR hRD hI1 h0 hf (by decide)
  have hB := th_B_c hB hI1 hS hf (by decide)
  have vv_H8_2 : mo_v G H8 a0 2 = mo_v G H5 a0 2 := mo_v_F (r := 48) hB.1 hf h0 rfl ro_48 (by decide) (by decide)
  have tv_p69_H8 : mo_v G H8 a0 2 69 = mo_v G H0 a0 2 69 := (congrFun (mo_v_F (j := 2) (r := 48) hB.1 hf h0 rfl ro_48 (by decide) (by decide)) 69).trans tv_p69_H5
  have tv_p70_H8 : mo_v G H8 a0 2 70 = mo_v G H0 a0 2 70 := (congrFun (mo_v_F (j := 2) (r := 48) hB.1 hf h0 rfl ro_48 (by decide) (by decide)) 70).trans tv_p70_H5
  refine W.eq (g2 := F0 m 11 ls [.int x2]) rfl ?_
  exact th_iret hC hH hr hlocks rfl hB.2.1 ⟨_, rfl, hB.1, hB.2.2, hR, tv_p69_H8, tv_p70_H8⟩ dX12_lay_11

set_option maxHeartbeats 4000000 in
set_option maxRecDepth 100000 in
theorem c_X12_roll_q (l : Launch) (G : th_G) (Γ : th_Ga) (H0 : Heap) (hI : th_I G Γ H0) (a0 : Nat) (h0 : Γ a0 = (46, 0)) (hR : th_RN a0 G Γ H0) (p1 : Int32) : Met l yX12_roll (.code yX12_roll cX12_roll 2 (some FieldType.int) :: th_tb) ({ frames := 3, cells := 0, slots := 0, locals := 64 } : Room) (th_P [.ref a0, .int p1] G H0) (th_Q (fun (v : Option Value) (H1 : Heap) => ∃ r : Int32, v = some (.int r) ∧ th_I G Γ H1 ∧ th_F G Γ [(48, 0), (61, 0), (46, 33), (47, 0), (46, 0)] H0 H1 ∧ th_RN a0 G Γ H1 ∧ (mo_v G H1 a0 2 69 = mo_v G H0 a0 2 69) ∧ (mo_v G H1 a0 2 70 = mo_v G H0 a0 2 70)) G) 0 0 (fun q => G.2.2 ≤ q) := by
  refine th_met RX12 (by decide) rfl (Nat.le_of_ble_eq_true rfl) ?_
  intro p e s m below meth c hC hH hr hlocks hnm ls hl
  have hx := hC.1
  have hb := hC.2.1
  have hB : th_B G Γ Γ [(48, 0), (61, 0), (46, 33), (47, 0), (46, 0)] H0 H0 [] := ⟨hI, va_S.rf, th_F_rf⟩
  have hl : lv_has ls 2 [(0, .ref a0), (1, .int p1)] := hl
  have lp1 := ti_lo p1; have up1 := ti_hi p1
  refine lv_aload_n hx hb dX12_roll_0 rfl (lv_at hl 0 rfl) ?_
  refine lv_aload_n hx hb dX12_roll_1 rfl (lv_at hl 0 rfl) ?_
  refine lv_iload_n hx hb dX12_roll_2 rfl (lv_at hl 1 rfl) ?_
  refine th_call (th_runV (As := [.int p1]) (rest := [.ref a0]) hC mf_X12_rollsKept km_X12_385 im_X12_rollsKept se_X12_rollsKept (c_X12_rollsKept l G Γ H0 hB.1 a0 h0 hR p1) rfl rfl ⟨Nat.le_of_ble_eq_true rfl, Nat.le_of_ble_eq_true rfl⟩ hB.1 h0 ro_46 rfl rfl hl.1 rfl (Nat.le_of_ble_eq_true rfl) dX12_roll_3 ⟨Nat.le_refl _, Nat.le_refl _⟩) hB.2.1 (fun v3 H3 locs hp hz hS => ?_)
  obtain ⟨x1, rfl, lx1, ux1, hI1, hf, hR, z3_0⟩ := hp
  have hB := th_B_c hB hI1 hS hf (by decide)
  have tv_p69_H3 : mo_v G H3 a0 2 69 = mo_v G H0 a0 2 69 := (z3_0 69 (by omega))
  have tv_p70_H3 : mo_v G H3 a0 2 70 = mo_v G H0 a0 2 70 := (z3_0 70 (by omega))
  refine W.eq (g2 := F0 m 6 ls [.int x1, .ref a0]) rfl ?_
  refine th_call (th_runV (As := [.int x1]) (rest := []) hC mf_X12_goodOr km_X12_382 im_X12_goodOr se_X12_goodOr (c_X12_goodOr l G Γ H3 hB.1 hR.1 a0 h0 x1 (by omega)) rfl rfl ⟨Nat.le_of_ble_eq_true rfl, Nat.le_of_ble_eq_true rfl⟩ hB.1 h0 ro_46 rfl rfl hl.1 rfl (Nat.le_of_ble_eq_true rfl) dX12_roll_6 ⟨Nat.le_refl _, Nat.le_refl _⟩) hB.2.1 (fun v6 H6 locs hp hz hS => ?_)
  have hRD := hR
  obtain ⟨x2, rfl, hI1, hf, hR⟩ := hp
  have hR := th_RN_c hR hRD hI1 h0 hf (by decide)
  have hB := th_B_c hB hI1 hS hf (by decide)
  have vv_H6_2 : mo_v G H6 a0 2 = mo_v G H3 a0 2 := mo_v_F (r := 48) hB.1 hf h0 rfl ro_48 (by decide) (by decide)
  have tv_p69_H6 : mo_v G H6 a0 2 69 = mo_v G H0 a0 2 69 := (congrFun (mo_v_F (j := 2) (r := 48) hB.1 hf h0 rfl ro_48 (by decide) (by decide)) 69).trans tv_p69_H3
  have tv_p70_H6 : mo_v G H6 a0 2 70 = mo_v G H0 a0 2 70 := (congrFun (mo_v_F (j := 2) (r := 48) hB.1 hf h0 rfl ro_48 (by decide) (by decide)) 70).trans tv_p70_H3
  refine W.eq (g2 := F0 m 9 ls [.int x2]) rfl ?_
  exact th_iret hC hH hr hlocks rfl hB.2.1 ⟨_, rfl, hB.1, hB.2.2, hR, tv_p69_H6, tv_p70_H6⟩ dX12_roll_9

set_option maxHeartbeats 4000000 in
set_option maxRecDepth 100000 in
theorem c_X12_mirror_q (l : Launch) (G : th_G) (Γ : th_Ga) (H0 : Heap) (hI : th_I G Γ H0) (a0 : Nat) (h0 : Γ a0 = (46, 0)) (hR : th_RN a0 G Γ H0) : Met l yX12_mirror (.code yX12_mirror cX12_mirror 1 (some FieldType.int) :: th_tb) ({ frames := 3, cells := 0, slots := 0, locals := 64 } : Room) (th_P [.ref a0] G H0) (th_Q (fun (v : Option Value) (H1 : Heap) => ∃ r : Int32, v = some (.int r) ∧ th_I G Γ H1 ∧ th_F G Γ [(48, 0), (61, 0), (46, 33), (47, 0), (46, 0)] H0 H1 ∧ th_RN a0 G Γ H1 ∧ (mo_v G H1 a0 2 69 = mo_v G H0 a0 2 69) ∧ (mo_v G H1 a0 2 70 = mo_v G H0 a0 2 70)) G) 0 0 (fun q => G.2.2 ≤ q) := by
  refine th_met RX12 (by decide) rfl (Nat.le_of_ble_eq_true rfl) ?_
  intro p e s m below meth c hC hH hr hlocks hnm ls hl
  have hx := hC.1
  have hb := hC.2.1
  have hB : th_B G Γ Γ [(48, 0), (61, 0), (46, 33), (47, 0), (46, 0)] H0 H0 [] := ⟨hI, va_S.rf, th_F_rf⟩
  have hl : lv_has ls 1 [(0, .ref a0)] := hl
  refine lv_aload_n hx hb dX12_mirror_0 rfl (lv_at hl 0 rfl) ?_
  refine lv_aload_n hx hb dX12_mirror_1 rfl (lv_at hl 0 rfl) ?_
  refine th_call (th_runV (As := []) (rest := [.ref a0]) hC mf_X12_mirrorsKept km_X12_388 im_X12_mirrorsKept se_X12_mirrorsKept (c_X12_mirrorsKept l G Γ H0 hB.1 a0 h0 hR) rfl rfl ⟨Nat.le_of_ble_eq_true rfl, Nat.le_of_ble_eq_true rfl⟩ hB.1 h0 ro_46 rfl rfl hl.1 rfl (Nat.le_of_ble_eq_true rfl) dX12_mirror_2 ⟨Nat.le_refl _, Nat.le_refl _⟩) hB.2.1 (fun v2 H2 locs hp hz hS => ?_)
  obtain ⟨x1, rfl, lx1, ux1, hI1, hf, hR, z2_0⟩ := hp
  have hB := th_B_c hB hI1 hS hf (by decide)
  have tv_p69_H2 : mo_v G H2 a0 2 69 = mo_v G H0 a0 2 69 := (z2_0 69 (by omega))
  have tv_p70_H2 : mo_v G H2 a0 2 70 = mo_v G H0 a0 2 70 := (z2_0 70 (by omega))
  refine W.eq (g2 := F0 m 5 ls [.int x1, .ref a0]) rfl ?_
  refine th_call (th_runV (As := [.int x1]) (rest := []) hC mf_X12_goodOr km_X12_382 im_X12_goodOr se_X12_goodOr (c_X12_goodOr l G Γ H2 hB.1 hR.1 a0 h0 x1 (by omega)) rfl rfl ⟨Nat.le_of_ble_eq_true rfl, Nat.le_of_ble_eq_true rfl⟩ hB.1 h0 ro_46 rfl rfl hl.1 rfl (Nat.le_of_ble_eq_true rfl) dX12_mirror_5 ⟨Nat.le_refl _, Nat.le_refl _⟩) hB.2.1 (fun v5 H5 locs hp hz hS => ?_)
  have hRD := hR
  obtain ⟨x2, rfl, hI1, hf, hR⟩ := hp
  have hR := th_RN_c hR hRD hI1 h0 hf (by decide)
  have hB := th_B_c hB hI1 hS hf (by decide)
  have vv_H5_2 : mo_v G H5 a0 2 = mo_v G H2 a0 2 := mo_v_F (r := 48) hB.1 hf h0 rfl ro_48 (by decide) (by decide)
  have tv_p69_H5 : mo_v G H5 a0 2 69 = mo_v G H0 a0 2 69 := (congrFun (mo_v_F (j := 2) (r := 48) hB.1 hf h0 rfl ro_48 (by decide) (by decide)) 69).trans tv_p69_H2
  have tv_p70_H5 : mo_v G H5 a0 2 70 = mo_v G H0 a0 2 70 := (congrFun (mo_v_F (j := 2) (r := 48) hB.1 hf h0 rfl ro_48 (by decide) (by decide)) 70).trans tv_p70_H2
  refine W.eq (g2 := F0 m 8 ls [.int x2]) rfl ?_
  exact th_iret hC hH hr hlocks rfl hB.2.1 ⟨_, rfl, hB.1, hB.2.2, hR, tv_p69_H5, tv_p70_H5⟩ dX12_mirror_8

set_option maxHeartbeats 4000000 in
set_option maxRecDepth 100000 in
theorem c_X12_pass_q (l : Launch) (G : th_G) (Γ : th_Ga) (H0 : Heap) (hI : th_I G Γ H0) (a0 : Nat) (h0 : Γ a0 = (46, 0)) (hR : th_RN a0 G Γ H0) : Met l yX12_pass (.code yX12_pass cX12_pass 1 (some FieldType.int) :: th_tb) ({ frames := 54, cells := 0, slots := 0, locals := 1690 } : Room) (th_P [.ref a0] G H0) (th_Q (fun (v : Option Value) (H1 : Heap) => ∃ r : Int32, v = some (.int r) ∧ th_I G Γ H1 ∧ th_F G Γ [(48, 0), (61, 0), (46, 33), (47, 0), (46, 0), (46, 22), (46, 24), (58, 0), (46, 23), (46, 25), (60, 0)] H0 H1 ∧ th_RN a0 G Γ H1 ∧ (mo_v G H1 a0 2 69 = mo_v G H0 a0 2 69) ∧ (mo_v G H1 a0 2 70 = mo_v G H0 a0 2 70)) G) 0 0 (fun q => G.2.2 ≤ q) := by
  refine th_met RX12 (by decide) rfl (Nat.le_of_ble_eq_true rfl) ?_
  intro p e s m below meth c hC hH hr hlocks hnm ls hl
  have hx := hC.1
  have hb := hC.2.1
  have hB : th_B G Γ Γ [(48, 0), (61, 0), (46, 33), (47, 0), (46, 0), (46, 22), (46, 24), (58, 0), (46, 23), (46, 25), (60, 0)] H0 H0 [] := ⟨hI, va_S.rf, th_F_rf⟩
  have hl : lv_has ls 1 [(0, .ref a0)] := hl
  refine lv_aload_n hx hb dX12_pass_0 rfl (lv_at hl 0 rfl) ?_
  refine lv_aload_n hx hb dX12_pass_1 rfl (lv_at hl 0 rfl) ?_
  refine th_call (th_runV (As := []) (rest := [.ref a0]) hC mf_X12_passesKept km_X12_391 im_X12_passesKept se_X12_passesKept (c_X12_passesKept l G Γ H0 hB.1 a0 h0 hR) rfl rfl ⟨Nat.le_of_ble_eq_true rfl, Nat.le_of_ble_eq_true rfl⟩ hB.1 h0 ro_46 rfl rfl hl.1 rfl (Nat.le_of_ble_eq_true rfl) dX12_pass_2 ⟨Nat.le_refl _, Nat.le_refl _⟩) hB.2.1 (fun v2 H2 locs hp hz hS => ?_)
  obtain ⟨x1, rfl, lx1, ux1, hI1, hf, hR, z2_0⟩ := hp
  have hB := th_B_c hB hI1 hS hf (by decide)
  have tv_p69_H2 : mo_v G H2 a0 2 69 = mo_v G H0 a0 2 69 := (z2_0 69 (by omega))
  have tv_p70_H2 : mo_v G H2 a0 2 70 = mo_v G H0 a0 2 70 := (z2_0 70 (by omega))
  refine W.eq (g2 := F0 m 5 ls [.int x1, .ref a0]) rfl ?_
  refine th_call (th_runV (As := [.int x1]) (rest := []) hC mf_X12_goodOr km_X12_382 im_X12_goodOr se_X12_goodOr (c_X12_goodOr l G Γ H2 hB.1 hR.1 a0 h0 x1 (by omega)) rfl rfl ⟨Nat.le_of_ble_eq_true rfl, Nat.le_of_ble_eq_true rfl⟩ hB.1 h0 ro_46 rfl rfl hl.1 rfl (Nat.le_of_ble_eq_true rfl) dX12_pass_5 ⟨Nat.le_refl _, Nat.le_refl _⟩) hB.2.1 (fun v5 H5 locs hp hz hS => ?_)
  have hRD := hR
  obtain ⟨x2, rfl, hI1, hf, hR⟩ := hp
  have hR := th_RN_c hR hRD hI1 h0 hf (by decide)
  have hB := th_B_c hB hI1 hS hf (by decide)
  have vv_H5_2 : mo_v G H5 a0 2 = mo_v G H2 a0 2 := mo_v_F (r := 48) hB.1 hf h0 rfl ro_48 (by decide) (by decide)
  have tv_p69_H5 : mo_v G H5 a0 2 69 = mo_v G H0 a0 2 69 := (congrFun (mo_v_F (j := 2) (r := 48) hB.1 hf h0 rfl ro_48 (by decide) (by decide)) 69).trans tv_p69_H2
  have tv_p70_H5 : mo_v G H5 a0 2 70 = mo_v G H0 a0 2 70 := (congrFun (mo_v_F (j := 2) (r := 48) hB.1 hf h0 rfl ro_48 (by decide) (by decide)) 70).trans tv_p70_H2
  refine W.eq (g2 := F0 m 8 ls [.int x2]) rfl ?_
  exact th_iret hC hH hr hlocks rfl hB.2.1 ⟨_, rfl, hB.1, hB.2.2, hR, tv_p69_H5, tv_p70_H5⟩ dX12_pass_8

set_option maxHeartbeats 4000000 in
set_option maxRecDepth 100000 in
theorem c_X12_undo_q (l : Launch) (G : th_G) (Γ : th_Ga) (H0 : Heap) (hI : th_I G Γ H0) (a0 : Nat) (h0 : Γ a0 = (46, 0)) (hR : th_RN a0 G Γ H0) : Met l yX12_undo (.code yX12_undo cX12_undo 3 (some FieldType.int) :: th_tb) ({ frames := 1, cells := 0, slots := 0, locals := 21 } : Room) (th_P [.ref a0] G H0) (th_Q (fun (v : Option Value) (H1 : Heap) => ∃ r : Int32, v = some (.int r) ∧ th_I G Γ H1 ∧ th_F G Γ [(47, 0), (46, 0), (48, 0), (46, 33)] H0 H1 ∧ th_RN a0 G Γ H1 ∧ (mo_v G H1 a0 2 69 = mo_v G H0 a0 2 69) ∧ (mo_v G H1 a0 2 70 = mo_v G H0 a0 2 70)) G) 0 0 (fun q => G.2.2 ≤ q) := by
  refine th_met RX12 (by decide) rfl (Nat.le_of_ble_eq_true rfl) ?_
  intro p e s m below meth c hC hH hr hlocks hnm ls hl
  have hx := hC.1
  have hb := hC.2.1
  have hB : th_B G Γ Γ [(47, 0), (46, 0), (48, 0), (46, 33)] H0 H0 [] := ⟨hI, va_S.rf, th_F_rf⟩
  have hl : lv_has ls 3 [(0, .ref a0)] := hl
  refine lv_aload_n hx hb dX12_undo_0 rfl (lv_at hl 0 rfl) ?_
  refine th_getI (j := 33) hC cf_X12 hB.1 h0 ro_46 rfl rfl kf_X12_11 dX12_undo_1 (fun x1 mx1 lx1 ux1 => ?_)
  have fg2 : mo_f G H0 a0 33 = x1.toInt := mo_fat mx1
  refine tr_if_ne (tgt := 14) hx hb dX12_undo_4 (by decide) (Eq.refl _) (fun c4 => ?_) (fun c4 => ?_)
  · refine lv_aload_n hx hb dX12_undo_14 rfl (lv_at hl 0 rfl) ?_
    have hR0 := hR
    have hR := hR.1
    refine lv_dup hx hb dX12_undo_15 rfl ?_
    refine th_getK hC cf_X12 hB.1 h0 ro_46 rfl (j := 33) (by decide) mx1 kf_X12_11 dX12_undo_16 ?_
    have fg3 : mo_f G H0 a0 33 = x1.toInt := mo_fat mx1
    refine lv_iconst (v := 1) hx hb dX12_undo_19 (by decide) ?_
    refine tr_isub hx hb dX12_undo_20 (Eq.refl _) tk_1 (by omega) (by omega) (fun x4 ex4 => ?_)
    refine th_put hC cf_X12 hB h0 (Or.inl h0) ro_46 rfl (j := 33) rfl (th_sI (by omega) (by omega)) (by decide) rfl rfl rfl kf_X12_11 dX12_undo_21 (fun H21 locs hB hf hst21 => ?_)
    have hR := th_RC_F hB.1 hR hf (th_T_s h0 ro_46 hst21) (by decide)
    have vv_H21_2 : mo_v G H21 a0 2 = mo_v G H0 a0 2 := mo_v_F (r := 48) hB.1 hf h0 rfl ro_48 (by decide) (by decide)
    have vv_H21_3 : mo_v G H21 a0 3 = mo_v G H0 a0 3 := mo_v_F (r := 49) hB.1 hf h0 rfl ro_49 (by decide) (by decide)
    have vv_H21_4 : mo_v G H21 a0 4 = mo_v G H0 a0 4 := mo_v_F (r := 50) hB.1 hf h0 rfl ro_50 (by decide) (by decide)
    have vv_H21_31 : mo_v G H21 a0 31 = mo_v G H0 a0 31 := mo_v_F (r := 61) hB.1 hf h0 rfl ro_61 (by decide) (by decide)
    have tv_p69_H21 : mo_v G H21 a0 2 69 = mo_v G H0 a0 2 69 := congrFun (mo_v_F (j := 2) (r := 48) hB.1 hf h0 rfl ro_48 (by decide) (by decide)) 69
    have tv_p70_H21 : mo_v G H21 a0 2 70 = mo_v G H0 a0 2 70 := congrFun (mo_v_F (j := 2) (r := 48) hB.1 hf h0 rfl ro_48 (by decide) (by decide)) 70
    have fp21 : mo_f G H21 a0 33 = x4.toInt := mo_f_St hst21
    have mm5 := hst21.2.1
    refine lv_bipush (v := 30) hx hb dX12_undo_24 (by decide) ?_
    refine lv_aload_n hx hb dX12_undo_26 rfl (lv_at hl 0 rfl) ?_
    refine th_getK hC cf_X12 hB.1 h0 ro_46 rfl (j := 33) (by decide) mm5 kf_X12_11 dX12_undo_27 ?_
    have fg6 : mo_f G H21 a0 33 = x4.toInt := mo_fat mm5
    refine tr_imul hx hb dX12_undo_30 tk_30 (Eq.refl _) (by omega) (by omega) (fun x7 ex7 => ?_)
    refine lv_istore_n (lv' := [(1, .int x7), (0, .ref a0)]) hx hb dX12_undo_31 rfl hl (by decide) rfl (fun ls hl => ?_)
    refine lv_iconst (v := 0) hx hb dX12_undo_32 (by decide) ?_
    refine lv_istore_n (lv' := [(2, .int 0), (1, .int x7), (0, .ref a0)]) hx hb dX12_undo_33 rfl hl (by decide) rfl (fun ls hl => ?_)
    have lp34 : ∀ (n34 : Nat) (H34 : Heap) (locs : List Loc) (ls : Array Slot) (j34_2 : Int32), th_B G Γ Γ [(47, 0), (46, 0), (48, 0), (46, 33)] H0 H34 locs → th_RC G Γ H34 → lv_has ls 3 [(1, .int x7), (0, .ref a0), (2, .int j34_2)] → 0 ≤ j34_2.toInt → j34_2.toInt ≤ 29 → (∀ i : Int, mo_v G H34 a0 2 i = if 0 ≤ i ∧ i < j34_2.toInt then mo_v G H0 a0 31 (30 * (mo_f G H0 a0 33 - 1) + i) else mo_v G H0 a0 2 i) → mo_f G H34 a0 33 = mo_f G H0 a0 33 - 1 → mo_v G H34 a0 2 69 = mo_v G H0 a0 2 69 → mo_v G H34 a0 2 70 = mo_v G H0 a0 2 70 → (2147483648 : Int) - j34_2.toInt ≤ (n34 : Int) → W p l e ({ frames := 1, cells := 0, slots := 0, locals := 21 } : Room) s m ([.ref a0] : List Value).toArray below meth c H34 locs 0 0 (MQ below (th_Q (fun (v : Option Value) (H1 : Heap) => ∃ r : Int32, v = some (.int r) ∧ th_I G Γ H1 ∧ th_F G Γ [(47, 0), (46, 0), (48, 0), (46, 33)] H0 H1 ∧ th_RN a0 G Γ H1 ∧ (mo_v G H1 a0 2 69 = mo_v G H0 a0 2 69) ∧ (mo_v G H1 a0 2 70 = mo_v G H0 a0 2 70)) G) ([.ref a0] : List Value).toArray s 0 0 (fun q => G.2.2 ≤ q)) (F0 m 34 ls []) := by
      intro n34
      induction n34 with
      | zero => intro H34 locs ls j34_2 hB hR hl g34_0 g34_1 g34_2 g34_3 g34_4 g34_5 hm34; exact absurd hm34 (by have := ti_hi j34_2; omega)
      | succ n34 ih34 =>
        intro H34 locs ls j34_2 hB hR hl g34_0 g34_1 g34_2 g34_3 g34_4 g34_5 hm34
        have lj34_2 := ti_lo j34_2; have uj34_2 := ti_hi j34_2
        have vw_H34_3 : mo_v G H34 a0 3 = mo_v G H0 a0 3 := mo_v_F (r := 49) hB.1 hB.2.2 h0 rfl ro_49 (by decide) (by decide)
        have vw_H34_4 : mo_v G H34 a0 4 = mo_v G H0 a0 4 := mo_v_F (r := 50) hB.1 hB.2.2 h0 rfl ro_50 (by decide) (by decide)
        have vw_H34_31 : mo_v G H34 a0 31 = mo_v G H0 a0 31 := mo_v_F (r := 61) hB.1 hB.2.2 h0 rfl ro_61 (by decide) (by decide)
        have hm34 : (2147483648 : Int) - j34_2.toInt ≤ (n34 : Int) + 1 := by omega
        refine lv_iload_n hx hb dX12_undo_34 rfl (lv_at hl 2 rfl) ?_
        refine lv_bipush (v := 29) hx hb dX12_undo_35 (by decide) ?_
        refine tr_icmp_ge (tgt := 60) hx hb dX12_undo_37 (by decide) (Eq.refl _) tk_29 (fun c37 => ?_) (fun c37 => ?_)
        · refine lv_aload_n hx hb dX12_undo_60 rfl (lv_at hl 1 rfl) ?_
          have hR : th_RN a0 G Γ H34 := ⟨hR, by rw [mo_v_F (j := 3) (r := 49) hB.1 hB.2.2 h0 rfl ro_49 (by decide) (by decide), mo_v_F (j := 4) (r := 50) hB.1 hB.2.2 h0 rfl ro_50 (by decide) (by decide), mo_v_F (j := 31) (r := 61) hB.1 hB.2.2 h0 rfl ro_61 (by decide) (by decide), show mo_f G H34 a0 33 = mo_f G H0 a0 33 - 1 by omega]; exact mo_ok_un hR0.2 (by omega) (fun i a9 b9 => by rw [g34_2 i, if_pos (by omega)]) (fun i a9 => by rw [g34_2 i, if_neg (by omega)])⟩
          refine lv_aload_n hx hb dX12_undo_61 rfl (lv_at hl 1 rfl) ?_
          refine th_getO (j := 31) (r2 := 61) hC cf_X12 hB.1 h0 ro_46 rfl rfl kf_X12_72 dX12_undo_62 (fun b8 mb8 hb8 => ?_)
          refine lv_iload_n hx hb dX12_undo_65 rfl (lv_at hl 0 rfl) ?_
          refine lv_bipush (v := 29) hx hb dX12_undo_66 (by decide) ?_
          refine tr_iadd hx hb dX12_undo_68 (Eq.refl _) tk_29 (by omega) (by omega) (fun x9 ex9 => ?_)
          refine th_ialdF hC hB.1 hb8 ro_61 rfl (Eq.refl _) (by omega) (by omega) rfl dX12_undo_69 (fun x10 mx10 lx10 ux10 => ?_)
          have vgx10 : mo_v G H0 a0 31 ((30 * (x1.toInt - 1)) + 29) = x10.toInt := by rw [← (mo_v_F (r := 61) hB.1 hB.2.2 h0 rfl ro_61 (by decide) (by decide) : mo_v G H34 a0 31 = _)]; rw [show (((30 * (x1.toInt - 1)) + 29) : Int) = x9.toInt by omega]; exact mo_vat mb8 mx10 (by omega)
          refine th_call (th_runV (As := [.int x10]) (rest := []) hC mf_X12_good km_X12_14 im_X12_good se_X12_good (c_X12_good l G Γ H34 hB.1 hR.1 a0 h0 x10) rfl rfl ⟨Nat.le_of_ble_eq_true rfl, Nat.le_of_ble_eq_true rfl⟩ hB.1 h0 ro_46 rfl rfl hl.1 rfl (Nat.le_of_ble_eq_true rfl) dX12_undo_70 ⟨Nat.le_refl _, Nat.le_refl _⟩) hB.2.1 (fun v70 H70 locs hp hz hS => ?_)
          have hRD := hR
          obtain ⟨x11, rfl, q70_0, hI1, hf, hR⟩ := hp
          have hR := th_RN_c hR hRD hI1 h0 hf (by decide)
          have hB := th_B_c hB hI1 hS hf (by decide)
          have fv_H70_33 : mo_f G H70 a0 33 = mo_f G H34 a0 33 := mo_f_F hf h0 (by decide) (by decide)
          have vv_H70_2 : mo_v G H70 a0 2 = mo_v G H34 a0 2 := mo_v_F (r := 48) hB.1 hf h0 rfl ro_48 (by decide) (by decide)
          have vv_H70_3 : mo_v G H70 a0 3 = mo_v G H34 a0 3 := mo_v_F (r := 49) hB.1 hf h0 rfl ro_49 (by decide) (by decide)
          have vv_H70_4 : mo_v G H70 a0 4 = mo_v G H34 a0 4 := mo_v_F (r := 50) hB.1 hf h0 rfl ro_50 (by decide) (by decide)
          have vv_H70_31 : mo_v G H70 a0 31 = mo_v G H34 a0 31 := mo_v_F (r := 61) hB.1 hf h0 rfl ro_61 (by decide) (by decide)
          have tv_p69_H70 : mo_v G H70 a0 2 69 = mo_v G H0 a0 2 69 := (congrFun (mo_v_F (j := 2) (r := 48) hB.1 hf h0 rfl ro_48 (by decide) (by decide)) 69).trans g34_4
          have tv_p70_H70 : mo_v G H70 a0 2 70 = mo_v G H0 a0 2 70 := (congrFun (mo_v_F (j := 2) (r := 48) hB.1 hf h0 rfl ro_48 (by decide) (by decide)) 70).trans g34_5
          refine W.eq (g2 := F0 m 73 ls [.int x11]) rfl ?_
          exact th_iret hC hH hr hlocks rfl hB.2.1 ⟨_, rfl, hB.1, hB.2.2, hR, tv_p69_H70, tv_p70_H70⟩ dX12_undo_73
        · refine lv_aload_n hx hb dX12_undo_40 rfl (lv_at hl 1 rfl) ?_
          refine th_getO (j := 2) (r2 := 48) hC cf_X12 hB.1 h0 ro_46 rfl rfl kf_X12_28 dX12_undo_41 (fun b12 mb12 hb12 => ?_)
          have sb12 := (th_F_o hB.2.2 h0 ro_46 (j := 2) (by decide) (by decide)).symm.trans mb12
          refine lv_iload_n hx hb dX12_undo_44 rfl (lv_at hl 2 rfl) ?_
          refine lv_aload_n hx hb dX12_undo_45 rfl (lv_at hl 1 rfl) ?_
          refine th_getO (j := 31) (r2 := 61) hC cf_X12 hB.1 h0 ro_46 rfl rfl kf_X12_72 dX12_undo_46 (fun b13 mb13 hb13 => ?_)
          have sb13 := (th_F_o hB.2.2 h0 ro_46 (j := 31) (by decide) (by decide)).symm.trans mb13
          refine lv_iload_n hx hb dX12_undo_49 rfl (lv_at hl 0 rfl) ?_
          refine lv_iload_n hx hb dX12_undo_50 rfl (lv_at hl 2 rfl) ?_
          refine tr_iadd hx hb dX12_undo_51 (Eq.refl _) (Eq.refl _) (by omega) (by omega) (fun x14 ex14 => ?_)
          refine th_ialdF hC hB.1 hb13 ro_61 rfl (Eq.refl _) (by omega) (by omega) rfl dX12_undo_52 (fun x15 mx15 lx15 ux15 => ?_)
          have vgx15 : mo_v G H0 a0 31 ((30 * (x1.toInt - 1)) + j34_2.toInt) = x15.toInt := by rw [← (mo_v_F (r := 61) hB.1 hB.2.2 h0 rfl ro_61 (by decide) (by decide) : mo_v G H34 a0 31 = _)]; rw [show (((30 * (x1.toInt - 1)) + j34_2.toInt) : Int) = x14.toInt by omega]; exact mo_vat mb13 mx15 (by omega)
          refine th_iastF hC hB hb12 (Or.inl hb12) ro_48 rfl (by decide) (Eq.refl _) (by omega) (by omega) (by rw [(ek_a (by omega) (by omega))]; exact th_sIa) dX12_undo_53 (fun H53 locs hB hf53 hst53 => ?_)
          have hf := hf53
          have mm16 := (th_F_o hf h0 ro_46 (j := 2) (by decide) (by decide)).trans mb12
          have mm17 := (th_F_o hf h0 ro_46 (j := 31) (by decide) (by decide)).trans mb13
          have hR := th_RC_F hB.1 hR hf (th_T_s hb12 ro_48 hst53) (by decide)
          have fv_H53_33 : mo_f G H53 a0 33 = mo_f G H34 a0 33 := mo_f_F hf h0 (by decide) (by decide)
          have vv_H53_3 : mo_v G H53 a0 3 = mo_v G H34 a0 3 := mo_v_F (r := 49) hB.1 hf h0 rfl ro_49 (by decide) (by decide)
          have vv_H53_4 : mo_v G H53 a0 4 = mo_v G H34 a0 4 := mo_v_F (r := 50) hB.1 hf h0 rfl ro_50 (by decide) (by decide)
          have vv_H53_31 : mo_v G H53 a0 31 = mo_v G H34 a0 31 := mo_v_F (r := 61) hB.1 hf h0 rfl ro_61 (by decide) (by decide)
          have vs53 : mo_v G H53 a0 2 = mo_u (mo_v G H34 a0 2) j34_2.toInt x15.toInt := by rw [show (j34_2.toInt : Int) = j34_2.toInt by omega]; exact mo_v_st h0 hb12 (by decide) mb12 hst53 (by omega)
          have tv_p69_H53 : mo_v G H53 a0 2 69 = mo_v G H0 a0 2 69 := by rw [vs53, mo_un (by omega)]; exact g34_4
          have tv_p70_H53 : mo_v G H53 a0 2 70 = mo_v G H0 a0 2 70 := by rw [vs53, mo_un (by omega)]; exact g34_5
          refine tr_iinc (fun x18 => [(2, .int x18), (1, .int x7), (0, .ref a0)]) hx hb dX12_undo_54 hl (k := 2) rfl (Eq.refl _) tk_1 (by omega) (by omega) (by decide) (fun _ => rfl) (fun x18 ls ex18 hl => ?_)
          refine lv_goto (tgt := 34) hx hb dX12_undo_57 (by decide) ?_
          exact ih34 H53 locs ls x18 hB hR (lv_sub hl [1, 2, 0] rfl) (by omega) (by omega) (fun i => by rw [vs53]; by_cases q9 : i = j34_2.toInt; rw [mo_us q9, if_pos (by omega), q9, ← vgx15]; congr 1; omega; rw [mo_un q9, g34_2]; by_cases q8 : 0 ≤ i ∧ i < j34_2.toInt; rw [if_pos q8, if_pos (by omega)]; rw [if_neg q8, if_neg (by omega)]) (by omega) tv_p69_H53 tv_p70_H53 (by omega)
    exact lp34 ((2147483648 : Int) - (0)).toNat H21 locs ls 0 hB hR (lv_sub hl [1, 2, 0] rfl) (by decide) (by decide) (fun i => by rw [vv_H21_2, if_neg (by have w0 := tk_0; omega)]) (by have w0 := tk_0; omega) tv_p69_H21 tv_p70_H21 (by have w0 := tk_0; omega)
  · refine lv_aload_n hx hb dX12_undo_7 rfl (lv_at hl 0 rfl) ?_
    refine lv_bipush (v := (-3)) hx hb dX12_undo_8 (by decide) ?_
    refine th_call (th_runV (As := [.int (-3)]) (rest := []) hC mf_X12_refuses km_X12_109 im_X12_refuses se_X12_refuses (c_X12_refuses l G Γ H0 hB.1 hR.1 a0 h0 (-3) (by decide) (by decide)) rfl rfl ⟨Nat.le_of_ble_eq_true rfl, Nat.le_of_ble_eq_true rfl⟩ hB.1 h0 ro_46 rfl rfl hl.1 rfl (Nat.le_of_ble_eq_true rfl) dX12_undo_10 ⟨Nat.le_refl _, Nat.le_refl _⟩) hB.2.1 (fun v10 H10 locs hp hz hS => ?_)
    have hRD := hR
    obtain ⟨x19, rfl, q10_0, hI1, hf, hR⟩ := hp
    have hR := th_RN_c hR hRD hI1 h0 hf (by decide)
    have hB := th_B_c hB hI1 hS hf (by decide)
    have mm20 := (th_F_o hf h0 ro_46 (j := 33) (by decide) (by decide)).trans mx1
    have fv_H10_33 : mo_f G H10 a0 33 = mo_f G H0 a0 33 := mo_f_F hf h0 (by decide) (by decide)
    have vv_H10_2 : mo_v G H10 a0 2 = mo_v G H0 a0 2 := mo_v_F (r := 48) hB.1 hf h0 rfl ro_48 (by decide) (by decide)
    have vv_H10_3 : mo_v G H10 a0 3 = mo_v G H0 a0 3 := mo_v_F (r := 49) hB.1 hf h0 rfl ro_49 (by decide) (by decide)
    have vv_H10_4 : mo_v G H10 a0 4 = mo_v G H0 a0 4 := mo_v_F (r := 50) hB.1 hf h0 rfl ro_50 (by decide) (by decide)
    have vv_H10_31 : mo_v G H10 a0 31 = mo_v G H0 a0 31 := mo_v_F (r := 61) hB.1 hf h0 rfl ro_61 (by decide) (by decide)
    have tv_p69_H10 : mo_v G H10 a0 2 69 = mo_v G H0 a0 2 69 := congrFun (mo_v_F (j := 2) (r := 48) hB.1 hf h0 rfl ro_48 (by decide) (by decide)) 69
    have tv_p70_H10 : mo_v G H10 a0 2 70 = mo_v G H0 a0 2 70 := congrFun (mo_v_F (j := 2) (r := 48) hB.1 hf h0 rfl ro_48 (by decide) (by decide)) 70
    have w10_0 := tk_m3
    refine W.eq (g2 := F0 m 13 ls [.int x19]) rfl ?_
    exact th_iret hC hH hr hlocks rfl hB.2.1 ⟨_, rfl, hB.1, hB.2.2, hR, tv_p69_H10, tv_p70_H10⟩ dX12_undo_13

set_option maxHeartbeats 4000000 in
set_option maxRecDepth 100000 in
theorem c_X12_orders_q (l : Launch) (G : th_G) (Γ : th_Ga) (H0 : Heap) (hI : th_I G Γ H0) (a0 : Nat) (h0 : Γ a0 = (46, 0)) (hR : th_RN a0 G Γ H0) : Met l yX12_orders (.code yX12_orders cX12_orders 5 (some FieldType.int) :: th_tb) ({ frames := 75, cells := 0, slots := 0, locals := 2247 } : Room) (th_P [.ref a0] G H0) (th_Q (fun (v : Option Value) (H1 : Heap) => ∃ r : Int32, v = some (.int r) ∧ th_I G Γ H1 ∧ th_F G Γ [(47, 0), (46, 0), (46, 19), (46, 20), (46, 21), (46, 18), (57, 0), (56, 0), (55, 0), (46, 13), (46, 14), (46, 8), (46, 9), (46, 10), (46, 22), (46, 24), (46, 23), (46, 25), (46, 49), (46, 50), (46, 51), (46, 52), (69, 0), (48, 0), (61, 0), (46, 33), (58, 0), (59, 0), (60, 0), (46, 28), (46, 27), (46, 48), (46, 47), (51, 0), (62, 0)] H0 H1 ∧ th_RN a0 G Γ H1 ∧ (mo_v G H1 a0 2 69 = mo_v G H0 a0 2 69) ∧ (mo_v G H1 a0 2 70 = mo_v G H0 a0 2 70)) G) 0 0 (fun q => G.2.2 ≤ q) := by
  refine th_met RX12 (by decide) rfl (Nat.le_of_ble_eq_true rfl) ?_
  intro p e s m below meth c hC hH hr hlocks hnm ls hl
  have hx := hC.1
  have hb := hC.2.1
  have hB : th_B G Γ Γ [(47, 0), (46, 0), (46, 19), (46, 20), (46, 21), (46, 18), (57, 0), (56, 0), (55, 0), (46, 13), (46, 14), (46, 8), (46, 9), (46, 10), (46, 22), (46, 24), (46, 23), (46, 25), (46, 49), (46, 50), (46, 51), (46, 52), (69, 0), (48, 0), (61, 0), (46, 33), (58, 0), (59, 0), (60, 0), (46, 28), (46, 27), (46, 48), (46, 47), (51, 0), (62, 0)] H0 H0 [] := ⟨hI, va_S.rf, th_F_rf⟩
  have hl : lv_has ls 5 [(0, .ref a0)] := hl
  refine lv_aload_n hx hb dX12_orders_0 rfl (lv_at hl 0 rfl) ?_
  refine lv_iconst (v := (-1)) hx hb dX12_orders_1 (by decide) ?_
  refine th_put hC cf_X12 hB h0 (Or.inl h0) ro_46 rfl (j := 47) rfl th_sIa (by decide) rfl rfl rfl kf_X12_97 dX12_orders_2 (fun H2 locs hB hf hst2 => ?_)
  have hR := th_RN_F hB.1 hR h0 hf (th_T_s h0 ro_46 hst2) (by decide)
  have fv_H2_18 : mo_f G H2 a0 18 = mo_f G H0 a0 18 := mo_f_F hf h0 (by decide) (by decide)
  have fv_H2_33 : mo_f G H2 a0 33 = mo_f G H0 a0 33 := mo_f_F hf h0 (by decide) (by decide)
  have fv_H2_48 : mo_f G H2 a0 48 = mo_f G H0 a0 48 := mo_f_F hf h0 (by decide) (by decide)
  have vv_H2_2 : mo_v G H2 a0 2 = mo_v G H0 a0 2 := mo_v_F (r := 48) hB.1 hf h0 rfl ro_48 (by decide) (by decide)
  have vv_H2_3 : mo_v G H2 a0 3 = mo_v G H0 a0 3 := mo_v_F (r := 49) hB.1 hf h0 rfl ro_49 (by decide) (by decide)
  have vv_H2_4 : mo_v G H2 a0 4 = mo_v G H0 a0 4 := mo_v_F (r := 50) hB.1 hf h0 rfl ro_50 (by decide) (by decide)
  have vv_H2_31 : mo_v G H2 a0 31 = mo_v G H0 a0 31 := mo_v_F (r := 61) hB.1 hf h0 rfl ro_61 (by decide) (by decide)
  have vv_H2_5 : mo_v G H2 a0 5 = mo_v G H0 a0 5 := mo_v_F (r := 51) hB.1 hf h0 rfl ro_51 (by decide) (by decide)
  have vv_H2_15 : mo_v G H2 a0 15 = mo_v G H0 a0 15 := mo_v_F (r := 55) hB.1 hf h0 rfl ro_55 (by decide) (by decide)
  have vv_H2_32 : mo_v G H2 a0 32 = mo_v G H0 a0 32 := mo_v_F (r := 62) hB.1 hf h0 rfl ro_62 (by decide) (by decide)
  have tv_p69_H2 : mo_v G H2 a0 2 69 = mo_v G H0 a0 2 69 := congrFun (mo_v_F (j := 2) (r := 48) hB.1 hf h0 rfl ro_48 (by decide) (by decide)) 69
  have tv_p70_H2 : mo_v G H2 a0 2 70 = mo_v G H0 a0 2 70 := congrFun (mo_v_F (j := 2) (r := 48) hB.1 hf h0 rfl ro_48 (by decide) (by decide)) 70
  refine lv_aload_n hx hb dX12_orders_5 rfl (lv_at hl 0 rfl) ?_
  refine lv_iconst (v := 1) hx hb dX12_orders_6 (by decide) ?_
  refine th_call (th_runV (As := [.int 1]) (rest := []) hC mf_X12_readsAs km_X12_268 im_X12_readsAs se_X12_readsAs (c_X12_readsAs l G Γ H2 hB.1 hR.1 a0 h0 1 (by decide) (by decide)) rfl rfl ⟨Nat.le_of_ble_eq_true rfl, Nat.le_of_ble_eq_true rfl⟩ hB.1 h0 ro_46 rfl rfl hl.1 rfl (Nat.le_of_ble_eq_true rfl) dX12_orders_7 ⟨Nat.le_refl _, Nat.le_refl _⟩) hB.2.1 (fun v7 H7 locs hp hz hS => ?_)
  have hRD := hR
  obtain ⟨x1, rfl, lx1, ux1, hI1, hf, hR, z7_0⟩ := hp
  have hR := th_RN_c hR hRD hI1 h0 hf (by decide)
  have hB := th_B_c hB hI1 hS hf (by decide)
  have fv_H7_33 : mo_f G H7 a0 33 = mo_f G H2 a0 33 := mo_f_F hf h0 (by decide) (by decide)
  have fv_H7_48 : mo_f G H7 a0 48 = mo_f G H2 a0 48 := mo_f_F hf h0 (by decide) (by decide)
  have vv_H7_2 : mo_v G H7 a0 2 = mo_v G H2 a0 2 := mo_v_F (r := 48) hB.1 hf h0 rfl ro_48 (by decide) (by decide)
  have vv_H7_3 : mo_v G H7 a0 3 = mo_v G H2 a0 3 := mo_v_F (r := 49) hB.1 hf h0 rfl ro_49 (by decide) (by decide)
  have vv_H7_4 : mo_v G H7 a0 4 = mo_v G H2 a0 4 := mo_v_F (r := 50) hB.1 hf h0 rfl ro_50 (by decide) (by decide)
  have vv_H7_31 : mo_v G H7 a0 31 = mo_v G H2 a0 31 := mo_v_F (r := 61) hB.1 hf h0 rfl ro_61 (by decide) (by decide)
  have vv_H7_5 : mo_v G H7 a0 5 = mo_v G H2 a0 5 := mo_v_F (r := 51) hB.1 hf h0 rfl ro_51 (by decide) (by decide)
  have vv_H7_32 : mo_v G H7 a0 32 = mo_v G H2 a0 32 := mo_v_F (r := 62) hB.1 hf h0 rfl ro_62 (by decide) (by decide)
  have tv_p69_H7 : mo_v G H7 a0 2 69 = mo_v G H0 a0 2 69 := (congrFun (mo_v_F (j := 2) (r := 48) hB.1 hf h0 rfl ro_48 (by decide) (by decide)) 69).trans tv_p69_H2
  have tv_p70_H7 : mo_v G H7 a0 2 70 = mo_v G H0 a0 2 70 := (congrFun (mo_v_F (j := 2) (r := 48) hB.1 hf h0 rfl ro_48 (by decide) (by decide)) 70).trans tv_p70_H2
  refine W.eq (g2 := F0 m 10 ls [.int x1]) rfl ?_
  refine tr_if_ne (tgt := 20) hx hb dX12_orders_10 (by decide) (Eq.refl _) (fun c10 => ?_) (fun c10 => ?_)
  · refine lv_aload_n hx hb dX12_orders_20 rfl (lv_at hl 0 rfl) ?_
    refine lv_iconst (v := 1) hx hb dX12_orders_21 (by decide) ?_
    refine th_call (th_runV (As := [.int 1]) (rest := []) hC mf_X12_laysAside km_X12_477 im_X12_laysAside se_X12_laysAside (c_X12_laysAside l G Γ H7 hB.1 hR.1 a0 h0 1 (by decide) (by decide)) rfl rfl ⟨Nat.le_of_ble_eq_true rfl, Nat.le_of_ble_eq_true rfl⟩ hB.1 h0 ro_46 rfl rfl hl.1 rfl (Nat.le_of_ble_eq_true rfl) dX12_orders_22 ⟨Nat.le_refl _, Nat.le_refl _⟩) hB.2.1 (fun v22 H22 locs hp hz hS => ?_)
    have hRD := hR
    obtain ⟨rfl, hI1, hf, hR, z22_0⟩ := hp
    have hR := th_RN_c hR hRD hI1 h0 hf (by decide)
    have hB := th_B_c hB hI1 hS hf (by decide)
    have fv_H22_18 : mo_f G H22 a0 18 = mo_f G H7 a0 18 := mo_f_F hf h0 (by decide) (by decide)
    have fv_H22_33 : mo_f G H22 a0 33 = mo_f G H7 a0 33 := mo_f_F hf h0 (by decide) (by decide)
    have fv_H22_48 : mo_f G H22 a0 48 = mo_f G H7 a0 48 := mo_f_F hf h0 (by decide) (by decide)
    have vv_H22_2 : mo_v G H22 a0 2 = mo_v G H7 a0 2 := mo_v_F (r := 48) hB.1 hf h0 rfl ro_48 (by decide) (by decide)
    have vv_H22_3 : mo_v G H22 a0 3 = mo_v G H7 a0 3 := mo_v_F (r := 49) hB.1 hf h0 rfl ro_49 (by decide) (by decide)
    have vv_H22_4 : mo_v G H22 a0 4 = mo_v G H7 a0 4 := mo_v_F (r := 50) hB.1 hf h0 rfl ro_50 (by decide) (by decide)
    have vv_H22_31 : mo_v G H22 a0 31 = mo_v G H7 a0 31 := mo_v_F (r := 61) hB.1 hf h0 rfl ro_61 (by decide) (by decide)
    have vv_H22_15 : mo_v G H22 a0 15 = mo_v G H7 a0 15 := mo_v_F (r := 55) hB.1 hf h0 rfl ro_55 (by decide) (by decide)
    have vv_H22_32 : mo_v G H22 a0 32 = mo_v G H7 a0 32 := mo_v_F (r := 62) hB.1 hf h0 rfl ro_62 (by decide) (by decide)
    have tv_p69_H22 : mo_v G H22 a0 2 69 = mo_v G H0 a0 2 69 := (congrFun (mo_v_F (j := 2) (r := 48) hB.1 hf h0 rfl ro_48 (by decide) (by decide)) 69).trans tv_p69_H7
    have tv_p70_H22 : mo_v G H22 a0 2 70 = mo_v G H0 a0 2 70 := (congrFun (mo_v_F (j := 2) (r := 48) hB.1 hf h0 rfl ro_48 (by decide) (by decide)) 70).trans tv_p70_H7
    refine W.eq (g2 := F0 m 25 ls []) rfl ?_
    refine lv_iconst (v := 0) hx hb dX12_orders_25 (by decide) ?_
    refine lv_istore_n (lv' := [(1, .int 0), (0, .ref a0)]) hx hb dX12_orders_26 rfl hl (by decide) rfl (fun ls hl => ?_)
    have lp27 : ∀ (n27 : Nat) (H27 : Heap) (locs : List Loc) (ls : Array Slot) (j27_1 : Int32), th_B G Γ Γ [(47, 0), (46, 0), (46, 19), (46, 20), (46, 21), (46, 18), (57, 0), (56, 0), (55, 0), (46, 13), (46, 14), (46, 8), (46, 9), (46, 10), (46, 22), (46, 24), (46, 23), (46, 25), (46, 49), (46, 50), (46, 51), (46, 52), (69, 0), (48, 0), (61, 0), (46, 33), (58, 0), (59, 0), (60, 0), (46, 28), (46, 27), (46, 48), (46, 47), (51, 0), (62, 0)] H0 H27 locs → th_RN a0 G Γ H27 → lv_has ls 5 [(0, .ref a0), (1, .int j27_1)] → 0 ≤ j27_1.toInt → j27_1.toInt ≤ 480 → (∀ z : Int, 0 ≤ z → z < j27_1.toInt → mo_v G H27 a0 32 z = mo_v G H22 a0 31 z) → mo_sr G H22 H27 a0 → mo_v G H27 a0 2 69 = mo_v G H0 a0 2 69 → mo_v G H27 a0 2 70 = mo_v G H0 a0 2 70 → (2147483648 : Int) - j27_1.toInt ≤ (n27 : Int) → W p l e ({ frames := 75, cells := 0, slots := 0, locals := 2247 } : Room) s m ([.ref a0] : List Value).toArray below meth c H27 locs 0 0 (MQ below (th_Q (fun (v : Option Value) (H1 : Heap) => ∃ r : Int32, v = some (.int r) ∧ th_I G Γ H1 ∧ th_F G Γ [(47, 0), (46, 0), (46, 19), (46, 20), (46, 21), (46, 18), (57, 0), (56, 0), (55, 0), (46, 13), (46, 14), (46, 8), (46, 9), (46, 10), (46, 22), (46, 24), (46, 23), (46, 25), (46, 49), (46, 50), (46, 51), (46, 52), (69, 0), (48, 0), (61, 0), (46, 33), (58, 0), (59, 0), (60, 0), (46, 28), (46, 27), (46, 48), (46, 47), (51, 0), (62, 0)] H0 H1 ∧ th_RN a0 G Γ H1 ∧ (mo_v G H1 a0 2 69 = mo_v G H0 a0 2 69) ∧ (mo_v G H1 a0 2 70 = mo_v G H0 a0 2 70)) G) ([.ref a0] : List Value).toArray s 0 0 (fun q => G.2.2 ≤ q)) (F0 m 27 ls []) := by
      intro n27
      induction n27 with
      | zero => intro H27 locs ls j27_1 hB hR hl g27_0 g27_1 g27_2 g27_3 g27_4 g27_5 hm27; exact absurd hm27 (by have := ti_hi j27_1; omega)
      | succ n27 ih27 =>
        intro H27 locs ls j27_1 hB hR hl g27_0 g27_1 g27_2 g27_3 g27_4 g27_5 hm27
        have lj27_1 := ti_lo j27_1; have uj27_1 := ti_hi j27_1
        have vw_H27_3 : mo_v G H27 a0 3 = mo_v G H0 a0 3 := mo_v_F (r := 49) hB.1 hB.2.2 h0 rfl ro_49 (by decide) (by decide)
        have vw_H27_4 : mo_v G H27 a0 4 = mo_v G H0 a0 4 := mo_v_F (r := 50) hB.1 hB.2.2 h0 rfl ro_50 (by decide) (by decide)
        have hm27 : (2147483648 : Int) - j27_1.toInt ≤ (n27 : Int) + 1 := by omega
        refine lv_iload_n hx hb dX12_orders_27 rfl (lv_at hl 1 rfl) ?_
        refine lv_sipush (v := 480) hx hb dX12_orders_28 (by decide) ?_
        refine tr_icmp_ge (tgt := 52) hx hb dX12_orders_31 (by decide) (Eq.refl _) tk_480 (fun c31 => ?_) (fun c31 => ?_)
        · refine lv_aload_n hx hb dX12_orders_52 rfl (lv_at hl 0 rfl) ?_
          have hB27 := hB
          refine th_getI (j := 33) hC cf_X12 hB.1 h0 ro_46 rfl rfl kf_X12_11 dX12_orders_53 (fun x2 mx2 lx2 ux2 => ?_)
          have fg3 : mo_f G H27 a0 33 = x2.toInt := mo_fat mx2
          refine lv_istore_n (lv' := [(1, .int x2), (0, .ref a0)]) hx hb dX12_orders_56 rfl hl (by decide) rfl (fun ls hl => ?_)
          refine lv_aload_n hx hb dX12_orders_57 rfl (lv_at hl 1 rfl) ?_
          refine lv_bipush (v := 6) hx hb dX12_orders_58 (by decide) ?_
          refine th_call (th_runV (As := [.int 6]) (rest := []) hC mf_X12_lays km_X12_272 im_X12_lays se_X12_lays (c_X12_lays l G Γ H27 hB.1 hR.1 a0 h0 6 (by decide) (by decide)) rfl rfl ⟨Nat.le_of_ble_eq_true rfl, Nat.le_of_ble_eq_true rfl⟩ hB.1 h0 ro_46 rfl rfl hl.1 rfl (Nat.le_of_ble_eq_true rfl) dX12_orders_60 ⟨Nat.le_refl _, Nat.le_refl _⟩) hB.2.1 (fun v60 H60 locs hp hz hS => ?_)
          have hRD := hR
          obtain ⟨rfl, hI1, hf, hR, z60_0⟩ := hp
          have hRc60 := hR
          have hR := hRD
          have hRC := hRc60
          have hB := th_B_c hB hI1 hS hf (by decide)
          have fv_H60_18 : mo_f G H60 a0 18 = mo_f G H27 a0 18 := mo_f_F hf h0 (by decide) (by decide)
          have fv_H60_33 : mo_f G H60 a0 33 = mo_f G H27 a0 33 := mo_f_F hf h0 (by decide) (by decide)
          have fv_H60_48 : mo_f G H60 a0 48 = mo_f G H27 a0 48 := mo_f_F hf h0 (by decide) (by decide)
          have vv_H60_3 : mo_v G H60 a0 3 = mo_v G H27 a0 3 := mo_v_F (r := 49) hB.1 hf h0 rfl ro_49 (by decide) (by decide)
          have vv_H60_4 : mo_v G H60 a0 4 = mo_v G H27 a0 4 := mo_v_F (r := 50) hB.1 hf h0 rfl ro_50 (by decide) (by decide)
          have vv_H60_31 : mo_v G H60 a0 31 = mo_v G H27 a0 31 := mo_v_F (r := 61) hB.1 hf h0 rfl ro_61 (by decide) (by decide)
          have vv_H60_5 : mo_v G H60 a0 5 = mo_v G H27 a0 5 := mo_v_F (r := 51) hB.1 hf h0 rfl ro_51 (by decide) (by decide)
          have vv_H60_15 : mo_v G H60 a0 15 = mo_v G H27 a0 15 := mo_v_F (r := 55) hB.1 hf h0 rfl ro_55 (by decide) (by decide)
          have vv_H60_32 : mo_v G H60 a0 32 = mo_v G H27 a0 32 := mo_v_F (r := 62) hB.1 hf h0 rfl ro_62 (by decide) (by decide)
          have tv_p69_H60 : mo_v G H60 a0 2 69 = mo_v G H0 a0 2 69 := (show mo_v G H60 a0 2 69 = mo_v G H27 a0 2 69 from (by have w6 := tk_6; rw [z60_0 69 (by omega)]; unfold mo_ly; rw [if_neg (by omega), if_neg (by omega)])).trans g27_4
          have tv_p70_H60 : mo_v G H60 a0 2 70 = mo_v G H0 a0 2 70 := (show mo_v G H60 a0 2 70 = mo_v G H27 a0 2 70 from (by have w6 := tk_6; rw [z60_0 70 (by omega)]; unfold mo_ly; rw [if_neg (by omega), if_neg (by omega)])).trans g27_5
          refine W.eq (g2 := F0 m 63 ls []) rfl ?_
          have sr27 := g27_3
          have la27 := g27_2
          have n400 := (mo_f_rg hB27.1 h0 (j := 18) rfl)
          obtain ⟨nn, enn⟩ : ∃ n : Int, n = mo_f G H27 a0 18 := ⟨_, rfl⟩
          have ly : ∀ z : Int, z < 2880 → mo_v G H60 a0 2 z = mo_ly (mo_v G H27 a0 2) (mo_v G H27 a0 15) 6 nn nn z := by rw [enn]; exact z60_0
          have hR : th_RN a0 G Γ H60 := ⟨hRC, by rw [vv_H60_3, vv_H60_4, vv_H60_31, fv_H60_33]; exact mo_ok_6 hR.2 (by omega) ly⟩
          have hR60 := hR
          have hB60 := hB
          obtain ⟨T, eT⟩ : ∃ T : Int → Int, T = mo_tf (mo_v G H60 a0 2) 2480 nn := ⟨_, rfl⟩
          have TX : mo_text 1 T nn := by have q9 := z7_0 (by omega); unfold mo_cr at q9; rw [eT, mo_tf_6 (by omega) ly, sr27.2.2.1, vv_H22_15, enn, sr27.2.2.2.2.1, show mo_f G H22 a0 18 = mo_f G H7 a0 18 by omega]; exact q9
          refine lv_aload_n hx hb dX12_orders_63 rfl (lv_at hl 1 rfl) ?_
          refine lv_iconst (v := 0) hx hb dX12_orders_64 (by decide) ?_
          refine th_put hC cf_X12 hB h0 (Or.inl h0) ro_46 rfl (j := 27) rfl th_sIa (by decide) rfl rfl rfl kf_X12_317 dX12_orders_65 (fun H65 locs hB hf hst65 => ?_)
          have hR := th_RN_F hB.1 hR h0 hf (th_T_s h0 ro_46 hst65) (by decide)
          have fv_H65_18 : mo_f G H65 a0 18 = mo_f G H60 a0 18 := mo_f_F hf h0 (by decide) (by decide)
          have fv_H65_33 : mo_f G H65 a0 33 = mo_f G H60 a0 33 := mo_f_F hf h0 (by decide) (by decide)
          have fv_H65_48 : mo_f G H65 a0 48 = mo_f G H60 a0 48 := mo_f_F hf h0 (by decide) (by decide)
          have vv_H65_2 : mo_v G H65 a0 2 = mo_v G H60 a0 2 := mo_v_F (r := 48) hB.1 hf h0 rfl ro_48 (by decide) (by decide)
          have vv_H65_3 : mo_v G H65 a0 3 = mo_v G H60 a0 3 := mo_v_F (r := 49) hB.1 hf h0 rfl ro_49 (by decide) (by decide)
          have vv_H65_4 : mo_v G H65 a0 4 = mo_v G H60 a0 4 := mo_v_F (r := 50) hB.1 hf h0 rfl ro_50 (by decide) (by decide)
          have vv_H65_31 : mo_v G H65 a0 31 = mo_v G H60 a0 31 := mo_v_F (r := 61) hB.1 hf h0 rfl ro_61 (by decide) (by decide)
          have vv_H65_5 : mo_v G H65 a0 5 = mo_v G H60 a0 5 := mo_v_F (r := 51) hB.1 hf h0 rfl ro_51 (by decide) (by decide)
          have vv_H65_15 : mo_v G H65 a0 15 = mo_v G H60 a0 15 := mo_v_F (r := 55) hB.1 hf h0 rfl ro_55 (by decide) (by decide)
          have vv_H65_32 : mo_v G H65 a0 32 = mo_v G H60 a0 32 := mo_v_F (r := 62) hB.1 hf h0 rfl ro_62 (by decide) (by decide)
          have tv_p69_H65 : mo_v G H65 a0 2 69 = mo_v G H0 a0 2 69 := (congrFun (mo_v_F (j := 2) (r := 48) hB.1 hf h0 rfl ro_48 (by decide) (by decide)) 69).trans tv_p69_H60
          have tv_p70_H65 : mo_v G H65 a0 2 70 = mo_v G H0 a0 2 70 := (congrFun (mo_v_F (j := 2) (r := 48) hB.1 hf h0 rfl ro_48 (by decide) (by decide)) 70).trans tv_p70_H60
          have mm4 := hst65.2.1
          refine lv_aload_n hx hb dX12_orders_68 rfl (lv_at hl 1 rfl) ?_
          refine lv_iconst (v := (-1)) hx hb dX12_orders_69 (by decide) ?_
          refine th_put hC cf_X12 hB h0 (Or.inl h0) ro_46 rfl (j := 28) rfl th_sIa (by decide) rfl rfl rfl kf_X12_320 dX12_orders_70 (fun H70 locs hB hf hst70 => ?_)
          have mm5 := (th_F_o hf h0 ro_46 (j := 27) (by decide) (by decide)).trans mm4
          have hR := th_RN_F hB.1 hR h0 hf (th_T_s h0 ro_46 hst70) (by decide)
          have fv_H70_18 : mo_f G H70 a0 18 = mo_f G H65 a0 18 := mo_f_F hf h0 (by decide) (by decide)
          have fv_H70_33 : mo_f G H70 a0 33 = mo_f G H65 a0 33 := mo_f_F hf h0 (by decide) (by decide)
          have fv_H70_48 : mo_f G H70 a0 48 = mo_f G H65 a0 48 := mo_f_F hf h0 (by decide) (by decide)
          have vv_H70_2 : mo_v G H70 a0 2 = mo_v G H65 a0 2 := mo_v_F (r := 48) hB.1 hf h0 rfl ro_48 (by decide) (by decide)
          have vv_H70_3 : mo_v G H70 a0 3 = mo_v G H65 a0 3 := mo_v_F (r := 49) hB.1 hf h0 rfl ro_49 (by decide) (by decide)
          have vv_H70_4 : mo_v G H70 a0 4 = mo_v G H65 a0 4 := mo_v_F (r := 50) hB.1 hf h0 rfl ro_50 (by decide) (by decide)
          have vv_H70_31 : mo_v G H70 a0 31 = mo_v G H65 a0 31 := mo_v_F (r := 61) hB.1 hf h0 rfl ro_61 (by decide) (by decide)
          have vv_H70_5 : mo_v G H70 a0 5 = mo_v G H65 a0 5 := mo_v_F (r := 51) hB.1 hf h0 rfl ro_51 (by decide) (by decide)
          have vv_H70_15 : mo_v G H70 a0 15 = mo_v G H65 a0 15 := mo_v_F (r := 55) hB.1 hf h0 rfl ro_55 (by decide) (by decide)
          have vv_H70_32 : mo_v G H70 a0 32 = mo_v G H65 a0 32 := mo_v_F (r := 62) hB.1 hf h0 rfl ro_62 (by decide) (by decide)
          have tv_p69_H70 : mo_v G H70 a0 2 69 = mo_v G H0 a0 2 69 := (congrFun (mo_v_F (j := 2) (r := 48) hB.1 hf h0 rfl ro_48 (by decide) (by decide)) 69).trans tv_p69_H65
          have tv_p70_H70 : mo_v G H70 a0 2 70 = mo_v G H0 a0 2 70 := (congrFun (mo_v_F (j := 2) (r := 48) hB.1 hf h0 rfl ro_48 (by decide) (by decide)) 70).trans tv_p70_H65
          refine lv_aload_n hx hb dX12_orders_73 rfl (lv_at hl 1 rfl) ?_
          refine lv_sipush (v := 2400) hx hb dX12_orders_74 (by decide) ?_
          refine th_put hC cf_X12 hB h0 (Or.inl h0) ro_46 rfl (j := 48) rfl th_sIa (by decide) rfl rfl rfl kf_X12_480 dX12_orders_77 (fun H77 locs hB hf hst77 => ?_)
          have mm6 := (th_F_o hf h0 ro_46 (j := 27) (by decide) (by decide)).trans mm5
          have hR := th_RN_F hB.1 hR h0 hf (th_T_s h0 ro_46 hst77) (by decide)
          have fv_H77_18 : mo_f G H77 a0 18 = mo_f G H70 a0 18 := mo_f_F hf h0 (by decide) (by decide)
          have fv_H77_33 : mo_f G H77 a0 33 = mo_f G H70 a0 33 := mo_f_F hf h0 (by decide) (by decide)
          have vv_H77_2 : mo_v G H77 a0 2 = mo_v G H70 a0 2 := mo_v_F (r := 48) hB.1 hf h0 rfl ro_48 (by decide) (by decide)
          have vv_H77_3 : mo_v G H77 a0 3 = mo_v G H70 a0 3 := mo_v_F (r := 49) hB.1 hf h0 rfl ro_49 (by decide) (by decide)
          have vv_H77_4 : mo_v G H77 a0 4 = mo_v G H70 a0 4 := mo_v_F (r := 50) hB.1 hf h0 rfl ro_50 (by decide) (by decide)
          have vv_H77_31 : mo_v G H77 a0 31 = mo_v G H70 a0 31 := mo_v_F (r := 61) hB.1 hf h0 rfl ro_61 (by decide) (by decide)
          have vv_H77_5 : mo_v G H77 a0 5 = mo_v G H70 a0 5 := mo_v_F (r := 51) hB.1 hf h0 rfl ro_51 (by decide) (by decide)
          have vv_H77_15 : mo_v G H77 a0 15 = mo_v G H70 a0 15 := mo_v_F (r := 55) hB.1 hf h0 rfl ro_55 (by decide) (by decide)
          have vv_H77_32 : mo_v G H77 a0 32 = mo_v G H70 a0 32 := mo_v_F (r := 62) hB.1 hf h0 rfl ro_62 (by decide) (by decide)
          have tv_p69_H77 : mo_v G H77 a0 2 69 = mo_v G H0 a0 2 69 := (congrFun (mo_v_F (j := 2) (r := 48) hB.1 hf h0 rfl ro_48 (by decide) (by decide)) 69).trans tv_p69_H70
          have tv_p70_H77 : mo_v G H77 a0 2 70 = mo_v G H0 a0 2 70 := (congrFun (mo_v_F (j := 2) (r := 48) hB.1 hf h0 rfl ro_48 (by decide) (by decide)) 70).trans tv_p70_H70
          have fp77 : mo_f G H77 a0 48 = 2400 := (mo_f_St hst77).trans tk_2400
          have mm7 := hst77.2.1
          refine lv_aload_n hx hb dX12_orders_80 rfl (lv_at hl 1 rfl) ?_
          refine th_getK hC cf_X12 hB.1 h0 ro_46 rfl (j := 48) (by decide) mm7 kf_X12_480 dX12_orders_81 ?_
          have fg8 : mo_f G H77 a0 48 = 2400 := (mo_fat mm7).trans tk_2400
          refine lv_aload_n hx hb dX12_orders_84 rfl (lv_at hl 1 rfl) ?_
          refine th_getO (j := 2) (r2 := 48) hC cf_X12 hB.1 h0 ro_46 rfl rfl kf_X12_28 dX12_orders_85 (fun b9 mb9 hb9 => ?_)
          refine lv_bipush (v := 79) hx hb dX12_orders_88 (by decide) ?_
          refine th_ialdF hC hB.1 hb9 ro_48 rfl tk_79 (by omega) (by omega) (ek_size (by omega) (by omega)) dX12_orders_90 (fun x10 mx10 lx10 ux10 => ?_)
          have vgx10 : mo_v G H77 a0 2 79 = x10.toInt := by rw [show (79 : Int) = 79 by omega]; exact mo_vat mb9 mx10 (by omega)
          have e90 : x10.toInt = nn := by rw [← vgx10, vv_H77_2, vv_H70_2, vv_H65_2, ly 79 (by omega), mo_ly_79]
          refine tr_iadd hx hb dX12_orders_91 tk_2400 (Eq.refl _) (by omega) (by omega) (fun x11 ex11 => ?_)
          refine lv_istore_n (lv' := [(2, .int x11), (1, .int x2), (0, .ref a0)]) hx hb dX12_orders_92 rfl hl (by decide) rfl (fun ls hl => ?_)
          refine lv_iconst (v := 0) hx hb dX12_orders_93 (by decide) ?_
          refine lv_istore_n (lv' := [(3, .int 0), (2, .int x11), (1, .int x2), (0, .ref a0)]) hx hb dX12_orders_94 rfl hl (by decide) rfl (fun ls hl => ?_)
          have lp95 : ∀ (n95 : Nat) (H95 : Heap) (locs : List Loc) (ls : Array Slot) (j95_3 : Int32), th_B G Γ Γ [(47, 0), (46, 0), (46, 19), (46, 20), (46, 21), (46, 18), (57, 0), (56, 0), (55, 0), (46, 13), (46, 14), (46, 8), (46, 9), (46, 10), (46, 22), (46, 24), (46, 23), (46, 25), (46, 49), (46, 50), (46, 51), (46, 52), (69, 0), (48, 0), (61, 0), (46, 33), (58, 0), (59, 0), (60, 0), (46, 28), (46, 27), (46, 48), (46, 47), (51, 0), (62, 0)] H0 H95 locs → th_RN a0 G Γ H95 → lv_has ls 5 [(2, .int x11), (1, .int x2), (0, .ref a0), (3, .int j95_3)] → (∃ i : Int, mo_f G H95 a0 48 = 2400 + i ∧ 0 ≤ i ∧ (i = nn + 1 ∨ mo_chain T (mo_clause 1 T) (mo_is 159) i nn)) → (∀ z : Int, 29 ≤ z → mo_v G H95 a0 2 z = mo_v G H60 a0 2 z) → mo_v G H95 a0 5 = mo_v G H60 a0 5 → mo_v G H95 a0 32 = mo_v G H60 a0 32 → mo_v G H95 a0 2 69 = mo_v G H0 a0 2 69 → mo_v G H95 a0 2 70 = mo_v G H0 a0 2 70 → (2400 + nn + 3 - mo_f G H95 a0 48) ≤ (n95 : Int) → W p l e ({ frames := 75, cells := 0, slots := 0, locals := 2247 } : Room) s m ([.ref a0] : List Value).toArray below meth c H95 locs 0 0 (MQ below (th_Q (fun (v : Option Value) (H1 : Heap) => ∃ r : Int32, v = some (.int r) ∧ th_I G Γ H1 ∧ th_F G Γ [(47, 0), (46, 0), (46, 19), (46, 20), (46, 21), (46, 18), (57, 0), (56, 0), (55, 0), (46, 13), (46, 14), (46, 8), (46, 9), (46, 10), (46, 22), (46, 24), (46, 23), (46, 25), (46, 49), (46, 50), (46, 51), (46, 52), (69, 0), (48, 0), (61, 0), (46, 33), (58, 0), (59, 0), (60, 0), (46, 28), (46, 27), (46, 48), (46, 47), (51, 0), (62, 0)] H0 H1 ∧ th_RN a0 G Γ H1 ∧ (mo_v G H1 a0 2 69 = mo_v G H0 a0 2 69) ∧ (mo_v G H1 a0 2 70 = mo_v G H0 a0 2 70)) G) ([.ref a0] : List Value).toArray s 0 0 (fun q => G.2.2 ≤ q)) (F0 m 95 ls []) := by
            intro n95
            induction n95 with
            | zero => intro H95 locs ls j95_3 hB hR hl g95_0 g95_1 g95_2 g95_3 g95_4 g95_5 hm95; exact absurd hm95 (by have := mo_lpt (mo_clause_lt _ _) g95_0; omega)
            | succ n95 ih95 =>
              intro H95 locs ls j95_3 hB hR hl g95_0 g95_1 g95_2 g95_3 g95_4 g95_5 hm95
              have lj95_3 := ti_lo j95_3; have uj95_3 := ti_hi j95_3
              have vw_H95_3 : mo_v G H95 a0 3 = mo_v G H0 a0 3 := mo_v_F (r := 49) hB.1 hB.2.2 h0 rfl ro_49 (by decide) (by decide)
              have vw_H95_4 : mo_v G H95 a0 4 = mo_v G H0 a0 4 := mo_v_F (r := 50) hB.1 hB.2.2 h0 rfl ro_50 (by decide) (by decide)
              have hm95 : (2400 + nn + 3 - mo_f G H95 a0 48) ≤ (n95 : Int) + 1 := by omega
              refine lv_aload_n hx hb dX12_orders_95 rfl (lv_at hl 2 rfl) ?_
              obtain ⟨m6, a6, b6, r6⟩ := g95_0
              have B95 := g95_1
              have C95 := g95_2
              have D95 := g95_3
              refine th_getI (j := 48) hC cf_X12 hB.1 h0 ro_46 rfl rfl kf_X12_480 dX12_orders_96 (fun x12 mx12 lx12 ux12 => ?_)
              have fg13 : mo_f G H95 a0 48 = x12.toInt := mo_fat mx12
              refine lv_iload_n hx hb dX12_orders_99 rfl (lv_at hl 0 rfl) ?_
              refine tr_icmp_ge (tgt := 173) hx hb dX12_orders_100 (by decide) (Eq.refl _) (Eq.refl _) (fun c100 => ?_) (fun c100 => ?_)
              · refine lv_aload_n hx hb dX12_orders_173 rfl (lv_at hl 2 rfl) ?_
                refine lv_aload_n hx hb dX12_orders_174 rfl (lv_at hl 2 rfl) ?_
                refine th_getI (j := 27) hC cf_X12 hB.1 h0 ro_46 rfl rfl kf_X12_317 dX12_orders_175 (fun x14 mx14 lx14 ux14 => ?_)
                refine th_call (th_runV (As := [.int x14]) (rest := []) hC mf_X12_good km_X12_14 im_X12_good se_X12_good (c_X12_good l G Γ H95 hB.1 hR.1 a0 h0 x14) rfl rfl ⟨Nat.le_of_ble_eq_true rfl, Nat.le_of_ble_eq_true rfl⟩ hB.1 h0 ro_46 rfl rfl hl.1 rfl (Nat.le_of_ble_eq_true rfl) dX12_orders_178 ⟨Nat.le_refl _, Nat.le_refl _⟩) hB.2.1 (fun v178 H178 locs hp hz hS => ?_)
                have hRD := hR
                obtain ⟨x15, rfl, q178_0, hI1, hf, hR⟩ := hp
                have hR := th_RN_c hR hRD hI1 h0 hf (by decide)
                have hB := th_B_c hB hI1 hS hf (by decide)
                have mm16 := (th_F_o hf h0 ro_46 (j := 48) (by decide) (by decide)).trans mx12
                have fv_H178_18 : mo_f G H178 a0 18 = mo_f G H95 a0 18 := mo_f_F hf h0 (by decide) (by decide)
                have fv_H178_33 : mo_f G H178 a0 33 = mo_f G H95 a0 33 := mo_f_F hf h0 (by decide) (by decide)
                have fv_H178_48 : mo_f G H178 a0 48 = mo_f G H95 a0 48 := mo_f_F hf h0 (by decide) (by decide)
                have vv_H178_2 : mo_v G H178 a0 2 = mo_v G H95 a0 2 := mo_v_F (r := 48) hB.1 hf h0 rfl ro_48 (by decide) (by decide)
                have vv_H178_3 : mo_v G H178 a0 3 = mo_v G H95 a0 3 := mo_v_F (r := 49) hB.1 hf h0 rfl ro_49 (by decide) (by decide)
                have vv_H178_4 : mo_v G H178 a0 4 = mo_v G H95 a0 4 := mo_v_F (r := 50) hB.1 hf h0 rfl ro_50 (by decide) (by decide)
                have vv_H178_31 : mo_v G H178 a0 31 = mo_v G H95 a0 31 := mo_v_F (r := 61) hB.1 hf h0 rfl ro_61 (by decide) (by decide)
                have vv_H178_5 : mo_v G H178 a0 5 = mo_v G H95 a0 5 := mo_v_F (r := 51) hB.1 hf h0 rfl ro_51 (by decide) (by decide)
                have vv_H178_15 : mo_v G H178 a0 15 = mo_v G H95 a0 15 := mo_v_F (r := 55) hB.1 hf h0 rfl ro_55 (by decide) (by decide)
                have vv_H178_32 : mo_v G H178 a0 32 = mo_v G H95 a0 32 := mo_v_F (r := 62) hB.1 hf h0 rfl ro_62 (by decide) (by decide)
                have tv_p69_H178 : mo_v G H178 a0 2 69 = mo_v G H0 a0 2 69 := (congrFun (mo_v_F (j := 2) (r := 48) hB.1 hf h0 rfl ro_48 (by decide) (by decide)) 69).trans g95_4
                have tv_p70_H178 : mo_v G H178 a0 2 70 = mo_v G H0 a0 2 70 := (congrFun (mo_v_F (j := 2) (r := 48) hB.1 hf h0 rfl ro_48 (by decide) (by decide)) 70).trans g95_5
                refine W.eq (g2 := F0 m 181 ls [.int x15]) rfl ?_
                exact th_iret hC hH hr hlocks rfl hB.2.1 ⟨_, rfl, hB.1, hB.2.2, hR, tv_p69_H178, tv_p70_H178⟩ dX12_orders_181
              · refine lv_aload_n hx hb dX12_orders_103 rfl (lv_at hl 2 rfl) ?_
                refine lv_iload_n hx hb dX12_orders_104 rfl (lv_at hl 0 rfl) ?_
                have ch6 := r6.resolve_left (by omega)
                obtain ⟨j1, c1, r1⟩ := mo_chain_open ch6
                have lt1 := mo_clause_lt _ _ _ _ c1
                have le1 := mo_rest_le (mo_clause_lt _ _) r1
                have od : mo_ord T m6 j1 := by rcases c1 with ⟨q9, -⟩ | ⟨-, c1⟩; exact absurd q9 (by decide); exact c1
                refine th_call (th_runV (As := [.int x11]) (rest := []) hC mf_X12_runs km_X12_483 im_X12_runs se_X12_runs (c_X12_runs l G Γ H95 hB.1 a0 h0 hR x11 (by omega) (by omega) m6 j1 (by omega) ⟨by omega, by omega⟩ (by rw [mo_tf_29 B95 (by omega), show x11.toInt - 2400 = nn by omega, ← eT]; exact od)) rfl rfl ⟨Nat.le_of_ble_eq_true rfl, Nat.le_of_ble_eq_true rfl⟩ hB.1 h0 ro_46 rfl rfl hl.1 rfl (Nat.le_of_ble_eq_true rfl) dX12_orders_105 ⟨Nat.le_refl _, Nat.le_refl _⟩) hB.2.1 (fun v105 H105 locs hp hz hS => ?_)
                obtain ⟨x17, rfl, lx17, ux17, hI1, hf, hR, z105_0, z105_1⟩ := hp
                have hB := th_B_c hB hI1 hS hf (by decide)
                have fv_H105_18 : mo_f G H105 a0 18 = mo_f G H95 a0 18 := mo_f_F hf h0 (by decide) (by decide)
                have vv_H105_3 : mo_v G H105 a0 3 = mo_v G H95 a0 3 := mo_v_F (r := 49) hB.1 hf h0 rfl ro_49 (by decide) (by decide)
                have vv_H105_4 : mo_v G H105 a0 4 = mo_v G H95 a0 4 := mo_v_F (r := 50) hB.1 hf h0 rfl ro_50 (by decide) (by decide)
                have vv_H105_5 : mo_v G H105 a0 5 = mo_v G H95 a0 5 := mo_v_F (r := 51) hB.1 hf h0 rfl ro_51 (by decide) (by decide)
                have vv_H105_15 : mo_v G H105 a0 15 = mo_v G H95 a0 15 := mo_v_F (r := 55) hB.1 hf h0 rfl ro_55 (by decide) (by decide)
                have vv_H105_32 : mo_v G H105 a0 32 = mo_v G H95 a0 32 := mo_v_F (r := 62) hB.1 hf h0 rfl ro_62 (by decide) (by decide)
                have tv_p69_H105 : mo_v G H105 a0 2 69 = mo_v G H0 a0 2 69 := (show mo_v G H105 a0 2 69 = mo_v G H95 a0 2 69 from z105_0 69 (by omega)).trans g95_4
                have tv_p70_H105 : mo_v G H105 a0 2 70 = mo_v G H0 a0 2 70 := (show mo_v G H105 a0 2 70 = mo_v G H95 a0 2 70 from z105_0 70 (by omega)).trans g95_5
                refine W.eq (g2 := F0 m 108 ls [.int x17]) rfl ?_
                refine tr_if_eq (tgt := 114) hx hb dX12_orders_108 (by decide) (Eq.refl _) (fun c108 => ?_) (fun c108 => ?_)
                · refine lv_aload_n hx hb dX12_orders_114 rfl (lv_at hl 2 rfl) ?_
                  refine lv_iconst (v := 1) hx hb dX12_orders_115 (by decide) ?_
                  refine th_call (th_runV (As := [.int 1]) (rest := []) hC mf_X12_takesBack km_X12_486 im_X12_takesBack se_X12_takesBack (c_X12_takesBack l G Γ H105 hB.1 a0 h0 (th_NE hR) 1 (by decide) (by decide)) rfl rfl ⟨Nat.le_of_ble_eq_true rfl, Nat.le_of_ble_eq_true rfl⟩ hB.1 h0 ro_46 rfl rfl hl.1 rfl (Nat.le_of_ble_eq_true rfl) dX12_orders_116 ⟨Nat.le_refl _, Nat.le_refl _⟩) hB.2.1 (fun v116 H116 locs hp hz hS => ?_)
                  have hRD := hR
                  obtain ⟨rfl, hI1, hf, hR, z116_0⟩ := hp
                  have hRc116 := hR
                  have hR := hRD
                  have hRC := hRc116.1
                  have hB := th_B_c hB hI1 hS hf (by decide)
                  have fv_H116_18 : mo_f G H116 a0 18 = mo_f G H105 a0 18 := mo_f_F hf h0 (by decide) (by decide)
                  have fv_H116_33 : mo_f G H116 a0 33 = mo_f G H105 a0 33 := mo_f_F hf h0 (by decide) (by decide)
                  have fv_H116_48 : mo_f G H116 a0 48 = mo_f G H105 a0 48 := mo_f_F hf h0 (by decide) (by decide)
                  have vv_H116_3 : mo_v G H116 a0 3 = mo_v G H105 a0 3 := mo_v_F (r := 49) hB.1 hf h0 rfl ro_49 (by decide) (by decide)
                  have vv_H116_4 : mo_v G H116 a0 4 = mo_v G H105 a0 4 := mo_v_F (r := 50) hB.1 hf h0 rfl ro_50 (by decide) (by decide)
                  have vv_H116_31 : mo_v G H116 a0 31 = mo_v G H105 a0 31 := mo_v_F (r := 61) hB.1 hf h0 rfl ro_61 (by decide) (by decide)
                  have vv_H116_5 : mo_v G H116 a0 5 = mo_v G H105 a0 5 := mo_v_F (r := 51) hB.1 hf h0 rfl ro_51 (by decide) (by decide)
                  have vv_H116_15 : mo_v G H116 a0 15 = mo_v G H105 a0 15 := mo_v_F (r := 55) hB.1 hf h0 rfl ro_55 (by decide) (by decide)
                  have vv_H116_32 : mo_v G H116 a0 32 = mo_v G H105 a0 32 := mo_v_F (r := 62) hB.1 hf h0 rfl ro_62 (by decide) (by decide)
                  have tv_p69_H116 : mo_v G H116 a0 2 69 = mo_v G H0 a0 2 69 := (show mo_v G H116 a0 2 69 = mo_v G H105 a0 2 69 from (by rw [z116_0 69, if_neg (by omega)])).trans tv_p69_H105
                  have tv_p70_H116 : mo_v G H116 a0 2 70 = mo_v G H0 a0 2 70 := (show mo_v G H116 a0 2 70 = mo_v G H105 a0 2 70 from (by rw [z116_0 70, if_neg (by omega)])).trans tv_p70_H105
                  refine W.eq (g2 := F0 m 119 ls []) rfl ?_
                  have hR := hRc116
                  refine lv_iconst (v := 0) hx hb dX12_orders_119 (by decide) ?_
                  refine lv_istore (lv' := [(4, .int 0), (2, .int x11), (1, .int x2), (0, .ref a0), (3, .int j95_3)]) hx hb dX12_orders_120 hl (by decide) rfl (fun ls hl => ?_)
                  have lp122 : ∀ (n122 : Nat) (H122 : Heap) (locs : List Loc) (ls : Array Slot) (j122_4 : Int32), th_B G Γ Γ [(47, 0), (46, 0), (46, 19), (46, 20), (46, 21), (46, 18), (57, 0), (56, 0), (55, 0), (46, 13), (46, 14), (46, 8), (46, 9), (46, 10), (46, 22), (46, 24), (46, 23), (46, 25), (46, 49), (46, 50), (46, 51), (46, 52), (69, 0), (48, 0), (61, 0), (46, 33), (58, 0), (59, 0), (60, 0), (46, 28), (46, 27), (46, 48), (46, 47), (51, 0), (62, 0)] H0 H122 locs → th_RE a0 G Γ H122 → lv_has ls 5 [(1, .int x2), (0, .ref a0), (3, .int j95_3), (4, .int j122_4)] → 0 ≤ j122_4.toInt → j122_4.toInt ≤ 480 → (∀ z : Int, 0 ≤ z → z < j122_4.toInt → mo_v G H122 a0 31 z = mo_v G H60 a0 32 z) → mo_v G H122 a0 2 = mo_v G H116 a0 2 → mo_v G H122 a0 32 = mo_v G H60 a0 32 → mo_v G H122 a0 2 69 = mo_v G H0 a0 2 69 → mo_v G H122 a0 2 70 = mo_v G H0 a0 2 70 → (2147483648 : Int) - j122_4.toInt ≤ (n122 : Int) → W p l e ({ frames := 75, cells := 0, slots := 0, locals := 2247 } : Room) s m ([.ref a0] : List Value).toArray below meth c H122 locs 0 0 (MQ below (th_Q (fun (v : Option Value) (H1 : Heap) => ∃ r : Int32, v = some (.int r) ∧ th_I G Γ H1 ∧ th_F G Γ [(47, 0), (46, 0), (46, 19), (46, 20), (46, 21), (46, 18), (57, 0), (56, 0), (55, 0), (46, 13), (46, 14), (46, 8), (46, 9), (46, 10), (46, 22), (46, 24), (46, 23), (46, 25), (46, 49), (46, 50), (46, 51), (46, 52), (69, 0), (48, 0), (61, 0), (46, 33), (58, 0), (59, 0), (60, 0), (46, 28), (46, 27), (46, 48), (46, 47), (51, 0), (62, 0)] H0 H1 ∧ th_RN a0 G Γ H1 ∧ (mo_v G H1 a0 2 69 = mo_v G H0 a0 2 69) ∧ (mo_v G H1 a0 2 70 = mo_v G H0 a0 2 70)) G) ([.ref a0] : List Value).toArray s 0 0 (fun q => G.2.2 ≤ q)) (F0 m 122 ls []) := by
                    intro n122
                    induction n122 with
                    | zero => intro H122 locs ls j122_4 hB hR hl g122_0 g122_1 g122_2 g122_3 g122_4 g122_5 g122_6 hm122; exact absurd hm122 (by have := ti_hi j122_4; omega)
                    | succ n122 ih122 =>
                      intro H122 locs ls j122_4 hB hR hl g122_0 g122_1 g122_2 g122_3 g122_4 g122_5 g122_6 hm122
                      have lj122_4 := ti_lo j122_4; have uj122_4 := ti_hi j122_4
                      have vw_H122_3 : mo_v G H122 a0 3 = mo_v G H0 a0 3 := mo_v_F (r := 49) hB.1 hB.2.2 h0 rfl ro_49 (by decide) (by decide)
                      have vw_H122_4 : mo_v G H122 a0 4 = mo_v G H0 a0 4 := mo_v_F (r := 50) hB.1 hB.2.2 h0 rfl ro_50 (by decide) (by decide)
                      have hm122 : (2147483648 : Int) - j122_4.toInt ≤ (n122 : Int) + 1 := by omega
                      refine lv_iload hx hb dX12_orders_122 (lv_at hl 3 rfl) ?_
                      refine lv_sipush (v := 480) hx hb dX12_orders_124 (by decide) ?_
                      refine tr_icmp_ge (tgt := 150) hx hb dX12_orders_127 (by decide) (Eq.refl _) tk_480 (fun c127 => ?_) (fun c127 => ?_)
                      · refine lv_aload_n hx hb dX12_orders_150 rfl (lv_at hl 1 rfl) ?_
                        refine lv_iload_n hx hb dX12_orders_151 rfl (lv_at hl 0 rfl) ?_
                        refine th_put hC cf_X12 hB h0 (Or.inl h0) ro_46 rfl (j := 33) rfl (th_sI (by omega) (by omega)) (by decide) rfl rfl rfl kf_X12_11 dX12_orders_152 (fun H152 locs hB hf hst152 => ?_)
                        have hR := th_RE_F hB.1 hR h0 hf (th_T_s h0 ro_46 hst152) (by decide)
                        have fv_H152_18 : mo_f G H152 a0 18 = mo_f G H122 a0 18 := mo_f_F hf h0 (by decide) (by decide)
                        have fv_H152_48 : mo_f G H152 a0 48 = mo_f G H122 a0 48 := mo_f_F hf h0 (by decide) (by decide)
                        have vv_H152_2 : mo_v G H152 a0 2 = mo_v G H122 a0 2 := mo_v_F (r := 48) hB.1 hf h0 rfl ro_48 (by decide) (by decide)
                        have vv_H152_3 : mo_v G H152 a0 3 = mo_v G H122 a0 3 := mo_v_F (r := 49) hB.1 hf h0 rfl ro_49 (by decide) (by decide)
                        have vv_H152_4 : mo_v G H152 a0 4 = mo_v G H122 a0 4 := mo_v_F (r := 50) hB.1 hf h0 rfl ro_50 (by decide) (by decide)
                        have vv_H152_31 : mo_v G H152 a0 31 = mo_v G H122 a0 31 := mo_v_F (r := 61) hB.1 hf h0 rfl ro_61 (by decide) (by decide)
                        have vv_H152_5 : mo_v G H152 a0 5 = mo_v G H122 a0 5 := mo_v_F (r := 51) hB.1 hf h0 rfl ro_51 (by decide) (by decide)
                        have vv_H152_15 : mo_v G H152 a0 15 = mo_v G H122 a0 15 := mo_v_F (r := 55) hB.1 hf h0 rfl ro_55 (by decide) (by decide)
                        have vv_H152_32 : mo_v G H152 a0 32 = mo_v G H122 a0 32 := mo_v_F (r := 62) hB.1 hf h0 rfl ro_62 (by decide) (by decide)
                        have tv_p69_H152 : mo_v G H152 a0 2 69 = mo_v G H0 a0 2 69 := (congrFun (mo_v_F (j := 2) (r := 48) hB.1 hf h0 rfl ro_48 (by decide) (by decide)) 69).trans g122_5
                        have tv_p70_H152 : mo_v G H152 a0 2 70 = mo_v G H0 a0 2 70 := (congrFun (mo_v_F (j := 2) (r := 48) hB.1 hf h0 rfl ro_48 (by decide) (by decide)) 70).trans g122_6
                        have fp152 : mo_f G H152 a0 33 = x2.toInt := mo_f_St hst152
                        refine lv_aload_n hx hb dX12_orders_155 rfl (lv_at hl 1 rfl) ?_
                        refine lv_iload_n hx hb dX12_orders_156 rfl (lv_at hl 2 rfl) ?_
                        refine th_put hC cf_X12 hB h0 (Or.inl h0) ro_46 rfl (j := 47) rfl th_sIa (by decide) rfl rfl rfl kf_X12_97 dX12_orders_157 (fun H157 locs hB hf hst157 => ?_)
                        have hR := th_RE_F hB.1 hR h0 hf (th_T_s h0 ro_46 hst157) (by decide)
                        have fv_H157_18 : mo_f G H157 a0 18 = mo_f G H152 a0 18 := mo_f_F hf h0 (by decide) (by decide)
                        have fv_H157_33 : mo_f G H157 a0 33 = mo_f G H152 a0 33 := mo_f_F hf h0 (by decide) (by decide)
                        have fv_H157_48 : mo_f G H157 a0 48 = mo_f G H152 a0 48 := mo_f_F hf h0 (by decide) (by decide)
                        have vv_H157_2 : mo_v G H157 a0 2 = mo_v G H152 a0 2 := mo_v_F (r := 48) hB.1 hf h0 rfl ro_48 (by decide) (by decide)
                        have vv_H157_3 : mo_v G H157 a0 3 = mo_v G H152 a0 3 := mo_v_F (r := 49) hB.1 hf h0 rfl ro_49 (by decide) (by decide)
                        have vv_H157_4 : mo_v G H157 a0 4 = mo_v G H152 a0 4 := mo_v_F (r := 50) hB.1 hf h0 rfl ro_50 (by decide) (by decide)
                        have vv_H157_31 : mo_v G H157 a0 31 = mo_v G H152 a0 31 := mo_v_F (r := 61) hB.1 hf h0 rfl ro_61 (by decide) (by decide)
                        have vv_H157_5 : mo_v G H157 a0 5 = mo_v G H152 a0 5 := mo_v_F (r := 51) hB.1 hf h0 rfl ro_51 (by decide) (by decide)
                        have vv_H157_15 : mo_v G H157 a0 15 = mo_v G H152 a0 15 := mo_v_F (r := 55) hB.1 hf h0 rfl ro_55 (by decide) (by decide)
                        have vv_H157_32 : mo_v G H157 a0 32 = mo_v G H152 a0 32 := mo_v_F (r := 62) hB.1 hf h0 rfl ro_62 (by decide) (by decide)
                        have tv_p69_H157 : mo_v G H157 a0 2 69 = mo_v G H0 a0 2 69 := (congrFun (mo_v_F (j := 2) (r := 48) hB.1 hf h0 rfl ro_48 (by decide) (by decide)) 69).trans tv_p69_H152
                        have tv_p70_H157 : mo_v G H157 a0 2 70 = mo_v G H0 a0 2 70 := (congrFun (mo_v_F (j := 2) (r := 48) hB.1 hf h0 rfl ro_48 (by decide) (by decide)) 70).trans tv_p70_H152
                        have kz : ∀ z : Int, 0 ≤ z → mo_v G H157 a0 2 z = mo_v G H60 a0 2 z := fun z a9 => by rw [vv_H157_2, vv_H152_2, g122_3, z116_0 z]; by_cases q9 : 0 ≤ z ∧ z < 29; rw [if_pos q9, vv_H105_5, C95, vv_H60_5, sr27.2.1, show 29 * (1 : Int32).toInt + z = 29 * (1 : Int32).toInt + z from rfl, z22_0 z (by omega) (by omega), ly z (by omega), mo_ly_0 (by omega) (by omega), sr27.1, vv_H22_2]; rw [if_neg q9, z105_0 z (by omega)]; exact B95 z (by omega)
                        have lz : ∀ z : Int, 0 ≤ z → z < 480 → mo_v G H157 a0 31 z = mo_v G H60 a0 31 z := fun z a9 b9 => by rw [vv_H157_31, vv_H152_31, g122_2 z a9 (by omega), vv_H60_32, la27 z a9 (by omega), vv_H60_31, sr27.2.2.2.1]
                        have hR : th_RN a0 G Γ H157 := ⟨hR.1, by rw [(mo_v_F (j := 3) (r := 49) hB.1 hB.2.2 h0 rfl ro_49 (by decide) (by decide) : mo_v G H157 a0 3 = _), ← (mo_v_F (j := 3) (r := 49) hB60.1 hB60.2.2 h0 rfl ro_49 (by decide) (by decide) : mo_v G H60 a0 3 = _), (mo_v_F (j := 4) (r := 50) hB.1 hB.2.2 h0 rfl ro_50 (by decide) (by decide) : mo_v G H157 a0 4 = _), ← (mo_v_F (j := 4) (r := 50) hB60.1 hB60.2.2 h0 rfl ro_50 (by decide) (by decide) : mo_v G H60 a0 4 = _), show mo_f G H157 a0 33 = mo_f G H60 a0 33 by omega]; exact mo_ok_l (mo_ok_29 hR60.2 (fun i hi => kz i (by omega)) (mo_geo_ext (fun i a9 b9 => kz i a9) hR60.2.1.2.1)) (mo_f_rg hB60.1 h0 (j := 33) rfl).2 lz⟩
                        refine lv_aload_n hx hb dX12_orders_160 rfl (lv_at hl 1 rfl) ?_
                        refine lv_bipush (v := (-3)) hx hb dX12_orders_161 (by decide) ?_
                        refine th_call (th_runV (As := [.int (-3)]) (rest := []) hC mf_X12_refuses km_X12_109 im_X12_refuses se_X12_refuses (c_X12_refuses l G Γ H157 hB.1 hR.1 a0 h0 (-3) (by decide) (by decide)) rfl rfl ⟨Nat.le_of_ble_eq_true rfl, Nat.le_of_ble_eq_true rfl⟩ hB.1 h0 ro_46 rfl rfl hl.1 rfl (Nat.le_of_ble_eq_true rfl) dX12_orders_163 ⟨Nat.le_refl _, Nat.le_refl _⟩) hB.2.1 (fun v163 H163 locs hp hz hS => ?_)
                        have hRD := hR
                        obtain ⟨x18, rfl, q163_0, hI1, hf, hR⟩ := hp
                        have hR := th_RN_c hR hRD hI1 h0 hf (by decide)
                        have hB := th_B_c hB hI1 hS hf (by decide)
                        have fv_H163_18 : mo_f G H163 a0 18 = mo_f G H157 a0 18 := mo_f_F hf h0 (by decide) (by decide)
                        have fv_H163_33 : mo_f G H163 a0 33 = mo_f G H157 a0 33 := mo_f_F hf h0 (by decide) (by decide)
                        have fv_H163_48 : mo_f G H163 a0 48 = mo_f G H157 a0 48 := mo_f_F hf h0 (by decide) (by decide)
                        have vv_H163_2 : mo_v G H163 a0 2 = mo_v G H157 a0 2 := mo_v_F (r := 48) hB.1 hf h0 rfl ro_48 (by decide) (by decide)
                        have vv_H163_3 : mo_v G H163 a0 3 = mo_v G H157 a0 3 := mo_v_F (r := 49) hB.1 hf h0 rfl ro_49 (by decide) (by decide)
                        have vv_H163_4 : mo_v G H163 a0 4 = mo_v G H157 a0 4 := mo_v_F (r := 50) hB.1 hf h0 rfl ro_50 (by decide) (by decide)
                        have vv_H163_31 : mo_v G H163 a0 31 = mo_v G H157 a0 31 := mo_v_F (r := 61) hB.1 hf h0 rfl ro_61 (by decide) (by decide)
                        have vv_H163_5 : mo_v G H163 a0 5 = mo_v G H157 a0 5 := mo_v_F (r := 51) hB.1 hf h0 rfl ro_51 (by decide) (by decide)
                        have vv_H163_15 : mo_v G H163 a0 15 = mo_v G H157 a0 15 := mo_v_F (r := 55) hB.1 hf h0 rfl ro_55 (by decide) (by decide)
                        have vv_H163_32 : mo_v G H163 a0 32 = mo_v G H157 a0 32 := mo_v_F (r := 62) hB.1 hf h0 rfl ro_62 (by decide) (by decide)
                        have tv_p69_H163 : mo_v G H163 a0 2 69 = mo_v G H0 a0 2 69 := (congrFun (mo_v_F (j := 2) (r := 48) hB.1 hf h0 rfl ro_48 (by decide) (by decide)) 69).trans tv_p69_H157
                        have tv_p70_H163 : mo_v G H163 a0 2 70 = mo_v G H0 a0 2 70 := (congrFun (mo_v_F (j := 2) (r := 48) hB.1 hf h0 rfl ro_48 (by decide) (by decide)) 70).trans tv_p70_H157
                        have w163_0 := tk_m3
                        refine W.eq (g2 := F0 m 166 ls [.int x18]) rfl ?_
                        exact th_iret hC hH hr hlocks rfl hB.2.1 ⟨_, rfl, hB.1, hB.2.2, hR, tv_p69_H163, tv_p70_H163⟩ dX12_orders_166
                      · refine lv_aload_n hx hb dX12_orders_130 rfl (lv_at hl 1 rfl) ?_
                        refine th_getO (j := 31) (r2 := 61) hC cf_X12 hB.1 h0 ro_46 rfl rfl kf_X12_72 dX12_orders_131 (fun b19 mb19 hb19 => ?_)
                        have sb19 := (th_F_o hB.2.2 h0 ro_46 (j := 31) (by decide) (by decide)).symm.trans mb19
                        refine lv_iload hx hb dX12_orders_134 (lv_at hl 3 rfl) ?_
                        refine lv_aload_n hx hb dX12_orders_136 rfl (lv_at hl 1 rfl) ?_
                        refine th_getO (j := 32) (r2 := 62) hC cf_X12 hB.1 h0 ro_46 rfl rfl kf_X12_75 dX12_orders_137 (fun b20 mb20 hb20 => ?_)
                        have sb20 := (th_F_o hB.2.2 h0 ro_46 (j := 32) (by decide) (by decide)).symm.trans mb20
                        refine lv_iload hx hb dX12_orders_140 (lv_at hl 3 rfl) ?_
                        refine th_ialdF hC hB.1 hb20 ro_62 rfl (Eq.refl _) (by omega) (by omega) rfl dX12_orders_142 (fun x21 mx21 lx21 ux21 => ?_)
                        have vgx21 : mo_v G H122 a0 32 j122_4.toInt = x21.toInt := by rw [show (j122_4.toInt : Int) = j122_4.toInt by omega]; exact mo_vat mb20 mx21 (by omega)
                        refine th_iastF hC hB hb19 (Or.inl hb19) ro_61 rfl (by decide) (Eq.refl _) (by omega) (by omega) th_sIa dX12_orders_143 (fun H143 locs hB hf143 hst143 => ?_)
                        have hf := hf143
                        have mm22 := (th_F_o hf h0 ro_46 (j := 31) (by decide) (by decide)).trans mb19
                        have mm23 := (th_F_o hf h0 ro_46 (j := 32) (by decide) (by decide)).trans mb20
                        have hR := th_RE_F hB.1 hR h0 hf (th_T_s hb19 ro_61 hst143) (by decide)
                        have fv_H143_18 : mo_f G H143 a0 18 = mo_f G H122 a0 18 := mo_f_F hf h0 (by decide) (by decide)
                        have fv_H143_33 : mo_f G H143 a0 33 = mo_f G H122 a0 33 := mo_f_F hf h0 (by decide) (by decide)
                        have fv_H143_48 : mo_f G H143 a0 48 = mo_f G H122 a0 48 := mo_f_F hf h0 (by decide) (by decide)
                        have vv_H143_2 : mo_v G H143 a0 2 = mo_v G H122 a0 2 := mo_v_F (r := 48) hB.1 hf h0 rfl ro_48 (by decide) (by decide)
                        have vv_H143_3 : mo_v G H143 a0 3 = mo_v G H122 a0 3 := mo_v_F (r := 49) hB.1 hf h0 rfl ro_49 (by decide) (by decide)
                        have vv_H143_4 : mo_v G H143 a0 4 = mo_v G H122 a0 4 := mo_v_F (r := 50) hB.1 hf h0 rfl ro_50 (by decide) (by decide)
                        have vv_H143_5 : mo_v G H143 a0 5 = mo_v G H122 a0 5 := mo_v_F (r := 51) hB.1 hf h0 rfl ro_51 (by decide) (by decide)
                        have vv_H143_15 : mo_v G H143 a0 15 = mo_v G H122 a0 15 := mo_v_F (r := 55) hB.1 hf h0 rfl ro_55 (by decide) (by decide)
                        have vv_H143_32 : mo_v G H143 a0 32 = mo_v G H122 a0 32 := mo_v_F (r := 62) hB.1 hf h0 rfl ro_62 (by decide) (by decide)
                        have tv_p69_H143 : mo_v G H143 a0 2 69 = mo_v G H0 a0 2 69 := (congrFun (mo_v_F (j := 2) (r := 48) hB.1 hf h0 rfl ro_48 (by decide) (by decide)) 69).trans g122_5
                        have tv_p70_H143 : mo_v G H143 a0 2 70 = mo_v G H0 a0 2 70 := (congrFun (mo_v_F (j := 2) (r := 48) hB.1 hf h0 rfl ro_48 (by decide) (by decide)) 70).trans g122_6
                        have vs143 : mo_v G H143 a0 31 = mo_u (mo_v G H122 a0 31) j122_4.toInt x21.toInt := by rw [show (j122_4.toInt : Int) = j122_4.toInt by omega]; exact mo_v_st h0 hb19 (by decide) mb19 hst143 (by omega)
                        refine tr_iinc (fun x24 => [(4, .int x24), (1, .int x2), (0, .ref a0), (3, .int j95_3)]) hx hb dX12_orders_144 hl (k := 3) rfl (Eq.refl _) tk_1 (by omega) (by omega) (by decide) (fun _ => rfl) (fun x24 ls ex24 hl => ?_)
                        refine lv_goto (tgt := 122) hx hb dX12_orders_147 (by decide) ?_
                        exact ih122 H143 locs ls x24 hB hR (lv_sub hl [1, 2, 3, 0] rfl) (by omega) (by omega) (fun z a9 b9 => by rw [vs143]; by_cases q9 : z = j122_4.toInt; rw [mo_us q9, q9, ← g122_4, ← vgx21]; rw [mo_un q9]; exact g122_2 z a9 (by omega)) (vv_H143_2.trans g122_3) (vv_H143_32.trans g122_4) tv_p69_H143 tv_p70_H143 (by omega)
                  exact lp122 ((2147483648 : Int) - (0)).toNat H116 locs ls 0 hB hR (lv_sub hl [2, 3, 4, 0] rfl) (by decide) (by decide) (fun z a9 b9 => by have w0 := tk_0; omega) rfl (by rw [vv_H116_32, vv_H105_32]; exact D95) tv_p69_H116 tv_p70_H116 (by have w0 := tk_0; omega)
                · refine lv_goto (tgt := 167) hx hb dX12_orders_111 (by decide) ?_
                  refine tr_iincA (fun x25 => [(3, .int x25), (2, .int x11), (1, .int x2), (0, .ref a0)]) hx hb dX12_orders_167 hl (k := 3) rfl (by decide) (fun _ => rfl) (fun x25 ls hl => ?_)
                  have lx25 := ti_lo x25; have ux25 := ti_hi x25
                  refine lv_goto (tgt := 95) hx hb dX12_orders_170 (by decide) ?_
                  exact ih95 H105 locs ls x25 hB hR (lv_sub hl [1, 2, 3, 0] rfl) ⟨j1 + 1, by have q9 := z105_1 (by omega); omega, by omega, by rcases r1 with ⟨q9, -⟩ | ⟨-, q9⟩; exact Or.inl (by omega); exact Or.inr q9⟩ (fun z a9 => by rw [z105_0 z a9]; exact g95_1 z a9) (vv_H105_5.trans g95_2) (vv_H105_32.trans g95_3) tv_p69_H105 tv_p70_H105 (by omega)
          exact lp95 ((2400 + nn + 3 - mo_f G H77 a0 48)).toNat H77 locs ls 0 hB hR (lv_sub hl [1, 2, 3, 0] rfl) ⟨0, by omega, by omega, Or.inr TX⟩ (fun z a9 => by rw [vv_H77_2, vv_H70_2, vv_H65_2]) (by rw [vv_H77_5, vv_H70_5, vv_H65_5]) (by rw [vv_H77_32, vv_H70_32, vv_H65_32]) tv_p69_H77 tv_p70_H77 (by have w0 := tk_0; omega)
        · refine lv_aload_n hx hb dX12_orders_34 rfl (lv_at hl 0 rfl) ?_
          refine th_getO (j := 32) (r2 := 62) hC cf_X12 hB.1 h0 ro_46 rfl rfl kf_X12_75 dX12_orders_35 (fun b26 mb26 hb26 => ?_)
          have sb26 := (th_F_o hB.2.2 h0 ro_46 (j := 32) (by decide) (by decide)).symm.trans mb26
          refine lv_iload_n hx hb dX12_orders_38 rfl (lv_at hl 1 rfl) ?_
          refine lv_aload_n hx hb dX12_orders_39 rfl (lv_at hl 0 rfl) ?_
          refine th_getO (j := 31) (r2 := 61) hC cf_X12 hB.1 h0 ro_46 rfl rfl kf_X12_72 dX12_orders_40 (fun b27 mb27 hb27 => ?_)
          have sb27 := (th_F_o hB.2.2 h0 ro_46 (j := 31) (by decide) (by decide)).symm.trans mb27
          refine lv_iload_n hx hb dX12_orders_43 rfl (lv_at hl 1 rfl) ?_
          refine th_ialdF hC hB.1 hb27 ro_61 rfl (Eq.refl _) (by omega) (by omega) rfl dX12_orders_44 (fun x28 mx28 lx28 ux28 => ?_)
          have vgx28 : mo_v G H27 a0 31 j27_1.toInt = x28.toInt := by rw [show (j27_1.toInt : Int) = j27_1.toInt by omega]; exact mo_vat mb27 mx28 (by omega)
          refine th_iastF hC hB hb26 (Or.inl hb26) ro_62 rfl (by decide) (Eq.refl _) (by omega) (by omega) th_sIa dX12_orders_45 (fun H45 locs hB hf45 hst45 => ?_)
          have hf := hf45
          have mm29 := (th_F_o hf h0 ro_46 (j := 32) (by decide) (by decide)).trans mb26
          have mm30 := (th_F_o hf h0 ro_46 (j := 31) (by decide) (by decide)).trans mb27
          have hR := th_RN_F hB.1 hR h0 hf (th_T_s hb26 ro_62 hst45) (by decide)
          have fv_H45_18 : mo_f G H45 a0 18 = mo_f G H27 a0 18 := mo_f_F hf h0 (by decide) (by decide)
          have fv_H45_33 : mo_f G H45 a0 33 = mo_f G H27 a0 33 := mo_f_F hf h0 (by decide) (by decide)
          have fv_H45_48 : mo_f G H45 a0 48 = mo_f G H27 a0 48 := mo_f_F hf h0 (by decide) (by decide)
          have vv_H45_2 : mo_v G H45 a0 2 = mo_v G H27 a0 2 := mo_v_F (r := 48) hB.1 hf h0 rfl ro_48 (by decide) (by decide)
          have vv_H45_3 : mo_v G H45 a0 3 = mo_v G H27 a0 3 := mo_v_F (r := 49) hB.1 hf h0 rfl ro_49 (by decide) (by decide)
          have vv_H45_4 : mo_v G H45 a0 4 = mo_v G H27 a0 4 := mo_v_F (r := 50) hB.1 hf h0 rfl ro_50 (by decide) (by decide)
          have vv_H45_31 : mo_v G H45 a0 31 = mo_v G H27 a0 31 := mo_v_F (r := 61) hB.1 hf h0 rfl ro_61 (by decide) (by decide)
          have vv_H45_5 : mo_v G H45 a0 5 = mo_v G H27 a0 5 := mo_v_F (r := 51) hB.1 hf h0 rfl ro_51 (by decide) (by decide)
          have vv_H45_15 : mo_v G H45 a0 15 = mo_v G H27 a0 15 := mo_v_F (r := 55) hB.1 hf h0 rfl ro_55 (by decide) (by decide)
          have tv_p69_H45 : mo_v G H45 a0 2 69 = mo_v G H0 a0 2 69 := (congrFun (mo_v_F (j := 2) (r := 48) hB.1 hf h0 rfl ro_48 (by decide) (by decide)) 69).trans g27_4
          have tv_p70_H45 : mo_v G H45 a0 2 70 = mo_v G H0 a0 2 70 := (congrFun (mo_v_F (j := 2) (r := 48) hB.1 hf h0 rfl ro_48 (by decide) (by decide)) 70).trans g27_5
          have vs45 : mo_v G H45 a0 32 = mo_u (mo_v G H27 a0 32) j27_1.toInt x28.toInt := by rw [show (j27_1.toInt : Int) = j27_1.toInt by omega]; exact mo_v_st h0 hb26 (by decide) mb26 hst45 (by omega)
          refine tr_iinc (fun x31 => [(1, .int x31), (0, .ref a0)]) hx hb dX12_orders_46 hl (k := 1) rfl (Eq.refl _) tk_1 (by omega) (by omega) (by decide) (fun _ => rfl) (fun x31 ls ex31 hl => ?_)
          refine lv_goto (tgt := 27) hx hb dX12_orders_49 (by decide) ?_
          exact ih27 H45 locs ls x31 hB hR (lv_sub hl [1, 0] rfl) (by omega) (by omega) (fun z a9 b9 => by rw [vs45]; by_cases q9 : z = j27_1.toInt; rw [mo_us q9, q9, ← g27_3.2.2.2.1, ← vgx28]; rw [mo_un q9]; exact g27_2 z a9 (by omega)) (mo_sr_tr g27_3 (mo_sr_F hB.1 hf h0 (by decide))) tv_p69_H45 tv_p70_H45 (by omega)
    exact lp27 ((2147483648 : Int) - (0)).toNat H22 locs ls 0 hB hR (lv_sub hl [1, 0] rfl) (by decide) (by decide) (fun z a9 b9 => by have w0 := tk_0; omega) mo_sr_rf tv_p69_H22 tv_p70_H22 (by have w0 := tk_0; omega)
  · refine lv_aload_n hx hb dX12_orders_13 rfl (lv_at hl 0 rfl) ?_
    refine lv_bipush (v := (-6)) hx hb dX12_orders_14 (by decide) ?_
    refine th_call (th_runV (As := [.int (-6)]) (rest := []) hC mf_X12_refuses km_X12_109 im_X12_refuses se_X12_refuses (c_X12_refuses l G Γ H7 hB.1 hR.1 a0 h0 (-6) (by decide) (by decide)) rfl rfl ⟨Nat.le_of_ble_eq_true rfl, Nat.le_of_ble_eq_true rfl⟩ hB.1 h0 ro_46 rfl rfl hl.1 rfl (Nat.le_of_ble_eq_true rfl) dX12_orders_16 ⟨Nat.le_refl _, Nat.le_refl _⟩) hB.2.1 (fun v16 H16 locs hp hz hS => ?_)
    have hRD := hR
    obtain ⟨x32, rfl, q16_0, hI1, hf, hR⟩ := hp
    have hR := th_RN_c hR hRD hI1 h0 hf (by decide)
    have hB := th_B_c hB hI1 hS hf (by decide)
    have fv_H16_18 : mo_f G H16 a0 18 = mo_f G H7 a0 18 := mo_f_F hf h0 (by decide) (by decide)
    have fv_H16_33 : mo_f G H16 a0 33 = mo_f G H7 a0 33 := mo_f_F hf h0 (by decide) (by decide)
    have fv_H16_48 : mo_f G H16 a0 48 = mo_f G H7 a0 48 := mo_f_F hf h0 (by decide) (by decide)
    have vv_H16_2 : mo_v G H16 a0 2 = mo_v G H7 a0 2 := mo_v_F (r := 48) hB.1 hf h0 rfl ro_48 (by decide) (by decide)
    have vv_H16_3 : mo_v G H16 a0 3 = mo_v G H7 a0 3 := mo_v_F (r := 49) hB.1 hf h0 rfl ro_49 (by decide) (by decide)
    have vv_H16_4 : mo_v G H16 a0 4 = mo_v G H7 a0 4 := mo_v_F (r := 50) hB.1 hf h0 rfl ro_50 (by decide) (by decide)
    have vv_H16_31 : mo_v G H16 a0 31 = mo_v G H7 a0 31 := mo_v_F (r := 61) hB.1 hf h0 rfl ro_61 (by decide) (by decide)
    have vv_H16_5 : mo_v G H16 a0 5 = mo_v G H7 a0 5 := mo_v_F (r := 51) hB.1 hf h0 rfl ro_51 (by decide) (by decide)
    have vv_H16_15 : mo_v G H16 a0 15 = mo_v G H7 a0 15 := mo_v_F (r := 55) hB.1 hf h0 rfl ro_55 (by decide) (by decide)
    have vv_H16_32 : mo_v G H16 a0 32 = mo_v G H7 a0 32 := mo_v_F (r := 62) hB.1 hf h0 rfl ro_62 (by decide) (by decide)
    have tv_p69_H16 : mo_v G H16 a0 2 69 = mo_v G H0 a0 2 69 := (congrFun (mo_v_F (j := 2) (r := 48) hB.1 hf h0 rfl ro_48 (by decide) (by decide)) 69).trans tv_p69_H7
    have tv_p70_H16 : mo_v G H16 a0 2 70 = mo_v G H0 a0 2 70 := (congrFun (mo_v_F (j := 2) (r := 48) hB.1 hf h0 rfl ro_48 (by decide) (by decide)) 70).trans tv_p70_H7
    have w16_0 := tk_m6
    refine W.eq (g2 := F0 m 19 ls [.int x32]) rfl ?_
    exact th_iret hC hH hr hlocks rfl hB.2.1 ⟨_, rfl, hB.1, hB.2.2, hR, tv_p69_H16, tv_p70_H16⟩ dX12_orders_19

set_option maxHeartbeats 4000000 in
set_option maxRecDepth 100000 in
theorem c_X12_free_q (l : Launch) (G : th_G) (Γ : th_Ga) (H0 : Heap) (hI : th_I G Γ H0) (a0 : Nat) (h0 : Γ a0 = (46, 0)) (hR : th_RN a0 G Γ H0) : Met l yX12_free (.code yX12_free cX12_free 3 (some FieldType.int) :: th_tb) ({ frames := 55, cells := 0, slots := 0, locals := 1720 } : Room) (th_P [.ref a0] G H0) (th_Q (fun (v : Option Value) (H1 : Heap) => ∃ r : Int32, v = some (.int r) ∧ th_I G Γ H1 ∧ th_F G Γ [(46, 41), (46, 42), (46, 43), (67, 0), (66, 0), (59, 0), (64, 0), (65, 0), (46, 39), (46, 40), (63, 0), (46, 44), (46, 45), (46, 22), (46, 24), (58, 0), (46, 23), (46, 25), (48, 0)] H0 H1 ∧ th_RN a0 G Γ H1 ∧ (mo_v G H1 a0 2 69 = mo_v G H0 a0 2 69) ∧ (mo_v G H1 a0 2 70 = mo_v G H0 a0 2 70)) G) 0 0 (fun q => G.2.2 ≤ q) := by
  refine th_met RX12 (by decide) rfl (Nat.le_of_ble_eq_true rfl) ?_
  intro p e s m below meth c hC hH hr hlocks hnm ls hl
  have hx := hC.1
  have hb := hC.2.1
  have hB : th_B G Γ Γ [(46, 41), (46, 42), (46, 43), (67, 0), (66, 0), (59, 0), (64, 0), (65, 0), (46, 39), (46, 40), (63, 0), (46, 44), (46, 45), (46, 22), (46, 24), (58, 0), (46, 23), (46, 25), (48, 0)] H0 H0 [] := ⟨hI, va_S.rf, th_F_rf⟩
  have hl : lv_has ls 3 [(0, .ref a0)] := hl
  refine lv_iconst (v := 0) hx hb dX12_free_0 (by decide) ?_
  refine lv_istore_n (lv' := [(1, .int 0), (0, .ref a0)]) hx hb dX12_free_1 rfl hl (by decide) rfl (fun ls hl => ?_)
  refine lv_iconst (v := 0) hx hb dX12_free_2 (by decide) ?_
  refine lv_istore_n (lv' := [(2, .int 0), (1, .int 0), (0, .ref a0)]) hx hb dX12_free_3 rfl hl (by decide) rfl (fun ls hl => ?_)
  have lp4 : ∀ (n4 : Nat) (H4 : Heap) (locs : List Loc) (ls : Array Slot) (j4_1 : Int32) (j4_2 : Int32), th_B G Γ Γ [(46, 41), (46, 42), (46, 43), (67, 0), (66, 0), (59, 0), (64, 0), (65, 0), (46, 39), (46, 40), (63, 0), (46, 44), (46, 45), (46, 22), (46, 24), (58, 0), (46, 23), (46, 25), (48, 0)] H0 H4 locs → th_RN a0 G Γ H4 → lv_has ls 3 [(0, .ref a0), (1, .int j4_1), (2, .int j4_2)] → 0 ≤ j4_2.toInt → j4_2.toInt ≤ 9 → mo_v G H4 a0 2 69 = mo_v G H0 a0 2 69 → mo_v G H4 a0 2 70 = mo_v G H0 a0 2 70 → (2147483648 : Int) - j4_2.toInt ≤ (n4 : Int) → W p l e ({ frames := 55, cells := 0, slots := 0, locals := 1720 } : Room) s m ([.ref a0] : List Value).toArray below meth c H4 locs 0 0 (MQ below (th_Q (fun (v : Option Value) (H1 : Heap) => ∃ r : Int32, v = some (.int r) ∧ th_I G Γ H1 ∧ th_F G Γ [(46, 41), (46, 42), (46, 43), (67, 0), (66, 0), (59, 0), (64, 0), (65, 0), (46, 39), (46, 40), (63, 0), (46, 44), (46, 45), (46, 22), (46, 24), (58, 0), (46, 23), (46, 25), (48, 0)] H0 H1 ∧ th_RN a0 G Γ H1 ∧ (mo_v G H1 a0 2 69 = mo_v G H0 a0 2 69) ∧ (mo_v G H1 a0 2 70 = mo_v G H0 a0 2 70)) G) ([.ref a0] : List Value).toArray s 0 0 (fun q => G.2.2 ≤ q)) (F0 m 4 ls []) := by
    intro n4
    induction n4 with
    | zero => intro H4 locs ls j4_1 j4_2 hB hR hl g4_0 g4_1 g4_2 g4_3 hm4; exact absurd hm4 (by have := ti_hi j4_2; omega)
    | succ n4 ih4 =>
      intro H4 locs ls j4_1 j4_2 hB hR hl g4_0 g4_1 g4_2 g4_3 hm4
      have lj4_1 := ti_lo j4_1; have uj4_1 := ti_hi j4_1
      have lj4_2 := ti_lo j4_2; have uj4_2 := ti_hi j4_2
      have fv1_33 : mo_f G H4 a0 33 = mo_f G H0 a0 33 := mo_f_F hB.2.2 h0 (by decide) (by decide)
      have vw_H4_3 : mo_v G H4 a0 3 = mo_v G H0 a0 3 := mo_v_F (r := 49) hB.1 hB.2.2 h0 rfl ro_49 (by decide) (by decide)
      have vw_H4_4 : mo_v G H4 a0 4 = mo_v G H0 a0 4 := mo_v_F (r := 50) hB.1 hB.2.2 h0 rfl ro_50 (by decide) (by decide)
      have vw_H4_31 : mo_v G H4 a0 31 = mo_v G H0 a0 31 := mo_v_F (r := 61) hB.1 hB.2.2 h0 rfl ro_61 (by decide) (by decide)
      have hm4 : (2147483648 : Int) - j4_2.toInt ≤ (n4 : Int) + 1 := by omega
      refine lv_iload_n hx hb dX12_free_4 rfl (lv_at hl 2 rfl) ?_
      refine lv_aload_n hx hb dX12_free_5 rfl (lv_at hl 0 rfl) ?_
      refine th_call (th_runV (As := []) (rest := [.int j4_2]) hC mf_X12_many km_X12_115 im_X12_many se_X12_many (c_X12_many l G Γ H4 hB.1 a0 h0) rfl rfl ⟨Nat.le_of_ble_eq_true rfl, Nat.le_of_ble_eq_true rfl⟩ hB.1 h0 ro_46 rfl rfl hl.1 rfl (Nat.le_of_ble_eq_true rfl) dX12_free_6 ⟨Nat.le_refl _, Nat.le_refl _⟩) hB.2.1 (fun v6 H6 locs hp hz hS => ?_)
      obtain ⟨x2, rfl, lx2, ux2, q6_0, rfl⟩ := hp
      have hB := th_B_s hB hS
      refine W.eq (g2 := F0 m 9 ls [.int x2, .int j4_2]) rfl ?_
      refine tr_icmp_ge (tgt := 44) hx hb dX12_free_9 (by decide) (Eq.refl _) (Eq.refl _) (fun c9 => ?_) (fun c9 => ?_)
      · refine lv_iload_n hx hb dX12_free_44 rfl (lv_at hl 1 rfl) ?_
        exact th_iret hC hH hr hlocks rfl hB.2.1 ⟨_, rfl, hB.1, hB.2.2, hR, g4_2, g4_3⟩ dX12_free_45
      · refine lv_iload_n hx hb dX12_free_12 rfl (lv_at hl 1 rfl) ?_
        refine lv_aload_n hx hb dX12_free_13 rfl (lv_at hl 0 rfl) ?_
        refine lv_iload_n hx hb dX12_free_14 rfl (lv_at hl 2 rfl) ?_
        refine th_call (th_runV (As := [.int j4_2]) (rest := [.int j4_1]) hC mf_X12_isLaid km_X12_137 im_X12_isLaid se_X12_isLaid (c_X12_isLaid l G Γ H4 hB.1 a0 h0 j4_2 (by omega) (by omega)) rfl rfl ⟨Nat.le_of_ble_eq_true rfl, Nat.le_of_ble_eq_true rfl⟩ hB.1 h0 ro_46 rfl rfl hl.1 rfl (Nat.le_of_ble_eq_true rfl) dX12_free_15 ⟨Nat.le_refl _, Nat.le_refl _⟩) hB.2.1 (fun v15 H15 locs hp hz hS => ?_)
        obtain ⟨x3, rfl, lx3, ux3, q15_0, q15_1, rfl⟩ := hp
        have hB := th_B_s hB hS
        refine W.eq (g2 := F0 m 18 ls [.int x3, .int j4_1]) rfl ?_
        refine tr_if_eq (tgt := 35) hx hb dX12_free_18 (by decide) (Eq.refl _) (fun c18 => ?_) (fun c18 => ?_)
        · refine lv_iconst (v := 0) hx hb dX12_free_35 (by decide) ?_
          refine lv_ior hx hb dX12_free_36 ?_
          refine lv_topi (fun x4 ex4 => ?_)
          have lx4 := ti_lo x4; have ux4 := ti_hi x4
          refine lv_istore_n (lv' := [(1, .int x4), (0, .ref a0), (2, .int j4_2)]) hx hb dX12_free_37 rfl hl (by decide) rfl (fun ls hl => ?_)
          refine tr_iinc (fun x5 => [(2, .int x5), (1, .int x4), (0, .ref a0)]) hx hb dX12_free_38 hl (k := 2) rfl (Eq.refl _) tk_1 (by omega) (by omega) (by decide) (fun _ => rfl) (fun x5 ls ex5 hl => ?_)
          refine lv_goto (tgt := 4) hx hb dX12_free_41 (by decide) ?_
          exact ih4 H4 locs ls x4 x5 hB hR (lv_sub hl [2, 1, 0] rfl) (by omega) (by omega) g4_2 g4_3 (by omega)
        · refine lv_aload_n hx hb dX12_free_21 rfl (lv_at hl 0 rfl) ?_
          refine lv_iload_n hx hb dX12_free_22 rfl (lv_at hl 2 rfl) ?_
          refine th_call (th_runV (As := [.int j4_2]) (rest := [.int j4_1]) hC mf_X12_isMovable km_X12_452 im_X12_isMovable se_X12_isMovable (c_X12_isMovable l G Γ H4 hB.1 a0 h0 (th_NK hR) j4_2 (by omega) (by omega)) rfl rfl ⟨Nat.le_of_ble_eq_true rfl, Nat.le_of_ble_eq_true rfl⟩ hB.1 h0 ro_46 rfl rfl hl.1 rfl (Nat.le_of_ble_eq_true rfl) dX12_free_23 ⟨Nat.le_refl _, Nat.le_refl _⟩) hB.2.1 (fun v23 H23 locs hp hz hS => ?_)
          have hRD := hR
          obtain ⟨x6, rfl, lx6, ux6, hI1, hf, hR, z23_0⟩ := hp
          have hRc23 := hR
          have hR := hRD
          have hRC := hRc23.1
          have hB := th_B_c hB hI1 hS hf (by decide)
          have fv_H23_33 : mo_f G H23 a0 33 = mo_f G H4 a0 33 := mo_f_F hf h0 (by decide) (by decide)
          have vv_H23_3 : mo_v G H23 a0 3 = mo_v G H4 a0 3 := mo_v_F (r := 49) hB.1 hf h0 rfl ro_49 (by decide) (by decide)
          have vv_H23_4 : mo_v G H23 a0 4 = mo_v G H4 a0 4 := mo_v_F (r := 50) hB.1 hf h0 rfl ro_50 (by decide) (by decide)
          have vv_H23_31 : mo_v G H23 a0 31 = mo_v G H4 a0 31 := mo_v_F (r := 61) hB.1 hf h0 rfl ro_61 (by decide) (by decide)
          have tv_p69_H23 : mo_v G H23 a0 2 69 = mo_v G H0 a0 2 69 := (show mo_v G H23 a0 2 69 = mo_v G H4 a0 2 69 from congrFun z23_0 69).trans g4_2
          have tv_p70_H23 : mo_v G H23 a0 2 70 = mo_v G H0 a0 2 70 := (show mo_v G H23 a0 2 70 = mo_v G H4 a0 2 70 from congrFun z23_0 70).trans g4_3
          refine W.eq (g2 := F0 m 26 ls [.int x6, .int j4_1]) rfl ?_
          have hR : th_RN a0 G Γ H23 := ⟨hRC, by rw [z23_0, vv_H23_3, vv_H23_4, vv_H23_31, fv_H23_33]; exact hR.2⟩
          refine tr_if_eq (tgt := 35) hx hb dX12_free_26 (by decide) (Eq.refl _) (fun c26 => ?_) (fun c26 => ?_)
          · refine lv_iconst (v := 0) hx hb dX12_free_35 (by decide) ?_
            refine lv_ior hx hb dX12_free_36 ?_
            refine lv_topi (fun x7 ex7 => ?_)
            have lx7 := ti_lo x7; have ux7 := ti_hi x7
            refine lv_istore_n (lv' := [(1, .int x7), (0, .ref a0), (2, .int j4_2)]) hx hb dX12_free_37 rfl hl (by decide) rfl (fun ls hl => ?_)
            refine tr_iinc (fun x8 => [(2, .int x8), (1, .int x7), (0, .ref a0)]) hx hb dX12_free_38 hl (k := 2) rfl (Eq.refl _) tk_1 (by omega) (by omega) (by decide) (fun _ => rfl) (fun x8 ls ex8 hl => ?_)
            refine lv_goto (tgt := 4) hx hb dX12_free_41 (by decide) ?_
            exact ih4 H23 locs ls x7 x8 hB hR (lv_sub hl [2, 1, 0] rfl) (by omega) (by omega) tv_p69_H23 tv_p70_H23 (by omega)
          · refine lv_iconst (v := 1) hx hb dX12_free_29 (by decide) ?_
            refine lv_iload_n hx hb dX12_free_30 rfl (lv_at hl 2 rfl) ?_
            refine lv_ishl hx hb dX12_free_31 ?_
            refine lv_topi (fun x9 ex9 => ?_)
            have lx9 := ti_lo x9; have ux9 := ti_hi x9
            refine lv_goto (tgt := 36) hx hb dX12_free_32 (by decide) ?_
            refine lv_ior hx hb dX12_free_36 ?_
            refine lv_topi (fun x10 ex10 => ?_)
            have lx10 := ti_lo x10; have ux10 := ti_hi x10
            refine lv_istore_n (lv' := [(1, .int x10), (0, .ref a0), (2, .int j4_2)]) hx hb dX12_free_37 rfl hl (by decide) rfl (fun ls hl => ?_)
            refine tr_iinc (fun x11 => [(2, .int x11), (1, .int x10), (0, .ref a0)]) hx hb dX12_free_38 hl (k := 2) rfl (Eq.refl _) tk_1 (by omega) (by omega) (by decide) (fun _ => rfl) (fun x11 ls ex11 hl => ?_)
            refine lv_goto (tgt := 4) hx hb dX12_free_41 (by decide) ?_
            exact ih4 H23 locs ls x10 x11 hB hR (lv_sub hl [2, 1, 0] rfl) (by omega) (by omega) tv_p69_H23 tv_p70_H23 (by omega)
  exact lp4 ((2147483648 : Int) - (0)).toNat H0 [] ls 0 0 hB hR (lv_sub hl [2, 1, 0] rfl) (by decide) (by decide) rfl rfl (by have w0 := tk_0; omega)

set_option maxHeartbeats 4000000 in
set_option maxRecDepth 100000 in
theorem c_X12_compare_q (l : Launch) (G : th_G) (Γ : th_Ga) (H0 : Heap) (hI : th_I G Γ H0) (a0 : Nat) (h0 : Γ a0 = (46, 0)) (hR : th_RN a0 G Γ H0) (p1 : Int32) : Met l yX12_compare (.code yX12_compare cX12_compare 4 (some FieldType.int) :: th_tb) ({ frames := 55, cells := 0, slots := 0, locals := 1717 } : Room) (th_P [.ref a0, .int p1] G H0) (th_Q (fun (v : Option Value) (H1 : Heap) => ∃ r : Int32, v = some (.int r) ∧ th_I G Γ H1 ∧ th_F G Γ [(46, 41), (46, 42), (46, 43), (67, 0), (66, 0), (59, 0), (64, 0), (65, 0), (46, 39), (46, 40), (63, 0), (46, 44), (46, 45), (46, 22), (46, 24), (58, 0), (46, 23), (46, 25), (48, 0)] H0 H1 ∧ th_RN a0 G Γ H1 ∧ (mo_v G H1 a0 2 69 = mo_v G H0 a0 2 69) ∧ (mo_v G H1 a0 2 70 = mo_v G H0 a0 2 70)) G) 0 0 (fun q => G.2.2 ≤ q) := by
  refine th_met RX12 (by decide) rfl (Nat.le_of_ble_eq_true rfl) ?_
  intro p e s m below meth c hC hH hr hlocks hnm ls hl
  have hx := hC.1
  have hb := hC.2.1
  have hB : th_B G Γ Γ [(46, 41), (46, 42), (46, 43), (67, 0), (66, 0), (59, 0), (64, 0), (65, 0), (46, 39), (46, 40), (63, 0), (46, 44), (46, 45), (46, 22), (46, 24), (58, 0), (46, 23), (46, 25), (48, 0)] H0 H0 [] := ⟨hI, va_S.rf, th_F_rf⟩
  have hl : lv_has ls 4 [(0, .ref a0), (1, .int p1)] := hl
  have lp1 := ti_lo p1; have up1 := ti_hi p1
  refine lv_aload_n hx hb dX12_compare_0 rfl (lv_at hl 0 rfl) ?_
  have f0 := hR.2.1.1.1
  refine lv_iload_n hx hb dX12_compare_1 rfl (lv_at hl 1 rfl) ?_
  refine th_call (th_runV (As := [.int p1]) (rest := []) hC mf_X12_isLaw km_X12_275 im_X12_isLaw se_X12_isLaw (c_X12_isLaw l G Γ H0 hB.1 a0 h0 p1) rfl rfl ⟨Nat.le_of_ble_eq_true rfl, Nat.le_of_ble_eq_true rfl⟩ hB.1 h0 ro_46 rfl rfl hl.1 rfl (Nat.le_of_ble_eq_true rfl) dX12_compare_2 ⟨Nat.le_refl _, Nat.le_refl _⟩) hB.2.1 (fun v2 H2 locs hp hz hS => ?_)
  obtain ⟨x1, rfl, lx1, ux1, q2_0, rfl⟩ := hp
  have hB := th_B_s hB hS
  refine W.eq (g2 := F0 m 5 ls [.int x1]) rfl ?_
  refine tr_if_ne (tgt := 10) hx hb dX12_compare_5 (by decide) (Eq.refl _) (fun c5 => ?_) (fun c5 => ?_)
  · refine lv_aload_n hx hb dX12_compare_10 rfl (lv_at hl 0 rfl) ?_
    refine th_getO (j := 2) (r2 := 48) hC cf_X12 hB.1 h0 ro_46 rfl rfl kf_X12_28 dX12_compare_11 (fun b2 mb2 hb2 => ?_)
    refine lv_bipush (v := 72) hx hb dX12_compare_14 (by decide) ?_
    refine th_ialdF hC hB.1 hb2 ro_48 rfl tk_72 (by omega) (by omega) (ek_force (by omega) (by omega)) dX12_compare_16 (fun x3 mx3 lx3 ux3 => ?_)
    have vgx3 : mo_v G H0 a0 2 72 = x3.toInt := by rw [show (72 : Int) = 72 by omega]; exact mo_vat mb2 mx3 (by omega)
    refine lv_istore_n (lv' := [(2, .int x3), (0, .ref a0), (1, .int p1)]) hx hb dX12_compare_17 rfl hl (by decide) rfl (fun ls hl => ?_)
    refine lv_aload_n hx hb dX12_compare_18 rfl (lv_at hl 1 rfl) ?_
    refine th_getK hC cf_X12 hB.1 h0 ro_46 rfl (j := 2) (by decide) mb2 kf_X12_28 dX12_compare_19 ?_
    refine lv_bipush (v := 72) hx hb dX12_compare_22 (by decide) ?_
    refine lv_iload_n hx hb dX12_compare_24 rfl (lv_at hl 2 rfl) ?_
    refine th_iastF hC hB hb2 (Or.inl hb2) ro_48 rfl (by decide) tk_72 (by omega) (by omega) (by rw [(ek_force (by omega) (by omega))]; exact (th_sI (by omega) (by omega))) dX12_compare_25 (fun H25 locs hB hf25 hst25 => ?_)
    have hf := hf25
    have mm4 := (th_F_o hf h0 ro_46 (j := 2) (by decide) (by decide)).trans mb2
    have hRC := th_RC_F hB.1 hR.1 hf (th_T_s hb2 ro_48 hst25) (by decide)
    have fv_H25_33 : mo_f G H25 a0 33 = mo_f G H0 a0 33 := mo_f_F hf h0 (by decide) (by decide)
    have vv_H25_3 : mo_v G H25 a0 3 = mo_v G H0 a0 3 := mo_v_F (r := 49) hB.1 hf h0 rfl ro_49 (by decide) (by decide)
    have vv_H25_4 : mo_v G H25 a0 4 = mo_v G H0 a0 4 := mo_v_F (r := 50) hB.1 hf h0 rfl ro_50 (by decide) (by decide)
    have vv_H25_31 : mo_v G H25 a0 31 = mo_v G H0 a0 31 := mo_v_F (r := 61) hB.1 hf h0 rfl ro_61 (by decide) (by decide)
    have vs25 : mo_v G H25 a0 2 = mo_u (mo_v G H0 a0 2) 72 p1.toInt := by rw [show (72 : Int) = 72 by omega]; exact mo_v_st h0 hb2 (by decide) mb2 hst25 (by omega)
    have tv_p69_H25 : mo_v G H25 a0 2 69 = mo_v G H0 a0 2 69 := by rw [vs25, mo_un (by omega)]
    have tv_p70_H25 : mo_v G H25 a0 2 70 = mo_v G H0 a0 2 70 := by rw [vs25, mo_un (by omega)]
    have hR : th_RN a0 G Γ H25 := ⟨hRC, by rw [vs25, vv_H25_3, vv_H25_4, vv_H25_31, fv_H25_33]; exact mo_ok_f hR.2 (by omega)⟩
    refine lv_aload_n hx hb dX12_compare_26 rfl (lv_at hl 1 rfl) ?_
    refine th_call (th_runV (As := []) (rest := []) hC mf_X12_cheapest km_X12_449 im_X12_cheapest se_X12_cheapest (c_X12_cheapest l G Γ H25 hB.1 a0 h0 (th_NK hR)) rfl rfl ⟨Nat.le_of_ble_eq_true rfl, Nat.le_of_ble_eq_true rfl⟩ hB.1 h0 ro_46 rfl rfl hl.1 rfl (Nat.le_of_ble_eq_true rfl) dX12_compare_27 ⟨Nat.le_refl _, Nat.le_refl _⟩) hB.2.1 (fun v27 H27 locs hp hz hS => ?_)
    have hRD := hR
    obtain ⟨x5, rfl, hI1, hf, hR⟩ := hp
    have hR := th_RN_c hR.1 hRD hI1 h0 hf (by decide)
    have hB := th_B_c hB hI1 hS hf (by decide)
    have mm6 := (th_F_o hf h0 ro_46 (j := 2) (by decide) (by decide)).trans mm4
    have fv_H27_33 : mo_f G H27 a0 33 = mo_f G H25 a0 33 := mo_f_F hf h0 (by decide) (by decide)
    have vv_H27_2 : mo_v G H27 a0 2 = mo_v G H25 a0 2 := mo_v_F (r := 48) hB.1 hf h0 rfl ro_48 (by decide) (by decide)
    have vv_H27_3 : mo_v G H27 a0 3 = mo_v G H25 a0 3 := mo_v_F (r := 49) hB.1 hf h0 rfl ro_49 (by decide) (by decide)
    have vv_H27_4 : mo_v G H27 a0 4 = mo_v G H25 a0 4 := mo_v_F (r := 50) hB.1 hf h0 rfl ro_50 (by decide) (by decide)
    have vv_H27_31 : mo_v G H27 a0 31 = mo_v G H25 a0 31 := mo_v_F (r := 61) hB.1 hf h0 rfl ro_61 (by decide) (by decide)
    have tv_p69_H27 : mo_v G H27 a0 2 69 = mo_v G H0 a0 2 69 := (congrFun (mo_v_F (j := 2) (r := 48) hB.1 hf h0 rfl ro_48 (by decide) (by decide)) 69).trans tv_p69_H25
    have tv_p70_H27 : mo_v G H27 a0 2 70 = mo_v G H0 a0 2 70 := (congrFun (mo_v_F (j := 2) (r := 48) hB.1 hf h0 rfl ro_48 (by decide) (by decide)) 70).trans tv_p70_H25
    refine W.eq (g2 := F0 m 30 ls [.int x5]) rfl ?_
    refine lv_istore_n (lv' := [(3, .int x5), (2, .int x3), (0, .ref a0), (1, .int p1)]) hx hb dX12_compare_30 rfl hl (by decide) rfl (fun ls hl => ?_)
    refine lv_aload_n hx hb dX12_compare_31 rfl (lv_at hl 2 rfl) ?_
    refine th_getK hC cf_X12 hB.1 h0 ro_46 rfl (j := 2) (by decide) mm6 kf_X12_28 dX12_compare_32 ?_
    refine lv_bipush (v := 72) hx hb dX12_compare_35 (by decide) ?_
    refine lv_iload_n hx hb dX12_compare_37 rfl (lv_at hl 1 rfl) ?_
    refine th_iastF hC hB hb2 (Or.inl hb2) ro_48 rfl (by decide) tk_72 (by omega) (by omega) (by rw [(ek_force (by omega) (by omega))]; exact (th_sI (by omega) (by omega))) dX12_compare_38 (fun H38 locs hB hf38 hst38 => ?_)
    have hf := hf38
    have mm7 := (th_F_o hf h0 ro_46 (j := 2) (by decide) (by decide)).trans mm6
    have hRC := th_RC_F hB.1 hR.1 hf (th_T_s hb2 ro_48 hst38) (by decide)
    have fv_H38_33 : mo_f G H38 a0 33 = mo_f G H27 a0 33 := mo_f_F hf h0 (by decide) (by decide)
    have vv_H38_3 : mo_v G H38 a0 3 = mo_v G H27 a0 3 := mo_v_F (r := 49) hB.1 hf h0 rfl ro_49 (by decide) (by decide)
    have vv_H38_4 : mo_v G H38 a0 4 = mo_v G H27 a0 4 := mo_v_F (r := 50) hB.1 hf h0 rfl ro_50 (by decide) (by decide)
    have vv_H38_31 : mo_v G H38 a0 31 = mo_v G H27 a0 31 := mo_v_F (r := 61) hB.1 hf h0 rfl ro_61 (by decide) (by decide)
    have vs38 : mo_v G H38 a0 2 = mo_u (mo_v G H27 a0 2) 72 x3.toInt := by rw [show (72 : Int) = 72 by omega]; exact mo_v_st h0 hb2 (by decide) mm6 hst38 (by omega)
    have tv_p69_H38 : mo_v G H38 a0 2 69 = mo_v G H0 a0 2 69 := by rw [vs38, mo_un (by omega)]; exact tv_p69_H27
    have tv_p70_H38 : mo_v G H38 a0 2 70 = mo_v G H0 a0 2 70 := by rw [vs38, mo_un (by omega)]; exact tv_p70_H27
    have hR : th_RN a0 G Γ H38 := ⟨hRC, by rw [vs38, vv_H38_3, vv_H38_4, vv_H38_31, fv_H38_33]; exact mo_ok_f hR.2 (by rw [vv_H27_2, vs25, mo_un (by omega)]; omega)⟩
    refine lv_iload_n hx hb dX12_compare_39 rfl (lv_at hl 0 rfl) ?_
    exact th_iret hC hH hr hlocks rfl hB.2.1 ⟨_, rfl, hB.1, hB.2.2, hR, tv_p69_H38, tv_p70_H38⟩ dX12_compare_40
  · refine lv_iconst (v := (-1)) hx hb dX12_compare_8 (by decide) ?_
    exact th_iret hC hH hr hlocks rfl hB.2.1 ⟨_, rfl, hB.1, hB.2.2, hR, rfl, rfl⟩ dX12_compare_9

set_option maxHeartbeats 4000000 in
set_option maxRecDepth 100000 in
theorem c_X12_years_q (l : Launch) (G : th_G) (Γ : th_Ga) (H0 : Heap) (hI : th_I G Γ H0) (a0 : Nat) (h0 : Γ a0 = (46, 0)) (hR : th_RN a0 G Γ H0) (p1 : Int32) (p2 : Int32) : Met l yX12_years (.code yX12_years cX12_years 8 (some FieldType.int) :: th_tb) ({ frames := 53, cells := 0, slots := 0, locals := 1674 } : Room) (th_P [.ref a0, .int p1, .int p2] G H0) (th_Q (fun (v : Option Value) (H1 : Heap) => ∃ r : Int32, v = some (.int r) ∧ th_I G Γ H1 ∧ th_F G Γ [(47, 0), (46, 0), (48, 0), (51, 0), (70, 0), (60, 0), (59, 0), (46, 55), (46, 56), (46, 22), (46, 24), (58, 0), (46, 23), (46, 25)] H0 H1 ∧ th_RN a0 G Γ H1 ∧ (mo_v G H1 a0 2 69 = mo_v G H0 a0 2 69) ∧ (mo_v G H1 a0 2 70 = mo_v G H0 a0 2 70)) G) 0 0 (fun q => G.2.2 ≤ q) := by
  refine th_met RX12 (by decide) rfl (Nat.le_of_ble_eq_true rfl) ?_
  intro p e s m below meth c hC hH hr hlocks hnm ls hl
  have hx := hC.1
  have hb := hC.2.1
  have hB : th_B G Γ Γ [(47, 0), (46, 0), (48, 0), (51, 0), (70, 0), (60, 0), (59, 0), (46, 55), (46, 56), (46, 22), (46, 24), (58, 0), (46, 23), (46, 25)] H0 H0 [] := ⟨hI, va_S.rf, th_F_rf⟩
  have hl : lv_has ls 8 [(0, .ref a0), (1, .int p1), (2, .int p2)] := hl
  have lp1 := ti_lo p1; have up1 := ti_hi p1
  have lp2 := ti_lo p2; have up2 := ti_hi p2
  refine lv_iload_n hx hb dX12_years_0 rfl (lv_at hl 1 rfl) ?_
  have hRs := hR
  refine lv_iconst (v := 0) hx hb dX12_years_1 (by decide) ?_
  refine lv_ldc (v := 1000000) hx hb hC.2.2.2.1 (hC.2.2.2.2.1 _ kw_1623) dX12_years_2 ?_
  refine th_call (th_runS (As := [.int p1, .int 0, .int 1000000]) (rest := []) hC mf_X12_lies km_X12_18 st_X12_lies (c_X12_lies l G Γ H0 hB.1 p1 0 1000000) rfl rfl ⟨Nat.le_of_ble_eq_true rfl, Nat.le_of_ble_eq_true rfl⟩ rfl hl.1 rfl (Nat.le_of_ble_eq_true rfl) dX12_years_4 ⟨Nat.le_refl _, Nat.le_refl _⟩) hB.2.1 (fun v4 H4 locs hp hz hS => ?_)
  obtain ⟨x1, rfl, lx1, ux1, q4_0, q4_1, rfl⟩ := hp
  have hB := th_B_s hB hS
  have w4_1 := tk_0
  have w4_2 := tk_1000000
  refine W.eq (g2 := F0 m 7 ls [.int x1]) rfl ?_
  have jn20 : ∀ (locs : List Loc) (ls : Array Slot) , th_B G Γ Γ [(47, 0), (46, 0), (48, 0), (51, 0), (70, 0), (60, 0), (59, 0), (46, 55), (46, 56), (46, 22), (46, 24), (58, 0), (46, 23), (46, 25)] H0 H0 locs → lv_has ls 8 [(0, .ref a0)] → W p l e ({ frames := 53, cells := 0, slots := 0, locals := 1674 } : Room) s m ([.ref a0, .int p1, .int p2] : List Value).toArray below meth c H0 locs 0 0 (MQ below (th_Q (fun (v : Option Value) (H1 : Heap) => ∃ r : Int32, v = some (.int r) ∧ th_I G Γ H1 ∧ th_F G Γ [(47, 0), (46, 0), (48, 0), (51, 0), (70, 0), (60, 0), (59, 0), (46, 55), (46, 56), (46, 22), (46, 24), (58, 0), (46, 23), (46, 25)] H0 H1 ∧ th_RN a0 G Γ H1 ∧ (mo_v G H1 a0 2 69 = mo_v G H0 a0 2 69) ∧ (mo_v G H1 a0 2 70 = mo_v G H0 a0 2 70)) G) ([.ref a0, .int p1, .int p2] : List Value).toArray s 0 0 (fun q => G.2.2 ≤ q)) (F0 m 20 ls []) := by
    intro locs ls hB hl
    refine lv_aload_n hx hb dX12_years_20 rfl (lv_at hl 0 rfl) ?_
    refine lv_iconst (v := (-1)) hx hb dX12_years_21 (by decide) ?_
    refine th_call (th_runV (As := [.int (-1)]) (rest := []) hC mf_X12_refuses km_X12_109 im_X12_refuses se_X12_refuses (c_X12_refuses l G Γ H0 hB.1 hR.1 a0 h0 (-1) (by decide) (by decide)) rfl rfl ⟨Nat.le_of_ble_eq_true rfl, Nat.le_of_ble_eq_true rfl⟩ hB.1 h0 ro_46 rfl rfl hl.1 rfl (Nat.le_of_ble_eq_true rfl) dX12_years_22 ⟨Nat.le_refl _, Nat.le_refl _⟩) hB.2.1 (fun v22 H22 locs hp hz hS => ?_)
    have hRD := hR
    obtain ⟨x2, rfl, q22_0, hI1, hf, hR⟩ := hp
    have hR := th_RN_c hR hRD hI1 h0 hf (by decide)
    have hB := th_B_c hB hI1 hS hf (by decide)
    have fv_H22_33 : mo_f G H22 a0 33 = mo_f G H0 a0 33 := mo_f_F hf h0 (by decide) (by decide)
    have vv_H22_2 : mo_v G H22 a0 2 = mo_v G H0 a0 2 := mo_v_F (r := 48) hB.1 hf h0 rfl ro_48 (by decide) (by decide)
    have vv_H22_3 : mo_v G H22 a0 3 = mo_v G H0 a0 3 := mo_v_F (r := 49) hB.1 hf h0 rfl ro_49 (by decide) (by decide)
    have vv_H22_4 : mo_v G H22 a0 4 = mo_v G H0 a0 4 := mo_v_F (r := 50) hB.1 hf h0 rfl ro_50 (by decide) (by decide)
    have vv_H22_31 : mo_v G H22 a0 31 = mo_v G H0 a0 31 := mo_v_F (r := 61) hB.1 hf h0 rfl ro_61 (by decide) (by decide)
    have vv_H22_5 : mo_v G H22 a0 5 = mo_v G H0 a0 5 := mo_v_F (r := 51) hB.1 hf h0 rfl ro_51 (by decide) (by decide)
    have tv_p69_H22 : mo_v G H22 a0 2 69 = mo_v G H0 a0 2 69 := congrFun (mo_v_F (j := 2) (r := 48) hB.1 hf h0 rfl ro_48 (by decide) (by decide)) 69
    have tv_p70_H22 : mo_v G H22 a0 2 70 = mo_v G H0 a0 2 70 := congrFun (mo_v_F (j := 2) (r := 48) hB.1 hf h0 rfl ro_48 (by decide) (by decide)) 70
    have w22_0 := tk_m1
    refine W.eq (g2 := F0 m 25 ls [.int x2]) rfl ?_
    exact th_iret hC hH hr hlocks rfl hB.2.1 ⟨_, rfl, hB.1, hB.2.2, hR, tv_p69_H22, tv_p70_H22⟩ dX12_years_25
  refine tr_if_eq (tgt := 20) hx hb dX12_years_7 (by decide) (Eq.refl _) (fun c7 => ?_) (fun c7 => ?_)
  · exact jn20 locs ls hB (lv_sub hl [0] rfl)
  · refine lv_iload_n hx hb dX12_years_10 rfl (lv_at hl 2 rfl) ?_
    refine lv_iconst (v := 1) hx hb dX12_years_11 (by decide) ?_
    refine lv_bipush (v := 60) hx hb dX12_years_12 (by decide) ?_
    refine th_call (th_runS (As := [.int p2, .int 1, .int 60]) (rest := []) hC mf_X12_lies km_X12_18 st_X12_lies (c_X12_lies l G Γ H0 hB.1 p2 1 60) rfl rfl ⟨Nat.le_of_ble_eq_true rfl, Nat.le_of_ble_eq_true rfl⟩ rfl hl.1 rfl (Nat.le_of_ble_eq_true rfl) dX12_years_14 ⟨Nat.le_refl _, Nat.le_refl _⟩) hB.2.1 (fun v14 H14 locs hp hz hS => ?_)
    obtain ⟨x3, rfl, lx3, ux3, q14_0, q14_1, rfl⟩ := hp
    have hB := th_B_s hB hS
    have w14_1 := tk_1
    have w14_2 := tk_60
    refine W.eq (g2 := F0 m 17 ls [.int x3]) rfl ?_
    refine tr_if_ne (tgt := 26) hx hb dX12_years_17 (by decide) (Eq.refl _) (fun c17 => ?_) (fun c17 => ?_)
    · refine lv_aload_n hx hb dX12_years_26 rfl (lv_at hl 0 rfl) ?_
      refine th_call (th_runV (As := []) (rest := []) hC mf_X12_many km_X12_115 im_X12_many se_X12_many (c_X12_many l G Γ H0 hB.1 a0 h0) rfl rfl ⟨Nat.le_of_ble_eq_true rfl, Nat.le_of_ble_eq_true rfl⟩ hB.1 h0 ro_46 rfl rfl hl.1 rfl (Nat.le_of_ble_eq_true rfl) dX12_years_27 ⟨Nat.le_refl _, Nat.le_refl _⟩) hB.2.1 (fun v27 H27 locs hp hz hS => ?_)
      obtain ⟨x4, rfl, lx4, ux4, q27_0, rfl⟩ := hp
      have hB := th_B_s hB hS
      refine W.eq (g2 := F0 m 30 ls [.int x4]) rfl ?_
      refine tr_if_ne (tgt := 40) hx hb dX12_years_30 (by decide) (Eq.refl _) (fun c30 => ?_) (fun c30 => ?_)
      · refine lv_aload_n hx hb dX12_years_40 rfl (lv_at hl 0 rfl) ?_
        refine lv_iload_n hx hb dX12_years_41 rfl (lv_at hl 1 rfl) ?_
        refine th_put hC cf_X12 hB h0 (Or.inl h0) ro_46 rfl (j := 56) rfl (th_sI (by omega) (by omega)) (by decide) rfl rfl rfl kf_X12_516 dX12_years_42 (fun H42 locs hB hf hst42 => ?_)
        have hR := th_RN_F hB.1 hR h0 hf (th_T_s h0 ro_46 hst42) (by decide)
        have fv_H42_33 : mo_f G H42 a0 33 = mo_f G H0 a0 33 := mo_f_F hf h0 (by decide) (by decide)
        have vv_H42_2 : mo_v G H42 a0 2 = mo_v G H0 a0 2 := mo_v_F (r := 48) hB.1 hf h0 rfl ro_48 (by decide) (by decide)
        have vv_H42_3 : mo_v G H42 a0 3 = mo_v G H0 a0 3 := mo_v_F (r := 49) hB.1 hf h0 rfl ro_49 (by decide) (by decide)
        have vv_H42_4 : mo_v G H42 a0 4 = mo_v G H0 a0 4 := mo_v_F (r := 50) hB.1 hf h0 rfl ro_50 (by decide) (by decide)
        have vv_H42_31 : mo_v G H42 a0 31 = mo_v G H0 a0 31 := mo_v_F (r := 61) hB.1 hf h0 rfl ro_61 (by decide) (by decide)
        have vv_H42_5 : mo_v G H42 a0 5 = mo_v G H0 a0 5 := mo_v_F (r := 51) hB.1 hf h0 rfl ro_51 (by decide) (by decide)
        have tv_p69_H42 : mo_v G H42 a0 2 69 = mo_v G H0 a0 2 69 := congrFun (mo_v_F (j := 2) (r := 48) hB.1 hf h0 rfl ro_48 (by decide) (by decide)) 69
        have tv_p70_H42 : mo_v G H42 a0 2 70 = mo_v G H0 a0 2 70 := congrFun (mo_v_F (j := 2) (r := 48) hB.1 hf h0 rfl ro_48 (by decide) (by decide)) 70
        refine lv_aload_n hx hb dX12_years_45 rfl (lv_at hl 0 rfl) ?_
        refine lv_aload_n hx hb dX12_years_46 rfl (lv_at hl 0 rfl) ?_
        refine th_call (th_runV (As := []) (rest := [.ref a0]) hC mf_X12_many km_X12_115 im_X12_many se_X12_many (c_X12_many l G Γ H42 hB.1 a0 h0) rfl rfl ⟨Nat.le_of_ble_eq_true rfl, Nat.le_of_ble_eq_true rfl⟩ hB.1 h0 ro_46 rfl rfl hl.1 rfl (Nat.le_of_ble_eq_true rfl) dX12_years_47 ⟨Nat.le_refl _, Nat.le_refl _⟩) hB.2.1 (fun v47 H47 locs hp hz hS => ?_)
        obtain ⟨x5, rfl, lx5, ux5, q47_0, rfl⟩ := hp
        have hB := th_B_s hB hS
        refine W.eq (g2 := F0 m 50 ls [.int x5, .ref a0]) rfl ?_
        refine th_put hC cf_X12 hB h0 (Or.inl h0) ro_46 rfl (j := 55) rfl (th_sI (by omega) (by omega)) (by decide) rfl rfl rfl kf_X12_106 dX12_years_50 (fun H50 locs hB hf hst50 => ?_)
        have hR := th_RN_F hB.1 hR h0 hf (th_T_s h0 ro_46 hst50) (by decide)
        have fv_H50_33 : mo_f G H50 a0 33 = mo_f G H42 a0 33 := mo_f_F hf h0 (by decide) (by decide)
        have vv_H50_2 : mo_v G H50 a0 2 = mo_v G H42 a0 2 := mo_v_F (r := 48) hB.1 hf h0 rfl ro_48 (by decide) (by decide)
        have vv_H50_3 : mo_v G H50 a0 3 = mo_v G H42 a0 3 := mo_v_F (r := 49) hB.1 hf h0 rfl ro_49 (by decide) (by decide)
        have vv_H50_4 : mo_v G H50 a0 4 = mo_v G H42 a0 4 := mo_v_F (r := 50) hB.1 hf h0 rfl ro_50 (by decide) (by decide)
        have vv_H50_31 : mo_v G H50 a0 31 = mo_v G H42 a0 31 := mo_v_F (r := 61) hB.1 hf h0 rfl ro_61 (by decide) (by decide)
        have vv_H50_5 : mo_v G H50 a0 5 = mo_v G H42 a0 5 := mo_v_F (r := 51) hB.1 hf h0 rfl ro_51 (by decide) (by decide)
        have tv_p69_H50 : mo_v G H50 a0 2 69 = mo_v G H0 a0 2 69 := (congrFun (mo_v_F (j := 2) (r := 48) hB.1 hf h0 rfl ro_48 (by decide) (by decide)) 69).trans tv_p69_H42
        have tv_p70_H50 : mo_v G H50 a0 2 70 = mo_v G H0 a0 2 70 := (congrFun (mo_v_F (j := 2) (r := 48) hB.1 hf h0 rfl ro_48 (by decide) (by decide)) 70).trans tv_p70_H42
        refine lv_aload_n hx hb dX12_years_53 rfl (lv_at hl 0 rfl) ?_
        refine lv_iconst (v := 0) hx hb dX12_years_54 (by decide) ?_
        refine th_call (th_runV (As := [.int 0]) (rest := []) hC mf_X12_laysAside km_X12_477 im_X12_laysAside se_X12_laysAside (c_X12_laysAside l G Γ H50 hB.1 hR.1 a0 h0 0 (by decide) (by decide)) rfl rfl ⟨Nat.le_of_ble_eq_true rfl, Nat.le_of_ble_eq_true rfl⟩ hB.1 h0 ro_46 rfl rfl hl.1 rfl (Nat.le_of_ble_eq_true rfl) dX12_years_55 ⟨Nat.le_refl _, Nat.le_refl _⟩) hB.2.1 (fun v55 H55 locs hp hz hS => ?_)
        have hRD := hR
        obtain ⟨rfl, hI1, hf, hR, z55_0⟩ := hp
        have hR := th_RN_c hR hRD hI1 h0 hf (by decide)
        have hB := th_B_c hB hI1 hS hf (by decide)
        have fv_H55_33 : mo_f G H55 a0 33 = mo_f G H50 a0 33 := mo_f_F hf h0 (by decide) (by decide)
        have vv_H55_2 : mo_v G H55 a0 2 = mo_v G H50 a0 2 := mo_v_F (r := 48) hB.1 hf h0 rfl ro_48 (by decide) (by decide)
        have vv_H55_3 : mo_v G H55 a0 3 = mo_v G H50 a0 3 := mo_v_F (r := 49) hB.1 hf h0 rfl ro_49 (by decide) (by decide)
        have vv_H55_4 : mo_v G H55 a0 4 = mo_v G H50 a0 4 := mo_v_F (r := 50) hB.1 hf h0 rfl ro_50 (by decide) (by decide)
        have vv_H55_31 : mo_v G H55 a0 31 = mo_v G H50 a0 31 := mo_v_F (r := 61) hB.1 hf h0 rfl ro_61 (by decide) (by decide)
        have tv_p69_H55 : mo_v G H55 a0 2 69 = mo_v G H0 a0 2 69 := (congrFun (mo_v_F (j := 2) (r := 48) hB.1 hf h0 rfl ro_48 (by decide) (by decide)) 69).trans tv_p69_H50
        have tv_p70_H55 : mo_v G H55 a0 2 70 = mo_v G H0 a0 2 70 := (congrFun (mo_v_F (j := 2) (r := 48) hB.1 hf h0 rfl ro_48 (by decide) (by decide)) 70).trans tv_p70_H50
        refine W.eq (g2 := F0 m 58 ls []) rfl ?_
        refine lv_iconst (v := 0) hx hb dX12_years_58 (by decide) ?_
        refine lv_istore_n (lv' := [(3, .int 0), (0, .ref a0), (1, .int p1), (2, .int p2)]) hx hb dX12_years_59 rfl hl (by decide) rfl (fun ls hl => ?_)
        have lp60 : ∀ (n60 : Nat) (H60 : Heap) (locs : List Loc) (ls : Array Slot) (j60_3 : Int32), th_B G Γ Γ [(47, 0), (46, 0), (48, 0), (51, 0), (70, 0), (60, 0), (59, 0), (46, 55), (46, 56), (46, 22), (46, 24), (58, 0), (46, 23), (46, 25)] H0 H60 locs → th_RN a0 G Γ H60 → lv_has ls 8 [(0, .ref a0), (2, .int p2), (3, .int j60_3)] → 0 ≤ j60_3.toInt → j60_3.toInt ≤ 60 → (∀ z : Int, 29 ≤ z → mo_v G H60 a0 2 z = mo_v G H0 a0 2 z) → (∀ i : Int, 0 ≤ i → i < 29 → mo_v G H60 a0 5 i = mo_v G H0 a0 2 i) → mo_v G H60 a0 2 69 = mo_v G H0 a0 2 69 → mo_v G H60 a0 2 70 = mo_v G H0 a0 2 70 → (2147483648 : Int) - j60_3.toInt ≤ (n60 : Int) → W p l e ({ frames := 53, cells := 0, slots := 0, locals := 1674 } : Room) s m ([.ref a0, .int p1, .int p2] : List Value).toArray below meth c H60 locs 0 0 (MQ below (th_Q (fun (v : Option Value) (H1 : Heap) => ∃ r : Int32, v = some (.int r) ∧ th_I G Γ H1 ∧ th_F G Γ [(47, 0), (46, 0), (48, 0), (51, 0), (70, 0), (60, 0), (59, 0), (46, 55), (46, 56), (46, 22), (46, 24), (58, 0), (46, 23), (46, 25)] H0 H1 ∧ th_RN a0 G Γ H1 ∧ (mo_v G H1 a0 2 69 = mo_v G H0 a0 2 69) ∧ (mo_v G H1 a0 2 70 = mo_v G H0 a0 2 70)) G) ([.ref a0, .int p1, .int p2] : List Value).toArray s 0 0 (fun q => G.2.2 ≤ q)) (F0 m 60 ls []) := by
          intro n60
          induction n60 with
          | zero => intro H60 locs ls j60_3 hB hR hl g60_0 g60_1 g60_2 g60_3 g60_4 g60_5 hm60; exact absurd hm60 (by have := ti_hi j60_3; omega)
          | succ n60 ih60 =>
            intro H60 locs ls j60_3 hB hR hl g60_0 g60_1 g60_2 g60_3 g60_4 g60_5 hm60
            have lj60_3 := ti_lo j60_3; have uj60_3 := ti_hi j60_3
            have fv6_33 : mo_f G H60 a0 33 = mo_f G H0 a0 33 := mo_f_F hB.2.2 h0 (by decide) (by decide)
            have vw_H60_3 : mo_v G H60 a0 3 = mo_v G H0 a0 3 := mo_v_F (r := 49) hB.1 hB.2.2 h0 rfl ro_49 (by decide) (by decide)
            have vw_H60_4 : mo_v G H60 a0 4 = mo_v G H0 a0 4 := mo_v_F (r := 50) hB.1 hB.2.2 h0 rfl ro_50 (by decide) (by decide)
            have vw_H60_31 : mo_v G H60 a0 31 = mo_v G H0 a0 31 := mo_v_F (r := 61) hB.1 hB.2.2 h0 rfl ro_61 (by decide) (by decide)
            have hm60 : (2147483648 : Int) - j60_3.toInt ≤ (n60 : Int) + 1 := by omega
            refine lv_iload_n hx hb dX12_years_60 rfl (lv_at hl 2 rfl) ?_
            refine lv_iload_n hx hb dX12_years_61 rfl (lv_at hl 1 rfl) ?_
            have jn174 : ∀ (locs : List Loc) (ls : Array Slot) , th_B G Γ Γ [(47, 0), (46, 0), (48, 0), (51, 0), (70, 0), (60, 0), (59, 0), (46, 55), (46, 56), (46, 22), (46, 24), (58, 0), (46, 23), (46, 25)] H0 H60 locs → lv_has ls 8 [(0, .ref a0)] → W p l e ({ frames := 53, cells := 0, slots := 0, locals := 1674 } : Room) s m ([.ref a0, .int p1, .int p2] : List Value).toArray below meth c H60 locs 0 0 (MQ below (th_Q (fun (v : Option Value) (H1 : Heap) => ∃ r : Int32, v = some (.int r) ∧ th_I G Γ H1 ∧ th_F G Γ [(47, 0), (46, 0), (48, 0), (51, 0), (70, 0), (60, 0), (59, 0), (46, 55), (46, 56), (46, 22), (46, 24), (58, 0), (46, 23), (46, 25)] H0 H1 ∧ th_RN a0 G Γ H1 ∧ (mo_v G H1 a0 2 69 = mo_v G H0 a0 2 69) ∧ (mo_v G H1 a0 2 70 = mo_v G H0 a0 2 70)) G) ([.ref a0, .int p1, .int p2] : List Value).toArray s 0 0 (fun q => G.2.2 ≤ q)) (F0 m 174 ls []) := by
              intro locs ls hB hl
              refine lv_aload_n hx hb dX12_years_174 rfl (lv_at hl 0 rfl) ?_
              refine th_call (th_runV (As := []) (rest := []) hC mf_X12_bareMany km_X12_323 im_X12_bareMany se_X12_bareMany (c_X12_bareMany l G Γ H60 hB.1 a0 h0) rfl rfl ⟨Nat.le_of_ble_eq_true rfl, Nat.le_of_ble_eq_true rfl⟩ hB.1 h0 ro_46 rfl rfl hl.1 rfl (Nat.le_of_ble_eq_true rfl) dX12_years_175 ⟨Nat.le_refl _, Nat.le_refl _⟩) hB.2.1 (fun v175 H175 locs hp hz hS => ?_)
              obtain ⟨x7, rfl, lx7, ux7, q175_0, rfl⟩ := hp
              have hB := th_B_s hB hS
              refine W.eq (g2 := F0 m 178 ls [.int x7]) rfl ?_
              refine lv_istore_n (lv' := [(3, .int x7), (0, .ref a0)]) hx hb dX12_years_178 rfl hl (by decide) rfl (fun ls hl => ?_)
              refine lv_iconst (v := 0) hx hb dX12_years_179 (by decide) ?_
              refine lv_istore (lv' := [(4, .int 0), (3, .int x7), (0, .ref a0)]) hx hb dX12_years_180 hl (by decide) rfl (fun ls hl => ?_)
              have lp182 : ∀ (n182 : Nat) (H182 : Heap) (locs : List Loc) (ls : Array Slot) (j182_4 : Int32), th_B G Γ Γ [(47, 0), (46, 0), (48, 0), (51, 0), (70, 0), (60, 0), (59, 0), (46, 55), (46, 56), (46, 22), (46, 24), (58, 0), (46, 23), (46, 25)] H0 H182 locs → th_RN a0 G Γ H182 → lv_has ls 8 [(3, .int x7), (0, .ref a0), (4, .int j182_4)] → 0 ≤ j182_4.toInt → j182_4.toInt ≤ 29 → (∀ z : Int, 29 ≤ z → mo_v G H182 a0 2 z = mo_v G H0 a0 2 z) → (∀ i : Int, 0 ≤ i → i < 29 → mo_v G H182 a0 5 i = mo_v G H0 a0 2 i) → mo_v G H182 a0 2 69 = mo_v G H0 a0 2 69 → mo_v G H182 a0 2 70 = mo_v G H0 a0 2 70 → (2147483648 : Int) - j182_4.toInt ≤ (n182 : Int) → W p l e ({ frames := 53, cells := 0, slots := 0, locals := 1674 } : Room) s m ([.ref a0, .int p1, .int p2] : List Value).toArray below meth c H182 locs 0 0 (MQ below (th_Q (fun (v : Option Value) (H1 : Heap) => ∃ r : Int32, v = some (.int r) ∧ th_I G Γ H1 ∧ th_F G Γ [(47, 0), (46, 0), (48, 0), (51, 0), (70, 0), (60, 0), (59, 0), (46, 55), (46, 56), (46, 22), (46, 24), (58, 0), (46, 23), (46, 25)] H0 H1 ∧ th_RN a0 G Γ H1 ∧ (mo_v G H1 a0 2 69 = mo_v G H0 a0 2 69) ∧ (mo_v G H1 a0 2 70 = mo_v G H0 a0 2 70)) G) ([.ref a0, .int p1, .int p2] : List Value).toArray s 0 0 (fun q => G.2.2 ≤ q)) (F0 m 182 ls []) := by
                intro n182
                induction n182 with
                | zero => intro H182 locs ls j182_4 hB hR hl g182_0 g182_1 g182_2 g182_3 g182_4 g182_5 hm182; exact absurd hm182 (by have := ti_hi j182_4; omega)
                | succ n182 ih182 =>
                  intro H182 locs ls j182_4 hB hR hl g182_0 g182_1 g182_2 g182_3 g182_4 g182_5 hm182
                  have lj182_4 := ti_lo j182_4; have uj182_4 := ti_hi j182_4
                  have fv8_33 : mo_f G H182 a0 33 = mo_f G H0 a0 33 := mo_f_F hB.2.2 h0 (by decide) (by decide)
                  have vw_H182_3 : mo_v G H182 a0 3 = mo_v G H0 a0 3 := mo_v_F (r := 49) hB.1 hB.2.2 h0 rfl ro_49 (by decide) (by decide)
                  have vw_H182_4 : mo_v G H182 a0 4 = mo_v G H0 a0 4 := mo_v_F (r := 50) hB.1 hB.2.2 h0 rfl ro_50 (by decide) (by decide)
                  have vw_H182_31 : mo_v G H182 a0 31 = mo_v G H0 a0 31 := mo_v_F (r := 61) hB.1 hB.2.2 h0 rfl ro_61 (by decide) (by decide)
                  have hm182 : (2147483648 : Int) - j182_4.toInt ≤ (n182 : Int) + 1 := by omega
                  refine lv_iload hx hb dX12_years_182 (lv_at hl 2 rfl) ?_
                  refine lv_bipush (v := 29) hx hb dX12_years_184 (by decide) ?_
                  refine tr_icmp_ge (tgt := 209) hx hb dX12_years_186 (by decide) (Eq.refl _) tk_29 (fun c186 => ?_) (fun c186 => ?_)
                  · refine lv_aload_n hx hb dX12_years_209 rfl (lv_at hl 1 rfl) ?_
                    refine lv_iconst (v := 0) hx hb dX12_years_210 (by decide) ?_
                    refine th_call (th_runV (As := [.int 0]) (rest := []) hC mf_X12_takesBack km_X12_486 im_X12_takesBack se_X12_takesBack (c_X12_takesBack l G Γ H182 hB.1 a0 h0 (th_NE hR) 0 (by decide) (by decide)) rfl rfl ⟨Nat.le_of_ble_eq_true rfl, Nat.le_of_ble_eq_true rfl⟩ hB.1 h0 ro_46 rfl rfl hl.1 rfl (Nat.le_of_ble_eq_true rfl) dX12_years_211 ⟨Nat.le_refl _, Nat.le_refl _⟩) hB.2.1 (fun v211 H211 locs hp hz hS => ?_)
                    have hRD := hR
                    obtain ⟨rfl, hI1, hf, hR, z211_0⟩ := hp
                    have hRc211 := hR
                    have hR := hRD
                    have hRC := hRc211.1
                    have hB := th_B_c hB hI1 hS hf (by decide)
                    have fv_H211_33 : mo_f G H211 a0 33 = mo_f G H182 a0 33 := mo_f_F hf h0 (by decide) (by decide)
                    have vv_H211_3 : mo_v G H211 a0 3 = mo_v G H182 a0 3 := mo_v_F (r := 49) hB.1 hf h0 rfl ro_49 (by decide) (by decide)
                    have vv_H211_4 : mo_v G H211 a0 4 = mo_v G H182 a0 4 := mo_v_F (r := 50) hB.1 hf h0 rfl ro_50 (by decide) (by decide)
                    have vv_H211_31 : mo_v G H211 a0 31 = mo_v G H182 a0 31 := mo_v_F (r := 61) hB.1 hf h0 rfl ro_61 (by decide) (by decide)
                    have vv_H211_5 : mo_v G H211 a0 5 = mo_v G H182 a0 5 := mo_v_F (r := 51) hB.1 hf h0 rfl ro_51 (by decide) (by decide)
                    have tv_p69_H211 : mo_v G H211 a0 2 69 = mo_v G H0 a0 2 69 := (show mo_v G H211 a0 2 69 = mo_v G H182 a0 2 69 from (by rw [z211_0 69, if_neg (by omega)])).trans g182_4
                    have tv_p70_H211 : mo_v G H211 a0 2 70 = mo_v G H0 a0 2 70 := (show mo_v G H211 a0 2 70 = mo_v G H182 a0 2 70 from (by rw [z211_0 70, if_neg (by omega)])).trans g182_5
                    refine W.eq (g2 := F0 m 214 ls []) rfl ?_
                    have hR : th_RN a0 G Γ H211 := ⟨hRc211.1, by rw [mo_v_F (j := 3) (r := 49) hB.1 hB.2.2 h0 rfl ro_49 (by decide) (by decide), mo_v_F (j := 4) (r := 50) hB.1 hB.2.2 h0 rfl ro_50 (by decide) (by decide), mo_v_F (j := 31) (r := 61) hB.1 hB.2.2 h0 rfl ro_61 (by decide) (by decide), mo_f_F hB.2.2 h0 (j := 33) (by decide) (by decide)]; exact mo_ok_29 hRs.2 (fun i hi => by rw [z211_0 i, if_neg (by omega)]; exact g182_2 i hi) (mo_geo_ext (fun i a9 b9 => by rw [z211_0 i]; by_cases q9 : 0 ≤ i ∧ i < 29; rw [if_pos q9, show 29 * (0 : Int32).toInt + i = i by (have w0 := tk_0; omega)]; exact g182_3 i a9 (by omega); rw [if_neg q9]; exact g182_2 i (by omega)) hRs.2.1.2.1)⟩
                    refine lv_aload_n hx hb dX12_years_214 rfl (lv_at hl 1 rfl) ?_
                    refine lv_iload_n hx hb dX12_years_215 rfl (lv_at hl 0 rfl) ?_
                    refine th_call (th_runV (As := [.int x7]) (rest := []) hC mf_X12_good km_X12_14 im_X12_good se_X12_good (c_X12_good l G Γ H211 hB.1 hR.1 a0 h0 x7) rfl rfl ⟨Nat.le_of_ble_eq_true rfl, Nat.le_of_ble_eq_true rfl⟩ hB.1 h0 ro_46 rfl rfl hl.1 rfl (Nat.le_of_ble_eq_true rfl) dX12_years_216 ⟨Nat.le_refl _, Nat.le_refl _⟩) hB.2.1 (fun v216 H216 locs hp hz hS => ?_)
                    have hRD := hR
                    obtain ⟨x9, rfl, q216_0, hI1, hf, hR⟩ := hp
                    have hR := th_RN_c hR hRD hI1 h0 hf (by decide)
                    have hB := th_B_c hB hI1 hS hf (by decide)
                    have fv_H216_33 : mo_f G H216 a0 33 = mo_f G H211 a0 33 := mo_f_F hf h0 (by decide) (by decide)
                    have vv_H216_2 : mo_v G H216 a0 2 = mo_v G H211 a0 2 := mo_v_F (r := 48) hB.1 hf h0 rfl ro_48 (by decide) (by decide)
                    have vv_H216_3 : mo_v G H216 a0 3 = mo_v G H211 a0 3 := mo_v_F (r := 49) hB.1 hf h0 rfl ro_49 (by decide) (by decide)
                    have vv_H216_4 : mo_v G H216 a0 4 = mo_v G H211 a0 4 := mo_v_F (r := 50) hB.1 hf h0 rfl ro_50 (by decide) (by decide)
                    have vv_H216_31 : mo_v G H216 a0 31 = mo_v G H211 a0 31 := mo_v_F (r := 61) hB.1 hf h0 rfl ro_61 (by decide) (by decide)
                    have vv_H216_5 : mo_v G H216 a0 5 = mo_v G H211 a0 5 := mo_v_F (r := 51) hB.1 hf h0 rfl ro_51 (by decide) (by decide)
                    have tv_p69_H216 : mo_v G H216 a0 2 69 = mo_v G H0 a0 2 69 := (congrFun (mo_v_F (j := 2) (r := 48) hB.1 hf h0 rfl ro_48 (by decide) (by decide)) 69).trans tv_p69_H211
                    have tv_p70_H216 : mo_v G H216 a0 2 70 = mo_v G H0 a0 2 70 := (congrFun (mo_v_F (j := 2) (r := 48) hB.1 hf h0 rfl ro_48 (by decide) (by decide)) 70).trans tv_p70_H211
                    refine W.eq (g2 := F0 m 219 ls [.int x9]) rfl ?_
                    exact th_iret hC hH hr hlocks rfl hB.2.1 ⟨_, rfl, hB.1, hB.2.2, hR, tv_p69_H216, tv_p70_H216⟩ dX12_years_219
                  · refine lv_aload_n hx hb dX12_years_189 rfl (lv_at hl 1 rfl) ?_
                    refine th_getO (j := 54) (r2 := 70) hC cf_X12 hB.1 h0 ro_46 rfl rfl kf_X12_103 dX12_years_190 (fun b10 mb10 hb10 => ?_)
                    have sb10 := (th_F_o hB.2.2 h0 ro_46 (j := 54) (by decide) (by decide)).symm.trans mb10
                    refine lv_iload hx hb dX12_years_193 (lv_at hl 2 rfl) ?_
                    refine lv_aload_n hx hb dX12_years_195 rfl (lv_at hl 1 rfl) ?_
                    refine th_getO (j := 2) (r2 := 48) hC cf_X12 hB.1 h0 ro_46 rfl rfl kf_X12_28 dX12_years_196 (fun b11 mb11 hb11 => ?_)
                    have sb11 := (th_F_o hB.2.2 h0 ro_46 (j := 2) (by decide) (by decide)).symm.trans mb11
                    refine lv_iload hx hb dX12_years_199 (lv_at hl 2 rfl) ?_
                    refine th_ialdF hC hB.1 hb11 ro_48 rfl (Eq.refl _) (by omega) (by omega) (ek_a (by omega) (by omega)) dX12_years_201 (fun x12 mx12 lx12 ux12 => ?_)
                    have vgx12 : mo_v G H182 a0 2 j182_4.toInt = x12.toInt := by rw [show (j182_4.toInt : Int) = j182_4.toInt by omega]; exact mo_vat mb11 mx12 (by omega)
                    refine th_iastF hC hB hb10 (Or.inl hb10) ro_70 rfl (by decide) (Eq.refl _) (by omega) (by omega) th_sIa dX12_years_202 (fun H202 locs hB hf202 hst202 => ?_)
                    have hf := hf202
                    have mm13 := (th_F_o hf h0 ro_46 (j := 54) (by decide) (by decide)).trans mb10
                    have mm14 := (th_F_o hf h0 ro_46 (j := 2) (by decide) (by decide)).trans mb11
                    have hR := th_RN_F hB.1 hR h0 hf (th_T_s hb10 ro_70 hst202) (by decide)
                    have fv_H202_33 : mo_f G H202 a0 33 = mo_f G H182 a0 33 := mo_f_F hf h0 (by decide) (by decide)
                    have vv_H202_2 : mo_v G H202 a0 2 = mo_v G H182 a0 2 := mo_v_F (r := 48) hB.1 hf h0 rfl ro_48 (by decide) (by decide)
                    have vv_H202_3 : mo_v G H202 a0 3 = mo_v G H182 a0 3 := mo_v_F (r := 49) hB.1 hf h0 rfl ro_49 (by decide) (by decide)
                    have vv_H202_4 : mo_v G H202 a0 4 = mo_v G H182 a0 4 := mo_v_F (r := 50) hB.1 hf h0 rfl ro_50 (by decide) (by decide)
                    have vv_H202_31 : mo_v G H202 a0 31 = mo_v G H182 a0 31 := mo_v_F (r := 61) hB.1 hf h0 rfl ro_61 (by decide) (by decide)
                    have vv_H202_5 : mo_v G H202 a0 5 = mo_v G H182 a0 5 := mo_v_F (r := 51) hB.1 hf h0 rfl ro_51 (by decide) (by decide)
                    have tv_p69_H202 : mo_v G H202 a0 2 69 = mo_v G H0 a0 2 69 := (congrFun (mo_v_F (j := 2) (r := 48) hB.1 hf h0 rfl ro_48 (by decide) (by decide)) 69).trans g182_4
                    have tv_p70_H202 : mo_v G H202 a0 2 70 = mo_v G H0 a0 2 70 := (congrFun (mo_v_F (j := 2) (r := 48) hB.1 hf h0 rfl ro_48 (by decide) (by decide)) 70).trans g182_5
                    refine tr_iinc (fun x15 => [(4, .int x15), (3, .int x7), (0, .ref a0)]) hx hb dX12_years_203 hl (k := 2) rfl (Eq.refl _) tk_1 (by omega) (by omega) (by decide) (fun _ => rfl) (fun x15 ls ex15 hl => ?_)
                    refine lv_goto (tgt := 182) hx hb dX12_years_206 (by decide) ?_
                    exact ih182 H202 locs ls x15 hB hR (lv_sub hl [1, 2, 0] rfl) (by omega) (by omega) (fun z a9 => by rw [vv_H202_2]; exact g182_2 z a9) (fun i a9 b9 => by rw [vv_H202_5]; exact g182_3 i a9 b9) tv_p69_H202 tv_p70_H202 (by omega)
              exact lp182 ((2147483648 : Int) - (0)).toNat H60 locs ls 0 hB hR (lv_sub hl [1, 2, 0] rfl) (by decide) (by decide) (fun z a9 => g60_2 z a9) g60_3 g60_4 g60_5 (by have w0 := tk_0; omega)
            refine tr_icmp_ge (tgt := 174) hx hb dX12_years_62 (by decide) (Eq.refl _) (Eq.refl _) (fun c62 => ?_) (fun c62 => ?_)
            · exact jn174 locs ls hB (lv_sub hl [0] rfl)
            · refine lv_aload_n hx hb dX12_years_65 rfl (lv_at hl 0 rfl) ?_
              refine th_getO (j := 2) (r2 := 48) hC cf_X12 hB.1 h0 ro_46 rfl rfl kf_X12_28 dX12_years_66 (fun b16 mb16 hb16 => ?_)
              have sb16 := (th_F_o hB.2.2 h0 ro_46 (j := 2) (by decide) (by decide)).symm.trans mb16
              refine lv_bipush (v := 28) hx hb dX12_years_69 (by decide) ?_
              refine th_ialdF hC hB.1 hb16 ro_48 rfl tk_28 (by omega) (by omega) (ek_a (by omega) (by omega)) dX12_years_71 (fun x17 mx17 lx17 ux17 => ?_)
              have vgx17 : mo_v G H60 a0 2 28 = x17.toInt := by rw [show (28 : Int) = 28 by omega]; exact mo_vat mb16 mx17 (by omega)
              refine lv_sipush (v := 999) hx hb dX12_years_72 (by decide) ?_
              refine tr_icmp_ge (tgt := 174) hx hb dX12_years_75 (by decide) (Eq.refl _) tk_999 (fun c75 => ?_) (fun c75 => ?_)
              · exact jn174 locs ls hB (lv_sub hl [0] rfl)
              · refine lv_aload_n hx hb dX12_years_78 rfl (lv_at hl 0 rfl) ?_
                refine lv_aload_n hx hb dX12_years_79 rfl (lv_at hl 0 rfl) ?_
                refine th_call (th_runV (As := []) (rest := [.ref a0]) hC mf_X12_many km_X12_115 im_X12_many se_X12_many (c_X12_many l G Γ H60 hB.1 a0 h0) rfl rfl ⟨Nat.le_of_ble_eq_true rfl, Nat.le_of_ble_eq_true rfl⟩ hB.1 h0 ro_46 rfl rfl hl.1 rfl (Nat.le_of_ble_eq_true rfl) dX12_years_80 ⟨Nat.le_refl _, Nat.le_refl _⟩) hB.2.1 (fun v80 H80 locs hp hz hS => ?_)
                obtain ⟨x18, rfl, lx18, ux18, q80_0, rfl⟩ := hp
                have hB := th_B_s hB hS
                refine W.eq (g2 := F0 m 83 ls [.int x18, .ref a0]) rfl ?_
                have w80 : 1 ≤ x18.toInt := by rw [q80_0, g60_2 69 (by omega)]; omega
                refine th_call (th_runV (As := [.int x18]) (rest := []) hC mf_X12_draws km_X12_523 im_X12_draws se_X12_draws (c_X12_draws l G Γ H60 hB.1 hR.1 a0 h0 x18 (by omega) (by omega)) rfl rfl ⟨Nat.le_of_ble_eq_true rfl, Nat.le_of_ble_eq_true rfl⟩ hB.1 h0 ro_46 rfl rfl hl.1 rfl (Nat.le_of_ble_eq_true rfl) dX12_years_83 ⟨Nat.le_refl _, Nat.le_refl _⟩) hB.2.1 (fun v83 H83 locs hp hz hS => ?_)
                have hRD := hR
                obtain ⟨x19, rfl, lx19, ux19, q83_0, hI1, hf, hR⟩ := hp
                have hR := th_RN_c hR hRD hI1 h0 hf (by decide)
                have hB := th_B_c hB hI1 hS hf (by decide)
                have mm20 := (th_F_o hf h0 ro_46 (j := 2) (by decide) (by decide)).trans mb16
                have fv_H83_33 : mo_f G H83 a0 33 = mo_f G H60 a0 33 := mo_f_F hf h0 (by decide) (by decide)
                have vv_H83_2 : mo_v G H83 a0 2 = mo_v G H60 a0 2 := mo_v_F (r := 48) hB.1 hf h0 rfl ro_48 (by decide) (by decide)
                have vv_H83_3 : mo_v G H83 a0 3 = mo_v G H60 a0 3 := mo_v_F (r := 49) hB.1 hf h0 rfl ro_49 (by decide) (by decide)
                have vv_H83_4 : mo_v G H83 a0 4 = mo_v G H60 a0 4 := mo_v_F (r := 50) hB.1 hf h0 rfl ro_50 (by decide) (by decide)
                have vv_H83_31 : mo_v G H83 a0 31 = mo_v G H60 a0 31 := mo_v_F (r := 61) hB.1 hf h0 rfl ro_61 (by decide) (by decide)
                have vv_H83_5 : mo_v G H83 a0 5 = mo_v G H60 a0 5 := mo_v_F (r := 51) hB.1 hf h0 rfl ro_51 (by decide) (by decide)
                have tv_p69_H83 : mo_v G H83 a0 2 69 = mo_v G H0 a0 2 69 := (congrFun (mo_v_F (j := 2) (r := 48) hB.1 hf h0 rfl ro_48 (by decide) (by decide)) 69).trans g60_4
                have tv_p70_H83 : mo_v G H83 a0 2 70 = mo_v G H0 a0 2 70 := (congrFun (mo_v_F (j := 2) (r := 48) hB.1 hf h0 rfl ro_48 (by decide) (by decide)) 70).trans g60_5
                refine W.eq (g2 := F0 m 86 ls [.int x19]) rfl ?_
                have m83 : x19.toInt < mo_v G H60 a0 2 69 := by omega
                refine lv_istore (lv' := [(4, .int x19), (0, .ref a0), (2, .int p2), (3, .int j60_3)]) hx hb dX12_years_86 hl (by decide) rfl (fun ls hl => ?_)
                refine lv_aload_n hx hb dX12_years_88 rfl (lv_at hl 1 rfl) ?_
                refine lv_aload_n hx hb dX12_years_89 rfl (lv_at hl 1 rfl) ?_
                refine th_getK hC cf_X12 hB.1 h0 ro_46 rfl (j := 2) (by decide) mm20 kf_X12_28 dX12_years_90 ?_
                refine lv_bipush (v := 67) hx hb dX12_years_93 (by decide) ?_
                refine th_ialdF hC hB.1 hb16 ro_48 rfl tk_67 (by omega) (by omega) (ek_hall (by omega) (by omega)) dX12_years_95 (fun x21 mx21 lx21 ux21 => ?_)
                have vgx21 : mo_v G H83 a0 2 67 = x21.toInt := by rw [show (67 : Int) = 67 by omega]; exact mo_vat mm20 mx21 (by omega)
                have w95 := hR.2.1.2.2.1
                refine th_call (th_runV (As := [.int x21]) (rest := []) hC mf_X12_draws km_X12_523 im_X12_draws se_X12_draws (c_X12_draws l G Γ H83 hB.1 hR.1 a0 h0 x21 (by omega) (by omega)) rfl rfl ⟨Nat.le_of_ble_eq_true rfl, Nat.le_of_ble_eq_true rfl⟩ hB.1 h0 ro_46 rfl rfl hl.1 rfl (Nat.le_of_ble_eq_true rfl) dX12_years_96 ⟨Nat.le_refl _, Nat.le_refl _⟩) hB.2.1 (fun v96 H96 locs hp hz hS => ?_)
                have hRD := hR
                obtain ⟨x22, rfl, lx22, ux22, q96_0, hI1, hf, hR⟩ := hp
                have hR := th_RN_c hR hRD hI1 h0 hf (by decide)
                have hB := th_B_c hB hI1 hS hf (by decide)
                have mm23 := (th_F_o hf h0 ro_46 (j := 2) (by decide) (by decide)).trans mm20
                have fv_H96_33 : mo_f G H96 a0 33 = mo_f G H83 a0 33 := mo_f_F hf h0 (by decide) (by decide)
                have vv_H96_2 : mo_v G H96 a0 2 = mo_v G H83 a0 2 := mo_v_F (r := 48) hB.1 hf h0 rfl ro_48 (by decide) (by decide)
                have vv_H96_3 : mo_v G H96 a0 3 = mo_v G H83 a0 3 := mo_v_F (r := 49) hB.1 hf h0 rfl ro_49 (by decide) (by decide)
                have vv_H96_4 : mo_v G H96 a0 4 = mo_v G H83 a0 4 := mo_v_F (r := 50) hB.1 hf h0 rfl ro_50 (by decide) (by decide)
                have vv_H96_31 : mo_v G H96 a0 31 = mo_v G H83 a0 31 := mo_v_F (r := 61) hB.1 hf h0 rfl ro_61 (by decide) (by decide)
                have vv_H96_5 : mo_v G H96 a0 5 = mo_v G H83 a0 5 := mo_v_F (r := 51) hB.1 hf h0 rfl ro_51 (by decide) (by decide)
                have tv_p69_H96 : mo_v G H96 a0 2 69 = mo_v G H0 a0 2 69 := (congrFun (mo_v_F (j := 2) (r := 48) hB.1 hf h0 rfl ro_48 (by decide) (by decide)) 69).trans tv_p69_H83
                have tv_p70_H96 : mo_v G H96 a0 2 70 = mo_v G H0 a0 2 70 := (congrFun (mo_v_F (j := 2) (r := 48) hB.1 hf h0 rfl ro_48 (by decide) (by decide)) 70).trans tv_p70_H83
                refine W.eq (g2 := F0 m 99 ls [.int x22]) rfl ?_
                refine lv_istore (lv' := [(5, .int x22), (4, .int x19), (0, .ref a0), (2, .int p2), (3, .int j60_3)]) hx hb dX12_years_99 hl (by decide) rfl (fun ls hl => ?_)
                refine lv_aload_n hx hb dX12_years_101 rfl (lv_at hl 2 rfl) ?_
                refine lv_aload_n hx hb dX12_years_102 rfl (lv_at hl 2 rfl) ?_
                refine th_getK hC cf_X12 hB.1 h0 ro_46 rfl (j := 2) (by decide) mm23 kf_X12_28 dX12_years_103 ?_
                refine lv_bipush (v := 68) hx hb dX12_years_106 (by decide) ?_
                refine th_ialdF hC hB.1 hb16 ro_48 rfl tk_68 (by omega) (by omega) (ek_hall (by omega) (by omega)) dX12_years_108 (fun x24 mx24 lx24 ux24 => ?_)
                have vgx24 : mo_v G H96 a0 2 68 = x24.toInt := by rw [show (68 : Int) = 68 by omega]; exact mo_vat mm23 mx24 (by omega)
                have w108 := hR.2.1.2.2.2.1
                refine th_call (th_runV (As := [.int x24]) (rest := []) hC mf_X12_draws km_X12_523 im_X12_draws se_X12_draws (c_X12_draws l G Γ H96 hB.1 hR.1 a0 h0 x24 (by omega) (by omega)) rfl rfl ⟨Nat.le_of_ble_eq_true rfl, Nat.le_of_ble_eq_true rfl⟩ hB.1 h0 ro_46 rfl rfl hl.1 rfl (Nat.le_of_ble_eq_true rfl) dX12_years_109 ⟨Nat.le_refl _, Nat.le_refl _⟩) hB.2.1 (fun v109 H109 locs hp hz hS => ?_)
                have hRD := hR
                obtain ⟨x25, rfl, lx25, ux25, q109_0, hI1, hf, hR⟩ := hp
                have hR := th_RN_c hR hRD hI1 h0 hf (by decide)
                have hB := th_B_c hB hI1 hS hf (by decide)
                have mm26 := (th_F_o hf h0 ro_46 (j := 2) (by decide) (by decide)).trans mm23
                have fv_H109_33 : mo_f G H109 a0 33 = mo_f G H96 a0 33 := mo_f_F hf h0 (by decide) (by decide)
                have vv_H109_2 : mo_v G H109 a0 2 = mo_v G H96 a0 2 := mo_v_F (r := 48) hB.1 hf h0 rfl ro_48 (by decide) (by decide)
                have vv_H109_3 : mo_v G H109 a0 3 = mo_v G H96 a0 3 := mo_v_F (r := 49) hB.1 hf h0 rfl ro_49 (by decide) (by decide)
                have vv_H109_4 : mo_v G H109 a0 4 = mo_v G H96 a0 4 := mo_v_F (r := 50) hB.1 hf h0 rfl ro_50 (by decide) (by decide)
                have vv_H109_31 : mo_v G H109 a0 31 = mo_v G H96 a0 31 := mo_v_F (r := 61) hB.1 hf h0 rfl ro_61 (by decide) (by decide)
                have vv_H109_5 : mo_v G H109 a0 5 = mo_v G H96 a0 5 := mo_v_F (r := 51) hB.1 hf h0 rfl ro_51 (by decide) (by decide)
                have tv_p69_H109 : mo_v G H109 a0 2 69 = mo_v G H0 a0 2 69 := (congrFun (mo_v_F (j := 2) (r := 48) hB.1 hf h0 rfl ro_48 (by decide) (by decide)) 69).trans tv_p69_H96
                have tv_p70_H109 : mo_v G H109 a0 2 70 = mo_v G H0 a0 2 70 := (congrFun (mo_v_F (j := 2) (r := 48) hB.1 hf h0 rfl ro_48 (by decide) (by decide)) 70).trans tv_p70_H96
                refine W.eq (g2 := F0 m 112 ls [.int x25]) rfl ?_
                refine lv_istore (lv' := [(6, .int x25), (5, .int x22), (4, .int x19), (0, .ref a0), (2, .int p2), (3, .int j60_3)]) hx hb dX12_years_112 hl (by decide) rfl (fun ls hl => ?_)
                refine lv_aload_n hx hb dX12_years_114 rfl (lv_at hl 3 rfl) ?_
                refine lv_iconst (v := 3) hx hb dX12_years_115 (by decide) ?_
                refine th_call (th_runV (As := [.int 3]) (rest := []) hC mf_X12_draws km_X12_523 im_X12_draws se_X12_draws (c_X12_draws l G Γ H109 hB.1 hR.1 a0 h0 3 (by decide) (by decide)) rfl rfl ⟨Nat.le_of_ble_eq_true rfl, Nat.le_of_ble_eq_true rfl⟩ hB.1 h0 ro_46 rfl rfl hl.1 rfl (Nat.le_of_ble_eq_true rfl) dX12_years_116 ⟨Nat.le_refl _, Nat.le_refl _⟩) hB.2.1 (fun v116 H116 locs hp hz hS => ?_)
                have hRD := hR
                obtain ⟨x27, rfl, lx27, ux27, q116_0, hI1, hf, hR⟩ := hp
                have hR := th_RN_c hR hRD hI1 h0 hf (by decide)
                have hB := th_B_c hB hI1 hS hf (by decide)
                have mm28 := (th_F_o hf h0 ro_46 (j := 2) (by decide) (by decide)).trans mm26
                have fv_H116_33 : mo_f G H116 a0 33 = mo_f G H109 a0 33 := mo_f_F hf h0 (by decide) (by decide)
                have vv_H116_2 : mo_v G H116 a0 2 = mo_v G H109 a0 2 := mo_v_F (r := 48) hB.1 hf h0 rfl ro_48 (by decide) (by decide)
                have vv_H116_3 : mo_v G H116 a0 3 = mo_v G H109 a0 3 := mo_v_F (r := 49) hB.1 hf h0 rfl ro_49 (by decide) (by decide)
                have vv_H116_4 : mo_v G H116 a0 4 = mo_v G H109 a0 4 := mo_v_F (r := 50) hB.1 hf h0 rfl ro_50 (by decide) (by decide)
                have vv_H116_31 : mo_v G H116 a0 31 = mo_v G H109 a0 31 := mo_v_F (r := 61) hB.1 hf h0 rfl ro_61 (by decide) (by decide)
                have vv_H116_5 : mo_v G H116 a0 5 = mo_v G H109 a0 5 := mo_v_F (r := 51) hB.1 hf h0 rfl ro_51 (by decide) (by decide)
                have tv_p69_H116 : mo_v G H116 a0 2 69 = mo_v G H0 a0 2 69 := (congrFun (mo_v_F (j := 2) (r := 48) hB.1 hf h0 rfl ro_48 (by decide) (by decide)) 69).trans tv_p69_H109
                have tv_p70_H116 : mo_v G H116 a0 2 70 = mo_v G H0 a0 2 70 := (congrFun (mo_v_F (j := 2) (r := 48) hB.1 hf h0 rfl ro_48 (by decide) (by decide)) 70).trans tv_p70_H109
                have w116_0 := tk_3
                refine W.eq (g2 := F0 m 119 ls [.int x27]) rfl ?_
                refine lv_istore (lv' := [(7, .int x27), (6, .int x25), (5, .int x22), (4, .int x19), (0, .ref a0), (2, .int p2), (3, .int j60_3)]) hx hb dX12_years_119 hl (by decide) rfl (fun ls hl => ?_)
                refine lv_iload hx hb dX12_years_121 (lv_at hl 0 rfl) ?_
                refine lv_iconst (v := 2) hx hb dX12_years_123 (by decide) ?_
                have jn151 : ∀ (H151 : Heap) (locs : List Loc) (ls : Array Slot) , th_B G Γ Γ [(47, 0), (46, 0), (48, 0), (51, 0), (70, 0), (60, 0), (59, 0), (46, 55), (46, 56), (46, 22), (46, 24), (58, 0), (46, 23), (46, 25)] H0 H151 locs → th_RN a0 G Γ H151 → lv_has ls 8 [(7, .int x27), (4, .int x19), (0, .ref a0), (2, .int p2), (3, .int j60_3)] → (∀ z : Int, 29 ≤ z → mo_v G H151 a0 2 z = mo_v G H0 a0 2 z) → (∀ i : Int, 0 ≤ i → i < 29 → mo_v G H151 a0 5 i = mo_v G H0 a0 2 i) → mo_v G H151 a0 2 69 = mo_v G H0 a0 2 69 → mo_v G H151 a0 2 70 = mo_v G H0 a0 2 70 → W p l e ({ frames := 53, cells := 0, slots := 0, locals := 1674 } : Room) s m ([.ref a0, .int p1, .int p2] : List Value).toArray below meth c H151 locs 0 0 (MQ below (th_Q (fun (v : Option Value) (H1 : Heap) => ∃ r : Int32, v = some (.int r) ∧ th_I G Γ H1 ∧ th_F G Γ [(47, 0), (46, 0), (48, 0), (51, 0), (70, 0), (60, 0), (59, 0), (46, 55), (46, 56), (46, 22), (46, 24), (58, 0), (46, 23), (46, 25)] H0 H1 ∧ th_RN a0 G Γ H1 ∧ (mo_v G H1 a0 2 69 = mo_v G H0 a0 2 69) ∧ (mo_v G H1 a0 2 70 = mo_v G H0 a0 2 70)) G) ([.ref a0, .int p1, .int p2] : List Value).toArray s 0 0 (fun q => G.2.2 ≤ q)) (F0 m 151 ls []) := by
                  intro H151 locs ls hB hR hl g151_0 g151_1 g151_2 g151_3
                  have mm29 := (th_F_o hB.2.2 h0 ro_46 (j := 2) (by decide) (by decide)).trans sb16
                  have fv30_33 : mo_f G H151 a0 33 = mo_f G H0 a0 33 := mo_f_F hB.2.2 h0 (by decide) (by decide)
                  have vw_H151_3 : mo_v G H151 a0 3 = mo_v G H0 a0 3 := mo_v_F (r := 49) hB.1 hB.2.2 h0 rfl ro_49 (by decide) (by decide)
                  have vw_H151_4 : mo_v G H151 a0 4 = mo_v G H0 a0 4 := mo_v_F (r := 50) hB.1 hB.2.2 h0 rfl ro_50 (by decide) (by decide)
                  have vw_H151_31 : mo_v G H151 a0 31 = mo_v G H0 a0 31 := mo_v_F (r := 61) hB.1 hB.2.2 h0 rfl ro_61 (by decide) (by decide)
                  refine lv_iload hx hb dX12_years_151 (lv_at hl 0 rfl) ?_
                  refine lv_iconst (v := 2) hx hb dX12_years_153 (by decide) ?_
                  have jn163 : ∀ (H163 : Heap) (locs : List Loc) (ls : Array Slot) , th_B G Γ Γ [(47, 0), (46, 0), (48, 0), (51, 0), (70, 0), (60, 0), (59, 0), (46, 55), (46, 56), (46, 22), (46, 24), (58, 0), (46, 23), (46, 25)] H0 H163 locs → th_RN a0 G Γ H163 → lv_has ls 8 [(0, .ref a0), (2, .int p2), (3, .int j60_3)] → (∀ z : Int, 29 ≤ z → mo_v G H163 a0 2 z = mo_v G H0 a0 2 z) → (∀ i : Int, 0 ≤ i → i < 29 → mo_v G H163 a0 5 i = mo_v G H0 a0 2 i) → mo_v G H163 a0 2 69 = mo_v G H0 a0 2 69 → mo_v G H163 a0 2 70 = mo_v G H0 a0 2 70 → W p l e ({ frames := 53, cells := 0, slots := 0, locals := 1674 } : Room) s m ([.ref a0, .int p1, .int p2] : List Value).toArray below meth c H163 locs 0 0 (MQ below (th_Q (fun (v : Option Value) (H1 : Heap) => ∃ r : Int32, v = some (.int r) ∧ th_I G Γ H1 ∧ th_F G Γ [(47, 0), (46, 0), (48, 0), (51, 0), (70, 0), (60, 0), (59, 0), (46, 55), (46, 56), (46, 22), (46, 24), (58, 0), (46, 23), (46, 25)] H0 H1 ∧ th_RN a0 G Γ H1 ∧ (mo_v G H1 a0 2 69 = mo_v G H0 a0 2 69) ∧ (mo_v G H1 a0 2 70 = mo_v G H0 a0 2 70)) G) ([.ref a0, .int p1, .int p2] : List Value).toArray s 0 0 (fun q => G.2.2 ≤ q)) (F0 m 163 ls []) := by
                    intro H163 locs ls hB hR hl g163_0 g163_1 g163_2 g163_3
                    have mm31 := (th_F_o hB.2.2 h0 ro_46 (j := 2) (by decide) (by decide)).trans sb16
                    have fv32_33 : mo_f G H163 a0 33 = mo_f G H0 a0 33 := mo_f_F hB.2.2 h0 (by decide) (by decide)
                    have vw_H163_3 : mo_v G H163 a0 3 = mo_v G H0 a0 3 := mo_v_F (r := 49) hB.1 hB.2.2 h0 rfl ro_49 (by decide) (by decide)
                    have vw_H163_4 : mo_v G H163 a0 4 = mo_v G H0 a0 4 := mo_v_F (r := 50) hB.1 hB.2.2 h0 rfl ro_50 (by decide) (by decide)
                    have vw_H163_31 : mo_v G H163 a0 31 = mo_v G H0 a0 31 := mo_v_F (r := 61) hB.1 hB.2.2 h0 rfl ro_61 (by decide) (by decide)
                    refine lv_aload_n hx hb dX12_years_163 rfl (lv_at hl 0 rfl) ?_
                    refine th_call (th_runV (As := []) (rest := []) hC mf_X12_yearPasses km_X12_376 im_X12_yearPasses se_X12_yearPasses (c_X12_yearPasses l G Γ H163 hB.1 a0 h0 (th_NE hR)) rfl rfl ⟨Nat.le_of_ble_eq_true rfl, Nat.le_of_ble_eq_true rfl⟩ hB.1 h0 ro_46 rfl rfl hl.1 rfl (Nat.le_of_ble_eq_true rfl) dX12_years_164 ⟨Nat.le_refl _, Nat.le_refl _⟩) hB.2.1 (fun v164 H164 locs hp hz hS => ?_)
                    have hRD := hR
                    obtain ⟨x33, rfl, lx33, ux33, hI1, hf, hR, z164_0⟩ := hp
                    have hRc164 := hR
                    have hR := hRD
                    have hRC := hRc164.1
                    have hB := th_B_c hB hI1 hS hf (by decide)
                    have mm34 := (th_F_o hf h0 ro_46 (j := 2) (by decide) (by decide)).trans mm31
                    have fv_H164_33 : mo_f G H164 a0 33 = mo_f G H163 a0 33 := mo_f_F hf h0 (by decide) (by decide)
                    have vv_H164_3 : mo_v G H164 a0 3 = mo_v G H163 a0 3 := mo_v_F (r := 49) hB.1 hf h0 rfl ro_49 (by decide) (by decide)
                    have vv_H164_4 : mo_v G H164 a0 4 = mo_v G H163 a0 4 := mo_v_F (r := 50) hB.1 hf h0 rfl ro_50 (by decide) (by decide)
                    have vv_H164_31 : mo_v G H164 a0 31 = mo_v G H163 a0 31 := mo_v_F (r := 61) hB.1 hf h0 rfl ro_61 (by decide) (by decide)
                    have vv_H164_5 : mo_v G H164 a0 5 = mo_v G H163 a0 5 := mo_v_F (r := 51) hB.1 hf h0 rfl ro_51 (by decide) (by decide)
                    have tv_p69_H164 : mo_v G H164 a0 2 69 = mo_v G H0 a0 2 69 := (show mo_v G H164 a0 2 69 = mo_v G H163 a0 2 69 from z164_0.1 69 (by omega)).trans g163_2
                    have tv_p70_H164 : mo_v G H164 a0 2 70 = mo_v G H0 a0 2 70 := (show mo_v G H164 a0 2 70 = mo_v G H163 a0 2 70 from z164_0.1 70 (by omega)).trans g163_3
                    refine W.eq (g2 := F0 m 167 ls [.int x33]) rfl ?_
                    have hR : th_RN a0 G Γ H164 := ⟨hRC, by rw [vv_H164_3, vv_H164_4, vv_H164_31, fv_H164_33]; exact mo_ok_sb hR.2 z164_0⟩
                    refine lv_pop hx hb dX12_years_167 rfl ?_
                    refine tr_iinc (fun x35 => [(3, .int x35), (0, .ref a0), (2, .int p2)]) hx hb dX12_years_168 hl (k := 2) rfl (Eq.refl _) tk_1 (by omega) (by omega) (by decide) (fun _ => rfl) (fun x35 ls ex35 hl => ?_)
                    refine lv_goto (tgt := 60) hx hb dX12_years_171 (by decide) ?_
                    exact ih60 H164 locs ls x35 hB hR (lv_sub hl [1, 2, 0] rfl) (by omega) (by omega) (fun z a9 => by rw [z164_0.1 z a9]; exact g163_0 z a9) (fun i a9 b9 => by rw [vv_H164_5]; exact g163_1 i a9 b9) tv_p69_H164 tv_p70_H164 (by omega)
                  refine tr_icmp_ne (tgt := 163) hx hb dX12_years_154 (by decide) (Eq.refl _) tk_2 (fun c154 => ?_) (fun c154 => ?_)
                  · exact jn163 H151 locs ls hB hR (lv_sub hl [2, 3, 4] rfl) g151_0 g151_1 g151_2 g151_3
                  · refine lv_aload_n hx hb dX12_years_157 rfl (lv_at hl 2 rfl) ?_
                    refine lv_iload hx hb dX12_years_158 (lv_at hl 1 rfl) ?_
                    refine th_call (th_runV (As := [.int x19]) (rest := []) hC mf_X12_rolls km_X12_123 im_X12_rolls se_X12_rolls (c_X12_rolls l G Γ H151 hB.1 a0 h0 (th_NE hR) x19 (by omega) (by omega)) rfl rfl ⟨Nat.le_of_ble_eq_true rfl, Nat.le_of_ble_eq_true rfl⟩ hB.1 h0 ro_46 rfl rfl hl.1 rfl (Nat.le_of_ble_eq_true rfl) dX12_years_160 ⟨Nat.le_refl _, Nat.le_refl _⟩) hB.2.1 (fun v160 H160 locs hp hz hS => ?_)
                    have hRD := hR
                    obtain ⟨rfl, hI1, hf, hR, z160_0⟩ := hp
                    have hRc160 := hR
                    have hR := hRD
                    have hRC := hRc160.1
                    have hB := th_B_c hB hI1 hS hf (by decide)
                    have mm36 := (th_F_o hf h0 ro_46 (j := 2) (by decide) (by decide)).trans mm29
                    have fv_H160_33 : mo_f G H160 a0 33 = mo_f G H151 a0 33 := mo_f_F hf h0 (by decide) (by decide)
                    have vv_H160_3 : mo_v G H160 a0 3 = mo_v G H151 a0 3 := mo_v_F (r := 49) hB.1 hf h0 rfl ro_49 (by decide) (by decide)
                    have vv_H160_4 : mo_v G H160 a0 4 = mo_v G H151 a0 4 := mo_v_F (r := 50) hB.1 hf h0 rfl ro_50 (by decide) (by decide)
                    have vv_H160_31 : mo_v G H160 a0 31 = mo_v G H151 a0 31 := mo_v_F (r := 61) hB.1 hf h0 rfl ro_61 (by decide) (by decide)
                    have vv_H160_5 : mo_v G H160 a0 5 = mo_v G H151 a0 5 := mo_v_F (r := 51) hB.1 hf h0 rfl ro_51 (by decide) (by decide)
                    have tv_p69_H160 : mo_v G H160 a0 2 69 = mo_v G H0 a0 2 69 := (show mo_v G H160 a0 2 69 = mo_v G H151 a0 2 69 from (by rw [z160_0, mo_un (by omega), mo_un (by omega)])).trans g151_2
                    have tv_p70_H160 : mo_v G H160 a0 2 70 = mo_v G H0 a0 2 70 := (show mo_v G H160 a0 2 70 = mo_v G H151 a0 2 70 from (by rw [z160_0, mo_un (by omega), mo_un (by omega)])).trans g151_3
                    refine W.eq (g2 := F0 m 163 ls []) rfl ?_
                    have hR : th_RN a0 G Γ H160 := ⟨hRC, by rw [z160_0, vv_H160_3, vv_H160_4, vv_H160_31, fv_H160_33]; exact mo_ok_sb hR.2 (mo_sb_ro mo_sb_rf (by omega) (by omega))⟩
                    exact jn163 H160 locs ls hB hR (lv_sub hl [2, 3, 4] rfl) (fun z a9 => by rw [z160_0, mo_un (by omega), mo_un (by omega)]; exact g151_0 z a9) (fun i a9 b9 => by rw [vv_H160_5]; exact g151_1 i a9 b9) tv_p69_H160 tv_p70_H160
                refine tr_icmp_ge (tgt := 151) hx hb dX12_years_124 (by decide) (Eq.refl _) tk_2 (fun c124 => ?_) (fun c124 => ?_)
                · exact jn151 H116 locs ls hB hR (lv_sub hl [0, 3, 4, 5, 6] rfl) (fun z a9 => by rw [vv_H116_2, vv_H109_2, vv_H96_2, vv_H83_2]; exact g60_2 z a9) (fun i a9 b9 => by rw [vv_H116_5, vv_H109_5, vv_H96_5, vv_H83_5]; exact g60_3 i a9 b9) tv_p69_H116 tv_p70_H116
                · refine lv_aload_n hx hb dX12_years_127 rfl (lv_at hl 4 rfl) ?_
                  refine lv_iload hx hb dX12_years_128 (lv_at hl 3 rfl) ?_
                  refine lv_iload hx hb dX12_years_130 (lv_at hl 2 rfl) ?_
                  refine lv_iload hx hb dX12_years_132 (lv_at hl 1 rfl) ?_
                  have m134 : x19.toInt < mo_v G H116 a0 2 69 := by rw [vv_H116_2, vv_H109_2, vv_H96_2, vv_H83_2]; exact m83
                  refine th_call (th_runV (As := [.int x19, .int x22, .int x25]) (rest := []) hC mf_X12_canLay km_X12_159 im_X12_canLay se_X12_canLay (c_X12_canLay l G Γ H116 hB.1 a0 h0 (th_NK hR) x19 (by omega) (by omega) x22 (by omega) (by omega) x25 (by omega) (by omega) (by omega)) rfl rfl ⟨Nat.le_of_ble_eq_true rfl, Nat.le_of_ble_eq_true rfl⟩ hB.1 h0 ro_46 rfl rfl hl.1 rfl (Nat.le_of_ble_eq_true rfl) dX12_years_134 ⟨Nat.le_refl _, Nat.le_refl _⟩) hB.2.1 (fun v134 H134 locs hp hz hS => ?_)
                  have hRD := hR
                  obtain ⟨x37, rfl, lx37, ux37, q134_0, hI1, hf, hR⟩ := hp
                  have hR := th_RN_c hR.1 hRD hI1 h0 hf (by decide)
                  have hB := th_B_c hB hI1 hS hf (by decide)
                  have mm38 := (th_F_o hf h0 ro_46 (j := 2) (by decide) (by decide)).trans mm28
                  have fv_H134_33 : mo_f G H134 a0 33 = mo_f G H116 a0 33 := mo_f_F hf h0 (by decide) (by decide)
                  have vv_H134_2 : mo_v G H134 a0 2 = mo_v G H116 a0 2 := mo_v_F (r := 48) hB.1 hf h0 rfl ro_48 (by decide) (by decide)
                  have vv_H134_3 : mo_v G H134 a0 3 = mo_v G H116 a0 3 := mo_v_F (r := 49) hB.1 hf h0 rfl ro_49 (by decide) (by decide)
                  have vv_H134_4 : mo_v G H134 a0 4 = mo_v G H116 a0 4 := mo_v_F (r := 50) hB.1 hf h0 rfl ro_50 (by decide) (by decide)
                  have vv_H134_31 : mo_v G H134 a0 31 = mo_v G H116 a0 31 := mo_v_F (r := 61) hB.1 hf h0 rfl ro_61 (by decide) (by decide)
                  have vv_H134_5 : mo_v G H134 a0 5 = mo_v G H116 a0 5 := mo_v_F (r := 51) hB.1 hf h0 rfl ro_51 (by decide) (by decide)
                  have tv_p69_H134 : mo_v G H134 a0 2 69 = mo_v G H0 a0 2 69 := (congrFun (mo_v_F (j := 2) (r := 48) hB.1 hf h0 rfl ro_48 (by decide) (by decide)) 69).trans tv_p69_H116
                  have tv_p70_H134 : mo_v G H134 a0 2 70 = mo_v G H0 a0 2 70 := (congrFun (mo_v_F (j := 2) (r := 48) hB.1 hf h0 rfl ro_48 (by decide) (by decide)) 70).trans tv_p70_H116
                  refine W.eq (g2 := F0 m 137 ls [.int x37]) rfl ?_
                  refine tr_if_eq (tgt := 151) hx hb dX12_years_137 (by decide) (Eq.refl _) (fun c137 => ?_) (fun c137 => ?_)
                  · exact jn151 H134 locs ls hB hR (lv_sub hl [0, 3, 4, 5, 6] rfl) (fun z a9 => by rw [vv_H134_2, vv_H116_2, vv_H109_2, vv_H96_2, vv_H83_2]; exact g60_2 z a9) (fun i a9 b9 => by rw [vv_H134_5, vv_H116_5, vv_H109_5, vv_H96_5, vv_H83_5]; exact g60_3 i a9 b9) tv_p69_H134 tv_p70_H134
                  · refine lv_aload_n hx hb dX12_years_140 rfl (lv_at hl 4 rfl) ?_
                    refine lv_iload hx hb dX12_years_141 (lv_at hl 3 rfl) ?_
                    refine lv_iload hx hb dX12_years_143 (lv_at hl 2 rfl) ?_
                    refine lv_iload hx hb dX12_years_145 (lv_at hl 1 rfl) ?_
                    refine th_call (th_runV (As := [.int x19, .int x22, .int x25]) (rest := []) hC mf_X12_laysAt km_X12_373 im_X12_laysAt se_X12_laysAt (c_X12_laysAt l G Γ H134 hB.1 a0 h0 (th_NE hR) x19 (by omega) (by omega) x22 x25) rfl rfl ⟨Nat.le_of_ble_eq_true rfl, Nat.le_of_ble_eq_true rfl⟩ hB.1 h0 ro_46 rfl rfl hl.1 rfl (Nat.le_of_ble_eq_true rfl) dX12_years_147 ⟨Nat.le_refl _, Nat.le_refl _⟩) hB.2.1 (fun v147 H147 locs hp hz hS => ?_)
                    have hRD := hR
                    obtain ⟨x39, rfl, lx39, ux39, hI1, hf, hR, z147_0⟩ := hp
                    have hRc147 := hR
                    have hR := hRD
                    have hRC := hRc147.1
                    have hB := th_B_c hB hI1 hS hf (by decide)
                    have mm40 := (th_F_o hf h0 ro_46 (j := 2) (by decide) (by decide)).trans mm38
                    have fv_H147_33 : mo_f G H147 a0 33 = mo_f G H134 a0 33 := mo_f_F hf h0 (by decide) (by decide)
                    have vv_H147_3 : mo_v G H147 a0 3 = mo_v G H134 a0 3 := mo_v_F (r := 49) hB.1 hf h0 rfl ro_49 (by decide) (by decide)
                    have vv_H147_4 : mo_v G H147 a0 4 = mo_v G H134 a0 4 := mo_v_F (r := 50) hB.1 hf h0 rfl ro_50 (by decide) (by decide)
                    have vv_H147_31 : mo_v G H147 a0 31 = mo_v G H134 a0 31 := mo_v_F (r := 61) hB.1 hf h0 rfl ro_61 (by decide) (by decide)
                    have vv_H147_5 : mo_v G H147 a0 5 = mo_v G H134 a0 5 := mo_v_F (r := 51) hB.1 hf h0 rfl ro_51 (by decide) (by decide)
                    have tv_p69_H147 : mo_v G H147 a0 2 69 = mo_v G H0 a0 2 69 := (show mo_v G H147 a0 2 69 = mo_v G H134 a0 2 69 from (by rw [z147_0 69 (by omega), mo_un (by omega), mo_un (by omega)])).trans tv_p69_H134
                    have tv_p70_H147 : mo_v G H147 a0 2 70 = mo_v G H0 a0 2 70 := (show mo_v G H147 a0 2 70 = mo_v G H134 a0 2 70 from (by rw [z147_0 70 (by omega), mo_un (by omega), mo_un (by omega)])).trans tv_p70_H134
                    refine W.eq (g2 := F0 m 150 ls [.int x39]) rfl ?_
                    have fr := q134_0 (by omega)
                    rw [← vv_H134_2] at fr
                    have m147 : x19.toInt < mo_v G H134 a0 2 69 := by rw [vv_H134_2]; exact m134
                    have hR : th_RN a0 G Γ H147 := ⟨hRC, by rw [vv_H147_3, vv_H147_4, vv_H147_31, fv_H147_33]; exact mo_ok_29 hR.2 (fun i hi => by rw [z147_0 i (by omega), mo_un (by omega), mo_un (by omega)]) (mo_geo_lay hR.2.1.2.1 (by omega) m147 (hR.2.1.2.2.2.2 x19.toInt (by omega) m147) fr.1 (by omega) (by omega) fr.2 z147_0)⟩
                    refine lv_pop hx hb dX12_years_150 rfl ?_
                    exact jn151 H147 locs ls hB hR (lv_sub hl [0, 3, 4, 5, 6] rfl) (fun z a9 => by rw [z147_0 z (by omega), mo_un (by omega), mo_un (by omega), vv_H134_2, vv_H116_2, vv_H109_2, vv_H96_2, vv_H83_2]; exact g60_2 z a9) (fun i a9 b9 => by rw [vv_H147_5, vv_H134_5, vv_H116_5, vv_H109_5, vv_H96_5, vv_H83_5]; exact g60_3 i a9 b9) tv_p69_H147 tv_p70_H147
        exact lp60 ((2147483648 : Int) - (0)).toNat H55 locs ls 0 hB hR (lv_sub hl [1, 3, 0] rfl) (by decide) (by decide) (fun z a9 => by rw [vv_H55_2, vv_H50_2, vv_H42_2]) (fun i a9 b9 => by have q9 := z55_0 i a9 b9; rw [vv_H50_2, vv_H42_2] at q9; rw [← q9]; congr 1; have w0 := tk_0; omega) tv_p69_H55 tv_p70_H55 (by have w0 := tk_0; omega)
      · refine lv_aload_n hx hb dX12_years_33 rfl (lv_at hl 0 rfl) ?_
        refine lv_bipush (v := (-3)) hx hb dX12_years_34 (by decide) ?_
        refine th_call (th_runV (As := [.int (-3)]) (rest := []) hC mf_X12_refuses km_X12_109 im_X12_refuses se_X12_refuses (c_X12_refuses l G Γ H0 hB.1 hR.1 a0 h0 (-3) (by decide) (by decide)) rfl rfl ⟨Nat.le_of_ble_eq_true rfl, Nat.le_of_ble_eq_true rfl⟩ hB.1 h0 ro_46 rfl rfl hl.1 rfl (Nat.le_of_ble_eq_true rfl) dX12_years_36 ⟨Nat.le_refl _, Nat.le_refl _⟩) hB.2.1 (fun v36 H36 locs hp hz hS => ?_)
        have hRD := hR
        obtain ⟨x41, rfl, q36_0, hI1, hf, hR⟩ := hp
        have hR := th_RN_c hR hRD hI1 h0 hf (by decide)
        have hB := th_B_c hB hI1 hS hf (by decide)
        have fv_H36_33 : mo_f G H36 a0 33 = mo_f G H0 a0 33 := mo_f_F hf h0 (by decide) (by decide)
        have vv_H36_2 : mo_v G H36 a0 2 = mo_v G H0 a0 2 := mo_v_F (r := 48) hB.1 hf h0 rfl ro_48 (by decide) (by decide)
        have vv_H36_3 : mo_v G H36 a0 3 = mo_v G H0 a0 3 := mo_v_F (r := 49) hB.1 hf h0 rfl ro_49 (by decide) (by decide)
        have vv_H36_4 : mo_v G H36 a0 4 = mo_v G H0 a0 4 := mo_v_F (r := 50) hB.1 hf h0 rfl ro_50 (by decide) (by decide)
        have vv_H36_31 : mo_v G H36 a0 31 = mo_v G H0 a0 31 := mo_v_F (r := 61) hB.1 hf h0 rfl ro_61 (by decide) (by decide)
        have vv_H36_5 : mo_v G H36 a0 5 = mo_v G H0 a0 5 := mo_v_F (r := 51) hB.1 hf h0 rfl ro_51 (by decide) (by decide)
        have tv_p69_H36 : mo_v G H36 a0 2 69 = mo_v G H0 a0 2 69 := congrFun (mo_v_F (j := 2) (r := 48) hB.1 hf h0 rfl ro_48 (by decide) (by decide)) 69
        have tv_p70_H36 : mo_v G H36 a0 2 70 = mo_v G H0 a0 2 70 := congrFun (mo_v_F (j := 2) (r := 48) hB.1 hf h0 rfl ro_48 (by decide) (by decide)) 70
        have w36_0 := tk_m3
        refine W.eq (g2 := F0 m 39 ls [.int x41]) rfl ?_
        exact th_iret hC hH hr hlocks rfl hB.2.1 ⟨_, rfl, hB.1, hB.2.2, hR, tv_p69_H36, tv_p70_H36⟩ dX12_years_39
    · exact jn20 locs ls hB (lv_sub hl [0] rfl)

set_option maxHeartbeats 4000000 in
set_option maxRecDepth 100000 in
theorem c_X12_isAlong_q (l : Launch) (G : th_G) (Γ : th_Ga) (H0 : Heap) (hI : th_I G Γ H0) (p1 : Int32) : Met l yX12_isAlong (.code yX12_isAlong cX12_isAlong 1 (some FieldType.boolean) :: th_tb) ({ frames := 1, cells := 0, slots := 0, locals := 22 } : Room) (th_P [.int p1] G H0) (th_Q (fun (v : Option Value) (H1 : Heap) => ∃ r : Int32, v = some (.int r) ∧ 0 ≤ r.toInt ∧ r.toInt ≤ 1 ∧ (r.toInt = 1 → 0 ≤ p1.toInt ∧ p1.toInt ≤ 11) ∧ (r.toInt = 0 → p1.toInt < 0 ∨ 11 < p1.toInt) ∧ H0 = H1) G) 0 0 (fun q => G.2.2 ≤ q) := by
  refine th_met RX12 (by decide) rfl (Nat.le_of_ble_eq_true rfl) ?_
  intro p e s m below meth c hC hH hr hlocks hnm ls hl
  have hx := hC.1
  have hb := hC.2.1
  have hB : th_B G Γ Γ [] H0 H0 [] := ⟨hI, va_S.rf, th_F_rf⟩
  have hl : lv_has ls 1 [(0, .int p1)] := hl
  have lp1 := ti_lo p1; have up1 := ti_hi p1
  refine lv_iload_n hx hb dX12_isAlong_0 rfl (lv_at hl 0 rfl) ?_
  refine lv_iconst (v := 0) hx hb dX12_isAlong_1 (by decide) ?_
  refine lv_bipush (v := 11) hx hb dX12_isAlong_2 (by decide) ?_
  refine th_call (th_runS (As := [.int p1, .int 0, .int 11]) (rest := []) hC mf_X12_lies km_X12_18 st_X12_lies (c_X12_lies l G Γ H0 hB.1 p1 0 11) rfl rfl ⟨Nat.le_of_ble_eq_true rfl, Nat.le_of_ble_eq_true rfl⟩ rfl hl.1 rfl (Nat.le_of_ble_eq_true rfl) dX12_isAlong_4 ⟨Nat.le_refl _, Nat.le_refl _⟩) hB.2.1 (fun v4 H4 locs hp hz hS => ?_)
  obtain ⟨x1, rfl, lx1, ux1, q4_0, q4_1, rfl⟩ := hp
  have hB := th_B_s hB hS
  have w4_1 := tk_0
  have w4_2 := tk_11
  refine W.eq (g2 := F0 m 7 ls [.int x1]) rfl ?_
  exact th_iret hC hH hr hlocks (th_nb (by omega) (by omega)) hB.2.1 ⟨_, rfl, by omega, by omega, by intros; omega, by intros; omega, rfl⟩ dX12_isAlong_7

set_option maxHeartbeats 4000000 in
set_option maxRecDepth 100000 in
theorem c_X12_isSide_q (l : Launch) (G : th_G) (Γ : th_Ga) (H0 : Heap) (hI : th_I G Γ H0) (p1 : Int32) : Met l yX12_isSide (.code yX12_isSide cX12_isSide 1 (some FieldType.boolean) :: th_tb) ({ frames := 1, cells := 0, slots := 0, locals := 22 } : Room) (th_P [.int p1] G H0) (th_Q (fun (v : Option Value) (H1 : Heap) => ∃ r : Int32, v = some (.int r) ∧ 0 ≤ r.toInt ∧ r.toInt ≤ 1 ∧ (r.toInt = 1 → 1 ≤ p1.toInt ∧ p1.toInt ≤ 12) ∧ (r.toInt = 0 → p1.toInt < 1 ∨ 12 < p1.toInt) ∧ H0 = H1) G) 0 0 (fun q => G.2.2 ≤ q) := by
  refine th_met RX12 (by decide) rfl (Nat.le_of_ble_eq_true rfl) ?_
  intro p e s m below meth c hC hH hr hlocks hnm ls hl
  have hx := hC.1
  have hb := hC.2.1
  have hB : th_B G Γ Γ [] H0 H0 [] := ⟨hI, va_S.rf, th_F_rf⟩
  have hl : lv_has ls 1 [(0, .int p1)] := hl
  have lp1 := ti_lo p1; have up1 := ti_hi p1
  refine lv_iload_n hx hb dX12_isSide_0 rfl (lv_at hl 0 rfl) ?_
  refine lv_iconst (v := 1) hx hb dX12_isSide_1 (by decide) ?_
  refine lv_bipush (v := 12) hx hb dX12_isSide_2 (by decide) ?_
  refine th_call (th_runS (As := [.int p1, .int 1, .int 12]) (rest := []) hC mf_X12_lies km_X12_18 st_X12_lies (c_X12_lies l G Γ H0 hB.1 p1 1 12) rfl rfl ⟨Nat.le_of_ble_eq_true rfl, Nat.le_of_ble_eq_true rfl⟩ rfl hl.1 rfl (Nat.le_of_ble_eq_true rfl) dX12_isSide_4 ⟨Nat.le_refl _, Nat.le_refl _⟩) hB.2.1 (fun v4 H4 locs hp hz hS => ?_)
  obtain ⟨x1, rfl, lx1, ux1, q4_0, q4_1, rfl⟩ := hp
  have hB := th_B_s hB hS
  have w4_1 := tk_1
  have w4_2 := tk_12
  refine W.eq (g2 := F0 m 7 ls [.int x1]) rfl ?_
  exact th_iret hC hH hr hlocks (th_nb (by omega) (by omega)) hB.2.1 ⟨_, rfl, by omega, by omega, by intros; omega, by intros; omega, rfl⟩ dX12_isSide_7

set_option maxHeartbeats 4000000 in
set_option maxRecDepth 100000 in
theorem c_X12_seen_q (l : Launch) (G : th_G) (Γ : th_Ga) (H0 : Heap) (hI : th_I G Γ H0) (a0 : Nat) (h0 : Γ a0 = (46, 0)) (hR : th_RN a0 G Γ H0) (p1 : Int32) (p2 : Int32) (p3 : Int32) : Met l yX12_seen (.code yX12_seen cX12_seen 5 (some FieldType.int) :: th_tb) ({ frames := 2, cells := 0, slots := 0, locals := 42 } : Room) (th_P [.ref a0, .int p1, .int p2, .int p3] G H0) (th_Q (fun (v : Option Value) (H1 : Heap) => ∃ r : Int32, v = some (.int r) ∧ (¬ (0 ≤ p1.toInt ∧ p1.toInt ≤ 11 ∧ 0 ≤ p2.toInt ∧ p2.toInt ≤ 11 ∧ 1 ≤ p3.toInt ∧ p3.toInt ≤ 12) → r.toInt = -1) ∧ ((0 ≤ p1.toInt ∧ p1.toInt ≤ 11 ∧ 0 ≤ p2.toInt ∧ p2.toInt ≤ 11 ∧ 1 ≤ p3.toInt ∧ p3.toInt ≤ 12) → mo_v G H0 a0 2 70 = 6 → r.toInt = -5) ∧ ((0 ≤ p1.toInt ∧ p1.toInt ≤ 11 ∧ 0 ≤ p2.toInt ∧ p2.toInt ≤ 11 ∧ 1 ≤ p3.toInt ∧ p3.toInt ≤ 12) → mo_v G H0 a0 2 70 < 6 → r.toInt = mo_v G H0 a0 2 70 + 1) ∧ th_I G Γ H1 ∧ th_F G Γ [(47, 0), (46, 0), (48, 0)] H0 H1 ∧ th_RN a0 G Γ H1 ∧ (mo_v G H1 a0 2 70 = if (0 ≤ p1.toInt ∧ p1.toInt ≤ 11 ∧ 0 ≤ p2.toInt ∧ p2.toInt ≤ 11 ∧ 1 ≤ p3.toInt ∧ p3.toInt ≤ 12) ∧ mo_v G H0 a0 2 70 < 6 then mo_v G H0 a0 2 70 + 1 else mo_v G H0 a0 2 70)) G) 0 0 (fun q => G.2.2 ≤ q) := by
  refine th_met RX12 (by decide) rfl (Nat.le_of_ble_eq_true rfl) ?_
  intro p e s m below meth c hC hH hr hlocks hnm ls hl
  have hx := hC.1
  have hb := hC.2.1
  have hB : th_B G Γ Γ [(47, 0), (46, 0), (48, 0)] H0 H0 [] := ⟨hI, va_S.rf, th_F_rf⟩
  have hl : lv_has ls 5 [(0, .ref a0), (1, .int p1), (2, .int p2), (3, .int p3)] := hl
  have lp1 := ti_lo p1; have up1 := ti_hi p1
  have lp2 := ti_lo p2; have up2 := ti_hi p2
  have lp3 := ti_lo p3; have up3 := ti_hi p3
  refine lv_iload_n hx hb dX12_seen_0 rfl (lv_at hl 1 rfl) ?_
  refine th_call (th_runS (As := [.int p1]) (rest := []) hC mf_X12_isAlong km_X12_149 st_X12_isAlong (c_X12_isAlong_q l G Γ H0 hB.1 p1) rfl rfl ⟨Nat.le_of_ble_eq_true rfl, Nat.le_of_ble_eq_true rfl⟩ rfl hl.1 rfl (Nat.le_of_ble_eq_true rfl) dX12_seen_1 ⟨Nat.le_refl _, Nat.le_refl _⟩) hB.2.1 (fun v1 H1 locs hp hz hS => ?_)
  obtain ⟨x1, rfl, lx1, ux1, q1_0, q1_1, rfl⟩ := hp
  have hB := th_B_s hB hS
  refine W.eq (g2 := F0 m 4 ls [.int x1]) rfl ?_
  have jn21 : ∀ (locs : List Loc) (ls : Array Slot) , th_B G Γ Γ [(47, 0), (46, 0), (48, 0)] H0 H0 locs → lv_has ls 5 [(0, .ref a0)] → ¬ (0 ≤ p1.toInt ∧ p1.toInt ≤ 11 ∧ 0 ≤ p2.toInt ∧ p2.toInt ≤ 11 ∧ 1 ≤ p3.toInt ∧ p3.toInt ≤ 12) → W p l e ({ frames := 2, cells := 0, slots := 0, locals := 42 } : Room) s m ([.ref a0, .int p1, .int p2, .int p3] : List Value).toArray below meth c H0 locs 0 0 (MQ below (th_Q (fun (v : Option Value) (H1 : Heap) => ∃ r : Int32, v = some (.int r) ∧ (¬ (0 ≤ p1.toInt ∧ p1.toInt ≤ 11 ∧ 0 ≤ p2.toInt ∧ p2.toInt ≤ 11 ∧ 1 ≤ p3.toInt ∧ p3.toInt ≤ 12) → r.toInt = -1) ∧ ((0 ≤ p1.toInt ∧ p1.toInt ≤ 11 ∧ 0 ≤ p2.toInt ∧ p2.toInt ≤ 11 ∧ 1 ≤ p3.toInt ∧ p3.toInt ≤ 12) → mo_v G H0 a0 2 70 = 6 → r.toInt = -5) ∧ ((0 ≤ p1.toInt ∧ p1.toInt ≤ 11 ∧ 0 ≤ p2.toInt ∧ p2.toInt ≤ 11 ∧ 1 ≤ p3.toInt ∧ p3.toInt ≤ 12) → mo_v G H0 a0 2 70 < 6 → r.toInt = mo_v G H0 a0 2 70 + 1) ∧ th_I G Γ H1 ∧ th_F G Γ [(47, 0), (46, 0), (48, 0)] H0 H1 ∧ th_RN a0 G Γ H1 ∧ (mo_v G H1 a0 2 70 = if (0 ≤ p1.toInt ∧ p1.toInt ≤ 11 ∧ 0 ≤ p2.toInt ∧ p2.toInt ≤ 11 ∧ 1 ≤ p3.toInt ∧ p3.toInt ≤ 12) ∧ mo_v G H0 a0 2 70 < 6 then mo_v G H0 a0 2 70 + 1 else mo_v G H0 a0 2 70)) G) ([.ref a0, .int p1, .int p2, .int p3] : List Value).toArray s 0 0 (fun q => G.2.2 ≤ q)) (F0 m 21 ls []) := by
    intro locs ls hB hl g21_0
    refine lv_aload_n hx hb dX12_seen_21 rfl (lv_at hl 0 rfl) ?_
    refine lv_iconst (v := (-1)) hx hb dX12_seen_22 (by decide) ?_
    refine th_call (th_runV (As := [.int (-1)]) (rest := []) hC mf_X12_refuses km_X12_109 im_X12_refuses se_X12_refuses (c_X12_refuses l G Γ H0 hB.1 hR.1 a0 h0 (-1) (by decide) (by decide)) rfl rfl ⟨Nat.le_of_ble_eq_true rfl, Nat.le_of_ble_eq_true rfl⟩ hB.1 h0 ro_46 rfl rfl hl.1 rfl (Nat.le_of_ble_eq_true rfl) dX12_seen_23 ⟨Nat.le_refl _, Nat.le_refl _⟩) hB.2.1 (fun v23 H23 locs hp hz hS => ?_)
    have hRD := hR
    obtain ⟨x2, rfl, q23_0, hI1, hf, hR⟩ := hp
    have hR := th_RN_c hR hRD hI1 h0 hf (by decide)
    have hB := th_B_c hB hI1 hS hf (by decide)
    have fv_H23_33 : mo_f G H23 a0 33 = mo_f G H0 a0 33 := mo_f_F hf h0 (by decide) (by decide)
    have vv_H23_2 : mo_v G H23 a0 2 = mo_v G H0 a0 2 := mo_v_F (r := 48) hB.1 hf h0 rfl ro_48 (by decide) (by decide)
    have vv_H23_3 : mo_v G H23 a0 3 = mo_v G H0 a0 3 := mo_v_F (r := 49) hB.1 hf h0 rfl ro_49 (by decide) (by decide)
    have vv_H23_4 : mo_v G H23 a0 4 = mo_v G H0 a0 4 := mo_v_F (r := 50) hB.1 hf h0 rfl ro_50 (by decide) (by decide)
    have vv_H23_31 : mo_v G H23 a0 31 = mo_v G H0 a0 31 := mo_v_F (r := 61) hB.1 hf h0 rfl ro_61 (by decide) (by decide)
    have w23_0 := tk_m1
    refine W.eq (g2 := F0 m 26 ls [.int x2]) rfl ?_
    exact th_iret hC hH hr hlocks rfl hB.2.1 ⟨_, rfl, by intros; omega, by intros; omega, by intros; omega, hB.1, hB.2.2, hR, (by rw [vv_H23_2, if_neg (by omega)])⟩ dX12_seen_26
  refine tr_if_eq (tgt := 21) hx hb dX12_seen_4 (by decide) (Eq.refl _) (fun c4 => ?_) (fun c4 => ?_)
  · exact jn21 locs ls hB (lv_sub hl [0] rfl) (by omega)
  · refine lv_iload_n hx hb dX12_seen_7 rfl (lv_at hl 2 rfl) ?_
    refine th_call (th_runS (As := [.int p2]) (rest := []) hC mf_X12_isAlong km_X12_149 st_X12_isAlong (c_X12_isAlong_q l G Γ H0 hB.1 p2) rfl rfl ⟨Nat.le_of_ble_eq_true rfl, Nat.le_of_ble_eq_true rfl⟩ rfl hl.1 rfl (Nat.le_of_ble_eq_true rfl) dX12_seen_8 ⟨Nat.le_refl _, Nat.le_refl _⟩) hB.2.1 (fun v8 H8 locs hp hz hS => ?_)
    obtain ⟨x3, rfl, lx3, ux3, q8_0, q8_1, rfl⟩ := hp
    have hB := th_B_s hB hS
    refine W.eq (g2 := F0 m 11 ls [.int x3]) rfl ?_
    refine tr_if_eq (tgt := 21) hx hb dX12_seen_11 (by decide) (Eq.refl _) (fun c11 => ?_) (fun c11 => ?_)
    · exact jn21 locs ls hB (lv_sub hl [0] rfl) (by omega)
    · refine lv_iload_n hx hb dX12_seen_14 rfl (lv_at hl 3 rfl) ?_
      refine th_call (th_runS (As := [.int p3]) (rest := []) hC mf_X12_isSide km_X12_119 st_X12_isSide (c_X12_isSide_q l G Γ H0 hB.1 p3) rfl rfl ⟨Nat.le_of_ble_eq_true rfl, Nat.le_of_ble_eq_true rfl⟩ rfl hl.1 rfl (Nat.le_of_ble_eq_true rfl) dX12_seen_15 ⟨Nat.le_refl _, Nat.le_refl _⟩) hB.2.1 (fun v15 H15 locs hp hz hS => ?_)
      obtain ⟨x4, rfl, lx4, ux4, q15_0, q15_1, rfl⟩ := hp
      have hB := th_B_s hB hS
      refine W.eq (g2 := F0 m 18 ls [.int x4]) rfl ?_
      refine tr_if_ne (tgt := 27) hx hb dX12_seen_18 (by decide) (Eq.refl _) (fun c18 => ?_) (fun c18 => ?_)
      · refine lv_bipush (v := 47) hx hb dX12_seen_27 (by decide) ?_
        refine lv_iconst (v := 3) hx hb dX12_seen_29 (by decide) ?_
        refine lv_aload_n hx hb dX12_seen_30 rfl (lv_at hl 0 rfl) ?_
        refine th_getO (j := 2) (r2 := 48) hC cf_X12 hB.1 h0 ro_46 rfl rfl kf_X12_28 dX12_seen_31 (fun b5 mb5 hb5 => ?_)
        refine lv_bipush (v := 70) hx hb dX12_seen_34 (by decide) ?_
        refine th_ialdF hC hB.1 hb5 ro_48 rfl tk_70 (by omega) (by omega) (ek_seen (by omega) (by omega)) dX12_seen_36 (fun x6 mx6 lx6 ux6 => ?_)
        have vgx6 : mo_v G H0 a0 2 70 = x6.toInt := by rw [show (70 : Int) = 70 by omega]; exact mo_vat mb5 mx6 (by omega)
        refine tr_imul hx hb dX12_seen_37 tk_3 (Eq.refl _) (by omega) (by omega) (fun x7 ex7 => ?_)
        refine tr_iadd hx hb dX12_seen_38 tk_47 (Eq.refl _) (by omega) (by omega) (fun x8 ex8 => ?_)
        refine lv_istore (lv' := [(4, .int x8), (0, .ref a0), (1, .int p1), (2, .int p2), (3, .int p3)]) hx hb dX12_seen_39 hl (by decide) rfl (fun ls hl => ?_)
        refine lv_aload_n hx hb dX12_seen_41 rfl (lv_at hl 1 rfl) ?_
        refine th_getK hC cf_X12 hB.1 h0 ro_46 rfl (j := 2) (by decide) mb5 kf_X12_28 dX12_seen_42 ?_
        refine lv_bipush (v := 70) hx hb dX12_seen_45 (by decide) ?_
        refine th_ialdF hC hB.1 hb5 ro_48 rfl tk_70 (by omega) (by omega) (ek_seen (by omega) (by omega)) dX12_seen_47 (fun x9 mx9 lx9 ux9 => ?_)
        have vgx9 : mo_v G H0 a0 2 70 = x9.toInt := by rw [show (70 : Int) = 70 by omega]; exact mo_vat mb5 mx9 (by omega)
        have qx9 : x9.toInt = x6.toInt := by rw [show x9 = x6 from Value.int.inj (mx9.symm.trans mx6)]
        refine lv_bipush (v := 6) hx hb dX12_seen_48 (by decide) ?_
        refine tr_icmp_ne (tgt := 60) hx hb dX12_seen_50 (by decide) (Eq.refl _) tk_6 (fun c50 => ?_) (fun c50 => ?_)
        · refine lv_aload_n hx hb dX12_seen_60 rfl (lv_at hl 1 rfl) ?_
          refine th_getK hC cf_X12 hB.1 h0 ro_46 rfl (j := 2) (by decide) mb5 kf_X12_28 dX12_seen_61 ?_
          refine lv_iload hx hb dX12_seen_64 (lv_at hl 0 rfl) ?_
          refine lv_iload_n hx hb dX12_seen_66 rfl (lv_at hl 2 rfl) ?_
          refine th_iastF hC hB hb5 (Or.inl hb5) ro_48 rfl (by decide) (Eq.refl _) (by omega) (by omega) (by rw [(ek_b (by omega) (by omega))]; exact th_sIa) dX12_seen_67 (fun H67 locs hB hf67 hst67 => ?_)
          have hf := hf67
          have mm10 := (th_F_o hf h0 ro_46 (j := 2) (by decide) (by decide)).trans mb5
          have hRC := th_RC_F hB.1 hR.1 hf (th_T_s hb5 ro_48 hst67) (by decide)
          have fv_H67_33 : mo_f G H67 a0 33 = mo_f G H0 a0 33 := mo_f_F hf h0 (by decide) (by decide)
          have vv_H67_3 : mo_v G H67 a0 3 = mo_v G H0 a0 3 := mo_v_F (r := 49) hB.1 hf h0 rfl ro_49 (by decide) (by decide)
          have vv_H67_4 : mo_v G H67 a0 4 = mo_v G H0 a0 4 := mo_v_F (r := 50) hB.1 hf h0 rfl ro_50 (by decide) (by decide)
          have vv_H67_31 : mo_v G H67 a0 31 = mo_v G H0 a0 31 := mo_v_F (r := 61) hB.1 hf h0 rfl ro_61 (by decide) (by decide)
          have vs67 : mo_v G H67 a0 2 = mo_u (mo_v G H0 a0 2) (47 + (3 * x6.toInt)) p1.toInt := by rw [show ((47 + (3 * x6.toInt)) : Int) = x8.toInt by omega]; exact mo_v_st h0 hb5 (by decide) mb5 hst67 (by omega)
          refine lv_aload_n hx hb dX12_seen_68 rfl (lv_at hl 1 rfl) ?_
          refine th_getK hC cf_X12 hB.1 h0 ro_46 rfl (j := 2) (by decide) mm10 kf_X12_28 dX12_seen_69 ?_
          refine lv_iload hx hb dX12_seen_72 (lv_at hl 0 rfl) ?_
          refine lv_iconst (v := 1) hx hb dX12_seen_74 (by decide) ?_
          refine tr_iadd hx hb dX12_seen_75 (Eq.refl _) tk_1 (by omega) (by omega) (fun x11 ex11 => ?_)
          refine lv_iload_n hx hb dX12_seen_76 rfl (lv_at hl 3 rfl) ?_
          refine th_iastF hC hB hb5 (Or.inl hb5) ro_48 rfl (by decide) (Eq.refl _) (by omega) (by omega) (by rw [(ek_b (by omega) (by omega))]; exact th_sIa) dX12_seen_77 (fun H77 locs hB hf77 hst77 => ?_)
          have hf := hf77
          have mm12 := (th_F_o hf h0 ro_46 (j := 2) (by decide) (by decide)).trans mm10
          have hRC := th_RC_F hB.1 hRC hf (th_T_s hb5 ro_48 hst77) (by decide)
          have fv_H77_33 : mo_f G H77 a0 33 = mo_f G H67 a0 33 := mo_f_F hf h0 (by decide) (by decide)
          have vv_H77_3 : mo_v G H77 a0 3 = mo_v G H67 a0 3 := mo_v_F (r := 49) hB.1 hf h0 rfl ro_49 (by decide) (by decide)
          have vv_H77_4 : mo_v G H77 a0 4 = mo_v G H67 a0 4 := mo_v_F (r := 50) hB.1 hf h0 rfl ro_50 (by decide) (by decide)
          have vv_H77_31 : mo_v G H77 a0 31 = mo_v G H67 a0 31 := mo_v_F (r := 61) hB.1 hf h0 rfl ro_61 (by decide) (by decide)
          have vs77 : mo_v G H77 a0 2 = mo_u (mo_v G H67 a0 2) ((47 + (3 * x6.toInt)) + 1) p2.toInt := by rw [show (((47 + (3 * x6.toInt)) + 1) : Int) = x11.toInt by omega]; exact mo_v_st h0 hb5 (by decide) mm10 hst77 (by omega)
          refine lv_aload_n hx hb dX12_seen_78 rfl (lv_at hl 1 rfl) ?_
          refine th_getK hC cf_X12 hB.1 h0 ro_46 rfl (j := 2) (by decide) mm12 kf_X12_28 dX12_seen_79 ?_
          refine lv_iload hx hb dX12_seen_82 (lv_at hl 0 rfl) ?_
          refine lv_iconst (v := 2) hx hb dX12_seen_84 (by decide) ?_
          refine tr_iadd hx hb dX12_seen_85 (Eq.refl _) tk_2 (by omega) (by omega) (fun x13 ex13 => ?_)
          refine lv_iload_n hx hb dX12_seen_86 rfl (lv_at hl 4 rfl) ?_
          refine th_iastF hC hB hb5 (Or.inl hb5) ro_48 rfl (by decide) (Eq.refl _) (by omega) (by omega) (by rw [(ek_b (by omega) (by omega))]; exact th_sIa) dX12_seen_87 (fun H87 locs hB hf87 hst87 => ?_)
          have hf := hf87
          have mm14 := (th_F_o hf h0 ro_46 (j := 2) (by decide) (by decide)).trans mm12
          have hRC := th_RC_F hB.1 hRC hf (th_T_s hb5 ro_48 hst87) (by decide)
          have fv_H87_33 : mo_f G H87 a0 33 = mo_f G H77 a0 33 := mo_f_F hf h0 (by decide) (by decide)
          have vv_H87_3 : mo_v G H87 a0 3 = mo_v G H77 a0 3 := mo_v_F (r := 49) hB.1 hf h0 rfl ro_49 (by decide) (by decide)
          have vv_H87_4 : mo_v G H87 a0 4 = mo_v G H77 a0 4 := mo_v_F (r := 50) hB.1 hf h0 rfl ro_50 (by decide) (by decide)
          have vv_H87_31 : mo_v G H87 a0 31 = mo_v G H77 a0 31 := mo_v_F (r := 61) hB.1 hf h0 rfl ro_61 (by decide) (by decide)
          have vs87 : mo_v G H87 a0 2 = mo_u (mo_v G H77 a0 2) ((47 + (3 * x6.toInt)) + 2) p3.toInt := by rw [show (((47 + (3 * x6.toInt)) + 2) : Int) = x13.toInt by omega]; exact mo_v_st h0 hb5 (by decide) mm12 hst87 (by omega)
          refine lv_aload_n hx hb dX12_seen_88 rfl (lv_at hl 1 rfl) ?_
          refine th_getK hC cf_X12 hB.1 h0 ro_46 rfl (j := 2) (by decide) mm14 kf_X12_28 dX12_seen_89 ?_
          refine lv_bipush (v := 70) hx hb dX12_seen_92 (by decide) ?_
          refine lv_dup2_11 hx hb dX12_seen_94 rfl rfl ?_
          refine th_ialdF hC hB.1 hb5 ro_48 rfl tk_70 (by omega) (by omega) (ek_seen (by omega) (by omega)) dX12_seen_95 (fun x15 mx15 lx15 ux15 => ?_)
          have vgx15 : mo_v G H87 a0 2 70 = x15.toInt := by rw [show (70 : Int) = 70 by omega]; exact mo_vat mm14 mx15 (by omega)
          have e95 : x15.toInt ≤ 5 := by have q9 := vgx15; rw [vs87, mo_un (by omega), vs77, mo_un (by omega), vs67, mo_un (by omega)] at q9; omega
          refine lv_iconst (v := 1) hx hb dX12_seen_96 (by decide) ?_
          refine tr_iadd hx hb dX12_seen_97 (Eq.refl _) tk_1 (by omega) (by omega) (fun x16 ex16 => ?_)
          refine th_iastF hC hB hb5 (Or.inl hb5) ro_48 rfl (by decide) tk_70 (by omega) (by omega) (by rw [(ek_seen (by omega) (by omega))]; exact (th_sI (by omega) (by omega))) dX12_seen_98 (fun H98 locs hB hf98 hst98 => ?_)
          have hf := hf98
          have mm17 := (th_F_o hf h0 ro_46 (j := 2) (by decide) (by decide)).trans mm14
          have hRC := th_RC_F hB.1 hRC hf (th_T_s hb5 ro_48 hst98) (by decide)
          have fv_H98_33 : mo_f G H98 a0 33 = mo_f G H87 a0 33 := mo_f_F hf h0 (by decide) (by decide)
          have vv_H98_3 : mo_v G H98 a0 3 = mo_v G H87 a0 3 := mo_v_F (r := 49) hB.1 hf h0 rfl ro_49 (by decide) (by decide)
          have vv_H98_4 : mo_v G H98 a0 4 = mo_v G H87 a0 4 := mo_v_F (r := 50) hB.1 hf h0 rfl ro_50 (by decide) (by decide)
          have vv_H98_31 : mo_v G H98 a0 31 = mo_v G H87 a0 31 := mo_v_F (r := 61) hB.1 hf h0 rfl ro_61 (by decide) (by decide)
          have vs98 : mo_v G H98 a0 2 = mo_u (mo_v G H87 a0 2) 70 x16.toInt := by rw [show (70 : Int) = 70 by omega]; exact mo_v_st h0 hb5 (by decide) mm14 hst98 (by omega)
          have hR : th_RN a0 G Γ H98 := ⟨hRC, by rw [vs98, vs87, vs77, vs67, vv_H98_3, vv_H87_3, vv_H77_3, vv_H67_3, vv_H98_4, vv_H87_4, vv_H77_4, vv_H67_4, vv_H98_31, vv_H87_31, vv_H77_31, vv_H67_31, fv_H98_33, fv_H87_33, fv_H77_33, fv_H67_33]; exact (mo_ok_u (mo_ok_u (mo_ok_u (mo_ok_u hR.2 (by omega)) (by omega)) (by omega)) (by omega))⟩
          refine lv_aload_n hx hb dX12_seen_99 rfl (lv_at hl 1 rfl) ?_
          refine lv_aload_n hx hb dX12_seen_100 rfl (lv_at hl 1 rfl) ?_
          refine th_getK hC cf_X12 hB.1 h0 ro_46 rfl (j := 2) (by decide) mm17 kf_X12_28 dX12_seen_101 ?_
          refine lv_bipush (v := 70) hx hb dX12_seen_104 (by decide) ?_
          refine th_ialdF hC hB.1 hb5 ro_48 rfl tk_70 (by omega) (by omega) (ek_seen (by omega) (by omega)) dX12_seen_106 (fun x18 mx18 lx18 ux18 => ?_)
          have vgx18 : mo_v G H98 a0 2 70 = x18.toInt := by rw [show (70 : Int) = 70 by omega]; exact mo_vat mm17 mx18 (by omega)
          have r95 : x15.toInt = mo_v G H0 a0 2 70 := by have q8 := vgx15; rw [vs87, mo_un (by omega), vs77, mo_un (by omega), vs67, mo_un (by omega)] at q8; omega
          have r70 : x18.toInt = mo_v G H0 a0 2 70 + 1 := by have q9 := vgx18; rw [vs98, mo_us rfl] at q9; omega
          refine th_call (th_runV (As := [.int x18]) (rest := []) hC mf_X12_good km_X12_14 im_X12_good se_X12_good (c_X12_good l G Γ H98 hB.1 hR.1 a0 h0 x18) rfl rfl ⟨Nat.le_of_ble_eq_true rfl, Nat.le_of_ble_eq_true rfl⟩ hB.1 h0 ro_46 rfl rfl hl.1 rfl (Nat.le_of_ble_eq_true rfl) dX12_seen_107 ⟨Nat.le_refl _, Nat.le_refl _⟩) hB.2.1 (fun v107 H107 locs hp hz hS => ?_)
          have hRD := hR
          obtain ⟨x19, rfl, q107_0, hI1, hf, hR⟩ := hp
          have hR := th_RN_c hR hRD hI1 h0 hf (by decide)
          have hB := th_B_c hB hI1 hS hf (by decide)
          have mm20 := (th_F_o hf h0 ro_46 (j := 2) (by decide) (by decide)).trans mm17
          have fv_H107_33 : mo_f G H107 a0 33 = mo_f G H98 a0 33 := mo_f_F hf h0 (by decide) (by decide)
          have vv_H107_2 : mo_v G H107 a0 2 = mo_v G H98 a0 2 := mo_v_F (r := 48) hB.1 hf h0 rfl ro_48 (by decide) (by decide)
          have vv_H107_3 : mo_v G H107 a0 3 = mo_v G H98 a0 3 := mo_v_F (r := 49) hB.1 hf h0 rfl ro_49 (by decide) (by decide)
          have vv_H107_4 : mo_v G H107 a0 4 = mo_v G H98 a0 4 := mo_v_F (r := 50) hB.1 hf h0 rfl ro_50 (by decide) (by decide)
          have vv_H107_31 : mo_v G H107 a0 31 = mo_v G H98 a0 31 := mo_v_F (r := 61) hB.1 hf h0 rfl ro_61 (by decide) (by decide)
          refine W.eq (g2 := F0 m 110 ls [.int x19]) rfl ?_
          exact th_iret hC hH hr hlocks rfl hB.2.1 ⟨_, rfl, by intros; omega, by intros; omega, by intros; omega, hB.1, hB.2.2, hR, (by rw [vv_H107_2, vs98, mo_us rfl, if_pos (by omega)]; omega)⟩ dX12_seen_110
        · refine lv_aload_n hx hb dX12_seen_53 rfl (lv_at hl 1 rfl) ?_
          refine lv_bipush (v := (-5)) hx hb dX12_seen_54 (by decide) ?_
          refine th_call (th_runV (As := [.int (-5)]) (rest := []) hC mf_X12_refuses km_X12_109 im_X12_refuses se_X12_refuses (c_X12_refuses l G Γ H0 hB.1 hR.1 a0 h0 (-5) (by decide) (by decide)) rfl rfl ⟨Nat.le_of_ble_eq_true rfl, Nat.le_of_ble_eq_true rfl⟩ hB.1 h0 ro_46 rfl rfl hl.1 rfl (Nat.le_of_ble_eq_true rfl) dX12_seen_56 ⟨Nat.le_refl _, Nat.le_refl _⟩) hB.2.1 (fun v56 H56 locs hp hz hS => ?_)
          have hRD := hR
          obtain ⟨x21, rfl, q56_0, hI1, hf, hR⟩ := hp
          have hR := th_RN_c hR hRD hI1 h0 hf (by decide)
          have hB := th_B_c hB hI1 hS hf (by decide)
          have mm22 := (th_F_o hf h0 ro_46 (j := 2) (by decide) (by decide)).trans mb5
          have fv_H56_33 : mo_f G H56 a0 33 = mo_f G H0 a0 33 := mo_f_F hf h0 (by decide) (by decide)
          have vv_H56_2 : mo_v G H56 a0 2 = mo_v G H0 a0 2 := mo_v_F (r := 48) hB.1 hf h0 rfl ro_48 (by decide) (by decide)
          have vv_H56_3 : mo_v G H56 a0 3 = mo_v G H0 a0 3 := mo_v_F (r := 49) hB.1 hf h0 rfl ro_49 (by decide) (by decide)
          have vv_H56_4 : mo_v G H56 a0 4 = mo_v G H0 a0 4 := mo_v_F (r := 50) hB.1 hf h0 rfl ro_50 (by decide) (by decide)
          have vv_H56_31 : mo_v G H56 a0 31 = mo_v G H0 a0 31 := mo_v_F (r := 61) hB.1 hf h0 rfl ro_61 (by decide) (by decide)
          have w56_0 := tk_m5
          refine W.eq (g2 := F0 m 59 ls [.int x21]) rfl ?_
          exact th_iret hC hH hr hlocks rfl hB.2.1 ⟨_, rfl, by intros; omega, by intros; omega, by intros; omega, hB.1, hB.2.2, hR, (by rw [vv_H56_2, if_neg (by omega)])⟩ dX12_seen_59
      · exact jn21 locs ls hB (lv_sub hl [0] rfl) (by omega)

set_option maxHeartbeats 4000000 in
set_option maxRecDepth 100000 in
theorem c_X12_forget_q (l : Launch) (G : th_G) (Γ : th_Ga) (H0 : Heap) (hI : th_I G Γ H0) (a0 : Nat) (h0 : Γ a0 = (46, 0)) (hR : th_RN a0 G Γ H0) : Met l yX12_forget (.code yX12_forget cX12_forget 2 (some FieldType.int) :: th_tb) ({ frames := 0, cells := 0, slots := 0, locals := 0 } : Room) (th_P [.ref a0] G H0) (th_Q (fun (v : Option Value) (H1 : Heap) => ∃ r : Int32, v = some (.int r) ∧ (r.toInt = mo_v G H0 a0 2 70) ∧ th_I G Γ H1 ∧ th_F G Γ [(48, 0)] H0 H1 ∧ th_RN a0 G Γ H1 ∧ (mo_v G H1 a0 2 70 = 0)) G) 0 0 (fun q => G.2.2 ≤ q) := by
  refine th_met RX12 (by decide) rfl (Nat.le_of_ble_eq_true rfl) ?_
  intro p e s m below meth c hC hH hr hlocks hnm ls hl
  have hx := hC.1
  have hb := hC.2.1
  have hB : th_B G Γ Γ [(48, 0)] H0 H0 [] := ⟨hI, va_S.rf, th_F_rf⟩
  have hl : lv_has ls 2 [(0, .ref a0)] := hl
  refine lv_aload_n hx hb dX12_forget_0 rfl (lv_at hl 0 rfl) ?_
  refine th_getO (j := 2) (r2 := 48) hC cf_X12 hB.1 h0 ro_46 rfl rfl kf_X12_28 dX12_forget_1 (fun b1 mb1 hb1 => ?_)
  refine lv_bipush (v := 70) hx hb dX12_forget_4 (by decide) ?_
  refine th_ialdF hC hB.1 hb1 ro_48 rfl tk_70 (by omega) (by omega) (ek_seen (by omega) (by omega)) dX12_forget_6 (fun x2 mx2 lx2 ux2 => ?_)
  have vgx2 : mo_v G H0 a0 2 70 = x2.toInt := by rw [show (70 : Int) = 70 by omega]; exact mo_vat mb1 mx2 (by omega)
  refine lv_istore_n (lv' := [(1, .int x2), (0, .ref a0)]) hx hb dX12_forget_7 rfl hl (by decide) rfl (fun ls hl => ?_)
  refine lv_aload_n hx hb dX12_forget_8 rfl (lv_at hl 1 rfl) ?_
  refine th_getK hC cf_X12 hB.1 h0 ro_46 rfl (j := 2) (by decide) mb1 kf_X12_28 dX12_forget_9 ?_
  refine lv_bipush (v := 70) hx hb dX12_forget_12 (by decide) ?_
  refine lv_iconst (v := 0) hx hb dX12_forget_14 (by decide) ?_
  refine th_iastF hC hB hb1 (Or.inl hb1) ro_48 rfl (by decide) tk_70 (by omega) (by omega) (by rw [(ek_seen (by omega) (by omega))]; exact (th_sI (by decide) (by decide))) dX12_forget_15 (fun H15 locs hB hf15 hst15 => ?_)
  have hf := hf15
  have mm3 := (th_F_o hf h0 ro_46 (j := 2) (by decide) (by decide)).trans mb1
  have hRC := th_RC_F hB.1 hR.1 hf (th_T_s hb1 ro_48 hst15) (by decide)
  have fv_H15_33 : mo_f G H15 a0 33 = mo_f G H0 a0 33 := mo_f_F hf h0 (by decide) (by decide)
  have vv_H15_3 : mo_v G H15 a0 3 = mo_v G H0 a0 3 := mo_v_F (r := 49) hB.1 hf h0 rfl ro_49 (by decide) (by decide)
  have vv_H15_4 : mo_v G H15 a0 4 = mo_v G H0 a0 4 := mo_v_F (r := 50) hB.1 hf h0 rfl ro_50 (by decide) (by decide)
  have vv_H15_31 : mo_v G H15 a0 31 = mo_v G H0 a0 31 := mo_v_F (r := 61) hB.1 hf h0 rfl ro_61 (by decide) (by decide)
  have vs15 : mo_v G H15 a0 2 = mo_u (mo_v G H0 a0 2) 70 0 := by rw [show (70 : Int) = 70 by omega]; exact mo_v_st h0 hb1 (by decide) mb1 hst15 (by omega)
  have hR : th_RN a0 G Γ H15 := ⟨hRC, by rw [vs15, vv_H15_3, vv_H15_4, vv_H15_31, fv_H15_33]; exact mo_ok_u hR.2 (by omega)⟩
  refine lv_iload_n hx hb dX12_forget_16 rfl (lv_at hl 0 rfl) ?_
  exact th_iret hC hH hr hlocks rfl hB.2.1 ⟨_, rfl, by intros; omega, hB.1, hB.2.2, hR, (by rw [vs15, mo_us rfl])⟩ dX12_forget_17

set_option maxHeartbeats 4000000 in
set_option maxRecDepth 100000 in
theorem c_X12_image_q (l : Launch) (G : th_G) (Γ : th_Ga) (H0 : Heap) (hI : th_I G Γ H0) (a0 : Nat) (h0 : Γ a0 = (46, 0)) (hR : th_RN a0 G Γ H0) (p1 : Int32) : Met l yX12_image (.code yX12_image cX12_image 3 (some FieldType.int) :: th_tb) ({ frames := 1, cells := 0, slots := 0, locals := 22 } : Room) (th_P [.ref a0, .int p1] G H0) (th_Q (fun (v : Option Value) (H1 : Heap) => ∃ r : Int32, v = some (.int r) ∧ (p1.toInt < 0 ∨ 1 < p1.toInt → r.toInt = -1) ∧ (0 ≤ p1.toInt ∧ p1.toInt ≤ 1 → r.toInt = 0) ∧ th_I G Γ H1 ∧ th_F G Γ [(47, 0), (46, 0), (49, 0), (50, 0)] H0 H1 ∧ th_RN a0 G Γ H1 ∧ (∀ z : Int, mo_v G H1 a0 3 z = if 0 ≤ p1.toInt ∧ p1.toInt ≤ 1 then (if 5680 * p1.toInt ≤ z ∧ z < 5680 * p1.toInt + 5680 then mo_v G H0 a0 2 (z - 5680 * p1.toInt) else mo_v G H0 a0 3 z) else mo_v G H0 a0 3 z) ∧ (mo_v G H1 a0 4 = if 0 ≤ p1.toInt ∧ p1.toInt ≤ 1 then mo_u (mo_v G H0 a0 4) p1.toInt 1 else mo_v G H0 a0 4)) G) 0 0 (fun q => G.2.2 ≤ q) := by
  refine th_met RX12 (by decide) rfl (Nat.le_of_ble_eq_true rfl) ?_
  intro p e s m below meth c hC hH hr hlocks hnm ls hl
  have hx := hC.1
  have hb := hC.2.1
  have hB : th_B G Γ Γ [(47, 0), (46, 0), (49, 0), (50, 0)] H0 H0 [] := ⟨hI, va_S.rf, th_F_rf⟩
  have hl : lv_has ls 3 [(0, .ref a0), (1, .int p1)] := hl
  have lp1 := ti_lo p1; have up1 := ti_hi p1
  refine lv_iload_n hx hb dX12_image_0 rfl (lv_at hl 1 rfl) ?_
  refine lv_iconst (v := 0) hx hb dX12_image_1 (by decide) ?_
  refine lv_iconst (v := 1) hx hb dX12_image_2 (by decide) ?_
  refine th_call (th_runS (As := [.int p1, .int 0, .int 1]) (rest := []) hC mf_X12_lies km_X12_18 st_X12_lies (c_X12_lies l G Γ H0 hB.1 p1 0 1) rfl rfl ⟨Nat.le_of_ble_eq_true rfl, Nat.le_of_ble_eq_true rfl⟩ rfl hl.1 rfl (Nat.le_of_ble_eq_true rfl) dX12_image_3 ⟨Nat.le_refl _, Nat.le_refl _⟩) hB.2.1 (fun v3 H3 locs hp hz hS => ?_)
  obtain ⟨x1, rfl, lx1, ux1, q3_0, q3_1, rfl⟩ := hp
  have hB := th_B_s hB hS
  have w3_1 := tk_0
  have w3_2 := tk_1
  refine W.eq (g2 := F0 m 6 ls [.int x1]) rfl ?_
  refine tr_if_ne (tgt := 15) hx hb dX12_image_6 (by decide) (Eq.refl _) (fun c6 => ?_) (fun c6 => ?_)
  · refine lv_iconst (v := 0) hx hb dX12_image_15 (by decide) ?_
    have hR0 := hR
    have hR := th_NK hR
    refine lv_istore_n (lv' := [(2, .int 0), (0, .ref a0), (1, .int p1)]) hx hb dX12_image_16 rfl hl (by decide) rfl (fun ls hl => ?_)
    have lp17 : ∀ (n17 : Nat) (H17 : Heap) (locs : List Loc) (ls : Array Slot) (j17_2 : Int32), th_B G Γ Γ [(47, 0), (46, 0), (49, 0), (50, 0)] H0 H17 locs → th_RK a0 G Γ H17 → lv_has ls 3 [(0, .ref a0), (1, .int p1), (2, .int j17_2)] → 0 ≤ j17_2.toInt → j17_2.toInt ≤ 5680 → (∀ z : Int, mo_v G H17 a0 3 z = if 5680 * p1.toInt ≤ z ∧ z < 5680 * p1.toInt + j17_2.toInt then mo_v G H0 a0 2 (z - 5680 * p1.toInt) else mo_v G H0 a0 3 z) → mo_v G H17 a0 4 = mo_v G H0 a0 4 → (2147483648 : Int) - j17_2.toInt ≤ (n17 : Int) → W p l e ({ frames := 1, cells := 0, slots := 0, locals := 22 } : Room) s m ([.ref a0, .int p1] : List Value).toArray below meth c H17 locs 0 0 (MQ below (th_Q (fun (v : Option Value) (H1 : Heap) => ∃ r : Int32, v = some (.int r) ∧ (p1.toInt < 0 ∨ 1 < p1.toInt → r.toInt = -1) ∧ (0 ≤ p1.toInt ∧ p1.toInt ≤ 1 → r.toInt = 0) ∧ th_I G Γ H1 ∧ th_F G Γ [(47, 0), (46, 0), (49, 0), (50, 0)] H0 H1 ∧ th_RN a0 G Γ H1 ∧ (∀ z : Int, mo_v G H1 a0 3 z = if 0 ≤ p1.toInt ∧ p1.toInt ≤ 1 then (if 5680 * p1.toInt ≤ z ∧ z < 5680 * p1.toInt + 5680 then mo_v G H0 a0 2 (z - 5680 * p1.toInt) else mo_v G H0 a0 3 z) else mo_v G H0 a0 3 z) ∧ (mo_v G H1 a0 4 = if 0 ≤ p1.toInt ∧ p1.toInt ≤ 1 then mo_u (mo_v G H0 a0 4) p1.toInt 1 else mo_v G H0 a0 4)) G) ([.ref a0, .int p1] : List Value).toArray s 0 0 (fun q => G.2.2 ≤ q)) (F0 m 17 ls []) := by
      intro n17
      induction n17 with
      | zero => intro H17 locs ls j17_2 hB hR hl g17_0 g17_1 g17_2 g17_3 hm17; exact absurd hm17 (by have := ti_hi j17_2; omega)
      | succ n17 ih17 =>
        intro H17 locs ls j17_2 hB hR hl g17_0 g17_1 g17_2 g17_3 hm17
        have lj17_2 := ti_lo j17_2; have uj17_2 := ti_hi j17_2
        have fv2_33 : mo_f G H17 a0 33 = mo_f G H0 a0 33 := mo_f_F hB.2.2 h0 (by decide) (by decide)
        have vw_H17_2 : mo_v G H17 a0 2 = mo_v G H0 a0 2 := mo_v_F (r := 48) hB.1 hB.2.2 h0 rfl ro_48 (by decide) (by decide)
        have vw_H17_31 : mo_v G H17 a0 31 = mo_v G H0 a0 31 := mo_v_F (r := 61) hB.1 hB.2.2 h0 rfl ro_61 (by decide) (by decide)
        have hm17 : (2147483648 : Int) - j17_2.toInt ≤ (n17 : Int) + 1 := by omega
        refine lv_iload_n hx hb dX12_image_17 rfl (lv_at hl 2 rfl) ?_
        refine lv_sipush (v := 5680) hx hb dX12_image_18 (by decide) ?_
        refine tr_icmp_ge (tgt := 48) hx hb dX12_image_21 (by decide) (Eq.refl _) tk_5680 (fun c21 => ?_) (fun c21 => ?_)
        · refine lv_aload_n hx hb dX12_image_48 rfl (lv_at hl 0 rfl) ?_
          refine th_getO (j := 4) (r2 := 50) hC cf_X12 hB.1 h0 ro_46 rfl rfl kf_X12_34 dX12_image_49 (fun b3 mb3 hb3 => ?_)
          refine lv_iload_n hx hb dX12_image_52 rfl (lv_at hl 1 rfl) ?_
          refine lv_iconst (v := 1) hx hb dX12_image_53 (by decide) ?_
          refine th_zastF hC hB hb3 (Or.inl hb3) ro_50 rfl (by decide) (Eq.refl _) (by omega) (by omega) (th_sI (by decide) (by decide)) narrow_b1 dX12_image_54 (fun H54 locs hB hf54 hst54 => ?_)
          have hf := hf54
          have hR := th_RK_F hB.1 hR h0 hf (th_T_s hb3 ro_50 hst54) (by decide)
          have fv_H54_33 : mo_f G H54 a0 33 = mo_f G H17 a0 33 := mo_f_F hf h0 (by decide) (by decide)
          have vv_H54_2 : mo_v G H54 a0 2 = mo_v G H17 a0 2 := mo_v_F (r := 48) hB.1 hf h0 rfl ro_48 (by decide) (by decide)
          have vv_H54_3 : mo_v G H54 a0 3 = mo_v G H17 a0 3 := mo_v_F (r := 49) hB.1 hf h0 rfl ro_49 (by decide) (by decide)
          have vv_H54_31 : mo_v G H54 a0 31 = mo_v G H17 a0 31 := mo_v_F (r := 61) hB.1 hf h0 rfl ro_61 (by decide) (by decide)
          have vs54 : mo_v G H54 a0 4 = mo_u (mo_v G H17 a0 4) p1.toInt 1 := by rw [show (p1.toInt : Int) = p1.toInt by omega]; exact mo_v_st h0 hb3 (by decide) mb3 hst54 (by omega)
          have hR : th_RN a0 G Γ H54 := ⟨hR.1, by rw [mo_v_F (j := 2) (r := 48) hB.1 hB.2.2 h0 rfl ro_48 (by decide) (by decide), mo_v_F (j := 31) (r := 61) hB.1 hB.2.2 h0 rfl ro_61 (by decide) (by decide), mo_f_F hB.2.2 h0 (j := 33) (by decide) (by decide), vs54, g17_3]; exact mo_ok_im hR0.2 (by omega) (by omega) (fun z => by rw [vv_H54_3, g17_2 z, show j17_2.toInt = 5680 by omega])⟩
          refine lv_aload_n hx hb dX12_image_55 rfl (lv_at hl 0 rfl) ?_
          refine lv_iconst (v := 0) hx hb dX12_image_56 (by decide) ?_
          refine th_call (th_runV (As := [.int 0]) (rest := []) hC mf_X12_good km_X12_14 im_X12_good se_X12_good (c_X12_good l G Γ H54 hB.1 hR.1 a0 h0 0) rfl rfl ⟨Nat.le_of_ble_eq_true rfl, Nat.le_of_ble_eq_true rfl⟩ hB.1 h0 ro_46 rfl rfl hl.1 rfl (Nat.le_of_ble_eq_true rfl) dX12_image_57 ⟨Nat.le_refl _, Nat.le_refl _⟩) hB.2.1 (fun v57 H57 locs hp hz hS => ?_)
          have hRD := hR
          obtain ⟨x4, rfl, q57_0, hI1, hf, hR⟩ := hp
          have hR := th_RN_c hR hRD hI1 h0 hf (by decide)
          have hB := th_B_c hB hI1 hS hf (by decide)
          have fv_H57_33 : mo_f G H57 a0 33 = mo_f G H54 a0 33 := mo_f_F hf h0 (by decide) (by decide)
          have vv_H57_2 : mo_v G H57 a0 2 = mo_v G H54 a0 2 := mo_v_F (r := 48) hB.1 hf h0 rfl ro_48 (by decide) (by decide)
          have vv_H57_3 : mo_v G H57 a0 3 = mo_v G H54 a0 3 := mo_v_F (r := 49) hB.1 hf h0 rfl ro_49 (by decide) (by decide)
          have vv_H57_4 : mo_v G H57 a0 4 = mo_v G H54 a0 4 := mo_v_F (r := 50) hB.1 hf h0 rfl ro_50 (by decide) (by decide)
          have vv_H57_31 : mo_v G H57 a0 31 = mo_v G H54 a0 31 := mo_v_F (r := 61) hB.1 hf h0 rfl ro_61 (by decide) (by decide)
          have w57_0 := tk_0
          refine W.eq (g2 := F0 m 60 ls [.int x4]) rfl ?_
          exact th_iret hC hH hr hlocks rfl hB.2.1 ⟨_, rfl, by intros; omega, by intros; omega, hB.1, hB.2.2, hR, (fun z => by rw [if_pos (by omega), vv_H57_3, vv_H54_3, g17_2 z, show j17_2.toInt = 5680 by omega]), (by rw [if_pos (by omega), vv_H57_4, vs54, g17_3])⟩ dX12_image_60
        · refine lv_aload_n hx hb dX12_image_24 rfl (lv_at hl 0 rfl) ?_
          refine th_getO (j := 3) (r2 := 49) hC cf_X12 hB.1 h0 ro_46 rfl rfl kf_X12_31 dX12_image_25 (fun b5 mb5 hb5 => ?_)
          have sb5 := (th_F_o hB.2.2 h0 ro_46 (j := 3) (by decide) (by decide)).symm.trans mb5
          refine lv_sipush (v := 5680) hx hb dX12_image_28 (by decide) ?_
          refine lv_iload_n hx hb dX12_image_31 rfl (lv_at hl 1 rfl) ?_
          refine tr_imul hx hb dX12_image_32 tk_5680 (Eq.refl _) (by omega) (by omega) (fun x6 ex6 => ?_)
          refine lv_iload_n hx hb dX12_image_33 rfl (lv_at hl 2 rfl) ?_
          refine tr_iadd hx hb dX12_image_34 (Eq.refl _) (Eq.refl _) (by omega) (by omega) (fun x7 ex7 => ?_)
          refine lv_aload_n hx hb dX12_image_35 rfl (lv_at hl 0 rfl) ?_
          refine th_getO (j := 2) (r2 := 48) hC cf_X12 hB.1 h0 ro_46 rfl rfl kf_X12_28 dX12_image_36 (fun b8 mb8 hb8 => ?_)
          have sb8 := (th_F_o hB.2.2 h0 ro_46 (j := 2) (by decide) (by decide)).symm.trans mb8
          refine lv_iload_n hx hb dX12_image_39 rfl (lv_at hl 2 rfl) ?_
          refine th_ialdS hC hB.1 hb8 ro_48 rfl (Eq.refl _) (by omega) (by omega) (th_esk1 _) dX12_image_40 (fun x9 mx9 tx9 => ?_)
          have lx9 := ti_lo x9; have ux9 := ti_hi x9
          have vgx9 : mo_v G H0 a0 2 j17_2.toInt = x9.toInt := by rw [← (mo_v_F (r := 48) hB.1 hB.2.2 h0 rfl ro_48 (by decide) (by decide) : mo_v G H17 a0 2 = _)]; rw [show (j17_2.toInt : Int) = j17_2.toInt by omega]; exact mo_vat mb8 mx9 (by omega)
          refine th_iastF hC hB hb5 (Or.inl hb5) ro_49 rfl (by decide) (Eq.refl _) (by omega) (by omega) (by rw [mo_esi (k := p1.toInt) (i := j17_2.toInt) (by omega) (by omega) (by omega) _ (by omega)]; exact th_sat_m (th_esk1 _) tx9) dX12_image_41 (fun H41 locs hB hf41 hst41 => ?_)
          have hf := hf41
          have mm10 := (th_F_o hf h0 ro_46 (j := 3) (by decide) (by decide)).trans mb5
          have mm11 := (th_F_o hf h0 ro_46 (j := 2) (by decide) (by decide)).trans mb8
          have hR := th_RK_F hB.1 hR h0 hf (th_T_s hb5 ro_49 hst41) (by decide)
          have fv_H41_33 : mo_f G H41 a0 33 = mo_f G H17 a0 33 := mo_f_F hf h0 (by decide) (by decide)
          have vv_H41_2 : mo_v G H41 a0 2 = mo_v G H17 a0 2 := mo_v_F (r := 48) hB.1 hf h0 rfl ro_48 (by decide) (by decide)
          have vv_H41_4 : mo_v G H41 a0 4 = mo_v G H17 a0 4 := mo_v_F (r := 50) hB.1 hf h0 rfl ro_50 (by decide) (by decide)
          have vv_H41_31 : mo_v G H41 a0 31 = mo_v G H17 a0 31 := mo_v_F (r := 61) hB.1 hf h0 rfl ro_61 (by decide) (by decide)
          have vs41 : mo_v G H41 a0 3 = mo_u (mo_v G H17 a0 3) ((5680 * p1.toInt) + j17_2.toInt) x9.toInt := by rw [show (((5680 * p1.toInt) + j17_2.toInt) : Int) = x7.toInt by omega]; exact mo_v_st h0 hb5 (by decide) mb5 hst41 (by omega)
          refine tr_iinc (fun x12 => [(2, .int x12), (0, .ref a0), (1, .int p1)]) hx hb dX12_image_42 hl (k := 2) rfl (Eq.refl _) tk_1 (by omega) (by omega) (by decide) (fun _ => rfl) (fun x12 ls ex12 hl => ?_)
          refine lv_goto (tgt := 17) hx hb dX12_image_45 (by decide) ?_
          exact ih17 H41 locs ls x12 hB hR (lv_sub hl [1, 2, 0] rfl) (by omega) (by omega) (fun z => by rw [vs41]; by_cases q9 : z = ((5680 * p1.toInt) + j17_2.toInt); rw [mo_us q9, if_pos (by omega), ← vgx9]; congr 1; omega; rw [mo_un q9, g17_2]; by_cases q8 : 5680 * p1.toInt ≤ z ∧ z < 5680 * p1.toInt + j17_2.toInt; rw [if_pos q8, if_pos (by omega)]; rw [if_neg q8, if_neg (by omega)]) (vv_H41_4.trans g17_3) (by omega)
    exact lp17 ((2147483648 : Int) - (0)).toNat H0 locs ls 0 hB hR (lv_sub hl [1, 2, 0] rfl) (by decide) (by decide) (fun z => by rw [if_neg (by have w0 := tk_0; omega)]) rfl (by have w0 := tk_0; omega)
  · refine lv_aload_n hx hb dX12_image_9 rfl (lv_at hl 0 rfl) ?_
    refine lv_iconst (v := (-1)) hx hb dX12_image_10 (by decide) ?_
    refine th_call (th_runV (As := [.int (-1)]) (rest := []) hC mf_X12_refuses km_X12_109 im_X12_refuses se_X12_refuses (c_X12_refuses l G Γ H0 hB.1 hR.1 a0 h0 (-1) (by decide) (by decide)) rfl rfl ⟨Nat.le_of_ble_eq_true rfl, Nat.le_of_ble_eq_true rfl⟩ hB.1 h0 ro_46 rfl rfl hl.1 rfl (Nat.le_of_ble_eq_true rfl) dX12_image_11 ⟨Nat.le_refl _, Nat.le_refl _⟩) hB.2.1 (fun v11 H11 locs hp hz hS => ?_)
    have hRD := hR
    obtain ⟨x13, rfl, q11_0, hI1, hf, hR⟩ := hp
    have hR := th_RN_c hR hRD hI1 h0 hf (by decide)
    have hB := th_B_c hB hI1 hS hf (by decide)
    have fv_H11_33 : mo_f G H11 a0 33 = mo_f G H0 a0 33 := mo_f_F hf h0 (by decide) (by decide)
    have vv_H11_2 : mo_v G H11 a0 2 = mo_v G H0 a0 2 := mo_v_F (r := 48) hB.1 hf h0 rfl ro_48 (by decide) (by decide)
    have vv_H11_3 : mo_v G H11 a0 3 = mo_v G H0 a0 3 := mo_v_F (r := 49) hB.1 hf h0 rfl ro_49 (by decide) (by decide)
    have vv_H11_4 : mo_v G H11 a0 4 = mo_v G H0 a0 4 := mo_v_F (r := 50) hB.1 hf h0 rfl ro_50 (by decide) (by decide)
    have vv_H11_31 : mo_v G H11 a0 31 = mo_v G H0 a0 31 := mo_v_F (r := 61) hB.1 hf h0 rfl ro_61 (by decide) (by decide)
    have w11_0 := tk_m1
    refine W.eq (g2 := F0 m 14 ls [.int x13]) rfl ?_
    exact th_iret hC hH hr hlocks rfl hB.2.1 ⟨_, rfl, by intros; omega, by intros; omega, hB.1, hB.2.2, hR, (fun z => by rw [if_neg (by omega), vv_H11_3]), (by rw [if_neg (by omega), vv_H11_4])⟩ dX12_image_14

set_option maxHeartbeats 4000000 in
set_option maxRecDepth 100000 in
theorem c_X12_back_q (l : Launch) (G : th_G) (Γ : th_Ga) (H0 : Heap) (hI : th_I G Γ H0) (a0 : Nat) (h0 : Γ a0 = (46, 0)) (hR : th_RN a0 G Γ H0) (p1 : Int32) : Met l yX12_back (.code yX12_back cX12_back 3 (some FieldType.int) :: th_tb) ({ frames := 2, cells := 0, slots := 0, locals := 42 } : Room) (th_P [.ref a0, .int p1] G H0) (th_Q (fun (v : Option Value) (H1 : Heap) => ∃ r : Int32, v = some (.int r) ∧ th_I G Γ H1 ∧ th_F G Γ [(47, 0), (46, 0), (48, 0), (46, 33)] H0 H1 ∧ th_RN a0 G Γ H1 ∧ (∀ z : Int, 0 ≤ z → z < 5680 → mo_v G H1 a0 2 z = if 0 ≤ p1.toInt ∧ p1.toInt ≤ 1 ∧ mo_v G H0 a0 4 p1.toInt ≠ 0 then mo_v G H0 a0 3 (5680 * p1.toInt + z) else mo_v G H0 a0 2 z)) G) 0 0 (fun q => G.2.2 ≤ q) := by
  refine th_met RX12 (by decide) rfl (Nat.le_of_ble_eq_true rfl) ?_
  intro p e s m below meth c hC hH hr hlocks hnm ls hl
  have hx := hC.1
  have hb := hC.2.1
  have hB : th_B G Γ Γ [(47, 0), (46, 0), (48, 0), (46, 33)] H0 H0 [] := ⟨hI, va_S.rf, th_F_rf⟩
  have hl : lv_has ls 3 [(0, .ref a0), (1, .int p1)] := hl
  have lp1 := ti_lo p1; have up1 := ti_hi p1
  refine lv_iload_n hx hb dX12_back_0 rfl (lv_at hl 1 rfl) ?_
  refine lv_iconst (v := 0) hx hb dX12_back_1 (by decide) ?_
  refine lv_iconst (v := 1) hx hb dX12_back_2 (by decide) ?_
  refine th_call (th_runS (As := [.int p1, .int 0, .int 1]) (rest := []) hC mf_X12_lies km_X12_18 st_X12_lies (c_X12_lies l G Γ H0 hB.1 p1 0 1) rfl rfl ⟨Nat.le_of_ble_eq_true rfl, Nat.le_of_ble_eq_true rfl⟩ rfl hl.1 rfl (Nat.le_of_ble_eq_true rfl) dX12_back_3 ⟨Nat.le_refl _, Nat.le_refl _⟩) hB.2.1 (fun v3 H3 locs hp hz hS => ?_)
  obtain ⟨x1, rfl, lx1, ux1, q3_0, q3_1, rfl⟩ := hp
  have hB := th_B_s hB hS
  have w3_1 := tk_0
  have w3_2 := tk_1
  refine W.eq (g2 := F0 m 6 ls [.int x1]) rfl ?_
  refine tr_if_ne (tgt := 15) hx hb dX12_back_6 (by decide) (Eq.refl _) (fun c6 => ?_) (fun c6 => ?_)
  · refine lv_aload_n hx hb dX12_back_15 rfl (lv_at hl 0 rfl) ?_
    refine th_getO (j := 4) (r2 := 50) hC cf_X12 hB.1 h0 ro_46 rfl rfl kf_X12_34 dX12_back_16 (fun b2 mb2 hb2 => ?_)
    refine lv_iload_n hx hb dX12_back_19 rfl (lv_at hl 1 rfl) ?_
    refine th_zaldF hC hB.1 hb2 ro_50 rfl (Eq.refl _) (by omega) (by omega) rfl dX12_back_20 (fun x3 mx3 lx3 ux3 => ?_)
    have vgx3 : mo_v G H0 a0 4 p1.toInt = x3.toInt := by rw [show (p1.toInt : Int) = p1.toInt by omega]; exact mo_vat mb2 mx3 (by omega)
    refine tr_if_ne (tgt := 31) hx hb dX12_back_21 (by decide) (Eq.refl _) (fun c21 => ?_) (fun c21 => ?_)
    · refine lv_iconst (v := 0) hx hb dX12_back_31 (by decide) ?_
      have hR0 := hR
      have hR := hR.1
      have hs1 : mo_v G H0 a0 4 p1.toInt = 1 := by omega
      refine lv_istore_n (lv' := [(2, .int 0), (0, .ref a0), (1, .int p1)]) hx hb dX12_back_32 rfl hl (by decide) rfl (fun ls hl => ?_)
      have lp33 : ∀ (n33 : Nat) (H33 : Heap) (locs : List Loc) (ls : Array Slot) (j33_2 : Int32), th_B G Γ Γ [(47, 0), (46, 0), (48, 0), (46, 33)] H0 H33 locs → th_RC G Γ H33 → lv_has ls 3 [(0, .ref a0), (1, .int p1), (2, .int j33_2)] → 0 ≤ j33_2.toInt → j33_2.toInt ≤ 5680 → (∀ z : Int, 0 ≤ z → mo_v G H33 a0 2 z = if z < j33_2.toInt then mo_v G H0 a0 3 (5680 * p1.toInt + z) else mo_v G H0 a0 2 z) → (2147483648 : Int) - j33_2.toInt ≤ (n33 : Int) → W p l e ({ frames := 2, cells := 0, slots := 0, locals := 42 } : Room) s m ([.ref a0, .int p1] : List Value).toArray below meth c H33 locs 0 0 (MQ below (th_Q (fun (v : Option Value) (H1 : Heap) => ∃ r : Int32, v = some (.int r) ∧ th_I G Γ H1 ∧ th_F G Γ [(47, 0), (46, 0), (48, 0), (46, 33)] H0 H1 ∧ th_RN a0 G Γ H1 ∧ (∀ z : Int, 0 ≤ z → z < 5680 → mo_v G H1 a0 2 z = if 0 ≤ p1.toInt ∧ p1.toInt ≤ 1 ∧ mo_v G H0 a0 4 p1.toInt ≠ 0 then mo_v G H0 a0 3 (5680 * p1.toInt + z) else mo_v G H0 a0 2 z)) G) ([.ref a0, .int p1] : List Value).toArray s 0 0 (fun q => G.2.2 ≤ q)) (F0 m 33 ls []) := by
        intro n33
        induction n33 with
        | zero => intro H33 locs ls j33_2 hB hR hl g33_0 g33_1 g33_2 hm33; exact absurd hm33 (by have := ti_hi j33_2; omega)
        | succ n33 ih33 =>
          intro H33 locs ls j33_2 hB hR hl g33_0 g33_1 g33_2 hm33
          have lj33_2 := ti_lo j33_2; have uj33_2 := ti_hi j33_2
          have vw_H33_3 : mo_v G H33 a0 3 = mo_v G H0 a0 3 := mo_v_F (r := 49) hB.1 hB.2.2 h0 rfl ro_49 (by decide) (by decide)
          have vw_H33_4 : mo_v G H33 a0 4 = mo_v G H0 a0 4 := mo_v_F (r := 50) hB.1 hB.2.2 h0 rfl ro_50 (by decide) (by decide)
          have vw_H33_31 : mo_v G H33 a0 31 = mo_v G H0 a0 31 := mo_v_F (r := 61) hB.1 hB.2.2 h0 rfl ro_61 (by decide) (by decide)
          have hm33 : (2147483648 : Int) - j33_2.toInt ≤ (n33 : Int) + 1 := by omega
          refine lv_iload_n hx hb dX12_back_33 rfl (lv_at hl 2 rfl) ?_
          refine lv_sipush (v := 5680) hx hb dX12_back_34 (by decide) ?_
          refine tr_icmp_ge (tgt := 64) hx hb dX12_back_37 (by decide) (Eq.refl _) tk_5680 (fun c37 => ?_) (fun c37 => ?_)
          · refine lv_aload_n hx hb dX12_back_64 rfl (lv_at hl 0 rfl) ?_
            refine lv_iconst (v := 0) hx hb dX12_back_65 (by decide) ?_
            refine th_call (th_runV (As := [.int 0]) (rest := []) hC mf_X12_settled km_X12_112 im_X12_settled se_X12_settled (c_X12_settled l G Γ H33 hB.1 hR a0 h0 0) rfl rfl ⟨Nat.le_of_ble_eq_true rfl, Nat.le_of_ble_eq_true rfl⟩ hB.1 h0 ro_46 rfl rfl hl.1 rfl (Nat.le_of_ble_eq_true rfl) dX12_back_66 ⟨Nat.le_refl _, Nat.le_refl _⟩) hB.2.1 (fun v66 H66 locs hp hz hS => ?_)
            obtain ⟨x4, rfl, q66_0, hI1, hf, hR, z66_0⟩ := hp
            have hB := th_B_c hB hI1 hS hf (by decide)
            have vv_H66_2 : mo_v G H66 a0 2 = mo_v G H33 a0 2 := mo_v_F (r := 48) hB.1 hf h0 rfl ro_48 (by decide) (by decide)
            have vv_H66_3 : mo_v G H66 a0 3 = mo_v G H33 a0 3 := mo_v_F (r := 49) hB.1 hf h0 rfl ro_49 (by decide) (by decide)
            have vv_H66_4 : mo_v G H66 a0 4 = mo_v G H33 a0 4 := mo_v_F (r := 50) hB.1 hf h0 rfl ro_50 (by decide) (by decide)
            have vv_H66_31 : mo_v G H66 a0 31 = mo_v G H33 a0 31 := mo_v_F (r := 61) hB.1 hf h0 rfl ro_61 (by decide) (by decide)
            have w66_0 := tk_0
            refine W.eq (g2 := F0 m 69 ls [.int x4]) rfl ?_
            have hR : th_RN a0 G Γ H66 := th_ZN ⟨hR, by rw [mo_v_F (j := 3) (r := 49) hB.1 hB.2.2 h0 rfl ro_49 (by decide) (by decide), mo_v_F (j := 4) (r := 50) hB.1 hB.2.2 h0 rfl ro_50 (by decide) (by decide)]; exact ⟨mo_kg_ext (fun i a9 b9 => by rw [vv_H66_2, g33_2 i a9, if_pos (by omega)]) (hR0.2.2.1 p1.toInt (by omega) (by omega) hs1), hR0.2.2.1⟩⟩ z66_0
            exact th_iret hC hH hr hlocks rfl hB.2.1 ⟨_, rfl, hB.1, hB.2.2, hR, (fun z z0 z1 => by rw [if_pos (by omega), vv_H66_2, g33_2 z z0, if_pos (by omega)])⟩ dX12_back_69
          · refine lv_aload_n hx hb dX12_back_40 rfl (lv_at hl 0 rfl) ?_
            refine th_getO (j := 2) (r2 := 48) hC cf_X12 hB.1 h0 ro_46 rfl rfl kf_X12_28 dX12_back_41 (fun b5 mb5 hb5 => ?_)
            have sb5 := (th_F_o hB.2.2 h0 ro_46 (j := 2) (by decide) (by decide)).symm.trans mb5
            refine lv_iload_n hx hb dX12_back_44 rfl (lv_at hl 2 rfl) ?_
            refine lv_aload_n hx hb dX12_back_45 rfl (lv_at hl 0 rfl) ?_
            refine th_getO (j := 3) (r2 := 49) hC cf_X12 hB.1 h0 ro_46 rfl rfl kf_X12_31 dX12_back_46 (fun b6 mb6 hb6 => ?_)
            have sb6 := (th_F_o hB.2.2 h0 ro_46 (j := 3) (by decide) (by decide)).symm.trans mb6
            refine lv_sipush (v := 5680) hx hb dX12_back_49 (by decide) ?_
            refine lv_iload_n hx hb dX12_back_52 rfl (lv_at hl 1 rfl) ?_
            refine tr_imul hx hb dX12_back_53 tk_5680 (Eq.refl _) (by omega) (by omega) (fun x7 ex7 => ?_)
            refine lv_iload_n hx hb dX12_back_54 rfl (lv_at hl 2 rfl) ?_
            refine tr_iadd hx hb dX12_back_55 (Eq.refl _) (Eq.refl _) (by omega) (by omega) (fun x8 ex8 => ?_)
            refine th_ialdS hC hB.1 hb6 ro_49 rfl (Eq.refl _) (by omega) (by omega) (th_esi1 _) dX12_back_56 (fun x9 mx9 tx9 => ?_)
            have lx9 := ti_lo x9; have ux9 := ti_hi x9
            have vgx9 : mo_v G H0 a0 3 ((5680 * p1.toInt) + j33_2.toInt) = x9.toInt := by rw [← (mo_v_F (r := 49) hB.1 hB.2.2 h0 rfl ro_49 (by decide) (by decide) : mo_v G H33 a0 3 = _)]; rw [show (((5680 * p1.toInt) + j33_2.toInt) : Int) = x8.toInt by omega]; exact mo_vat mb6 mx9 (by omega)
            refine th_iastF hC hB hb5 (Or.inl hb5) ro_48 rfl (by decide) (Eq.refl _) (by omega) (by omega) (by rw [← mo_esi (k := p1.toInt) (i := j33_2.toInt) (by omega) (by omega) (by omega) _ rfl]; have q9 := tx9; rw [show x8.toInt = 5680 * p1.toInt + j33_2.toInt by omega] at q9; exact th_sat_m (th_esi1 _) q9) dX12_back_57 (fun H57 locs hB hf57 hst57 => ?_)
            have hf := hf57
            have mm10 := (th_F_o hf h0 ro_46 (j := 2) (by decide) (by decide)).trans mb5
            have mm11 := (th_F_o hf h0 ro_46 (j := 3) (by decide) (by decide)).trans mb6
            have hR := th_RC_F hB.1 hR hf (th_T_s hb5 ro_48 hst57) (by decide)
            have fv_H57_33 : mo_f G H57 a0 33 = mo_f G H33 a0 33 := mo_f_F hf h0 (by decide) (by decide)
            have vv_H57_3 : mo_v G H57 a0 3 = mo_v G H33 a0 3 := mo_v_F (r := 49) hB.1 hf h0 rfl ro_49 (by decide) (by decide)
            have vv_H57_4 : mo_v G H57 a0 4 = mo_v G H33 a0 4 := mo_v_F (r := 50) hB.1 hf h0 rfl ro_50 (by decide) (by decide)
            have vv_H57_31 : mo_v G H57 a0 31 = mo_v G H33 a0 31 := mo_v_F (r := 61) hB.1 hf h0 rfl ro_61 (by decide) (by decide)
            have vs57 : mo_v G H57 a0 2 = mo_u (mo_v G H33 a0 2) j33_2.toInt x9.toInt := by rw [show (j33_2.toInt : Int) = j33_2.toInt by omega]; exact mo_v_st h0 hb5 (by decide) mb5 hst57 (by omega)
            refine tr_iinc (fun x12 => [(2, .int x12), (0, .ref a0), (1, .int p1)]) hx hb dX12_back_58 hl (k := 2) rfl (Eq.refl _) tk_1 (by omega) (by omega) (by decide) (fun _ => rfl) (fun x12 ls ex12 hl => ?_)
            refine lv_goto (tgt := 33) hx hb dX12_back_61 (by decide) ?_
            exact ih33 H57 locs ls x12 hB hR (lv_sub hl [1, 2, 0] rfl) (by omega) (by omega) (fun z a9 => by rw [vs57]; by_cases q9 : z = j33_2.toInt; rw [mo_us q9, if_pos (by omega), q9, ← vgx9]; rw [mo_un q9, g33_2 z a9]; by_cases q8 : z < j33_2.toInt; rw [if_pos q8, if_pos (by omega)]; rw [if_neg q8, if_neg (by omega)]) (by omega)
      exact lp33 ((2147483648 : Int) - (0)).toNat H0 locs ls 0 hB hR (lv_sub hl [1, 2, 0] rfl) (by decide) (by decide) (fun z a9 => by rw [if_neg (by have w0 := tk_0; omega)]) (by have w0 := tk_0; omega)
    · refine lv_aload_n hx hb dX12_back_24 rfl (lv_at hl 0 rfl) ?_
      refine lv_bipush (v := (-2)) hx hb dX12_back_25 (by decide) ?_
      refine th_call (th_runV (As := [.int (-2)]) (rest := []) hC mf_X12_refuses km_X12_109 im_X12_refuses se_X12_refuses (c_X12_refuses l G Γ H0 hB.1 hR.1 a0 h0 (-2) (by decide) (by decide)) rfl rfl ⟨Nat.le_of_ble_eq_true rfl, Nat.le_of_ble_eq_true rfl⟩ hB.1 h0 ro_46 rfl rfl hl.1 rfl (Nat.le_of_ble_eq_true rfl) dX12_back_27 ⟨Nat.le_refl _, Nat.le_refl _⟩) hB.2.1 (fun v27 H27 locs hp hz hS => ?_)
      have hRD := hR
      obtain ⟨x13, rfl, q27_0, hI1, hf, hR⟩ := hp
      have hR := th_RN_c hR hRD hI1 h0 hf (by decide)
      have hB := th_B_c hB hI1 hS hf (by decide)
      have fv_H27_33 : mo_f G H27 a0 33 = mo_f G H0 a0 33 := mo_f_F hf h0 (by decide) (by decide)
      have vv_H27_2 : mo_v G H27 a0 2 = mo_v G H0 a0 2 := mo_v_F (r := 48) hB.1 hf h0 rfl ro_48 (by decide) (by decide)
      have vv_H27_3 : mo_v G H27 a0 3 = mo_v G H0 a0 3 := mo_v_F (r := 49) hB.1 hf h0 rfl ro_49 (by decide) (by decide)
      have vv_H27_4 : mo_v G H27 a0 4 = mo_v G H0 a0 4 := mo_v_F (r := 50) hB.1 hf h0 rfl ro_50 (by decide) (by decide)
      have vv_H27_31 : mo_v G H27 a0 31 = mo_v G H0 a0 31 := mo_v_F (r := 61) hB.1 hf h0 rfl ro_61 (by decide) (by decide)
      have w27_0 := tk_m2
      refine W.eq (g2 := F0 m 30 ls [.int x13]) rfl ?_
      exact th_iret hC hH hr hlocks rfl hB.2.1 ⟨_, rfl, hB.1, hB.2.2, hR, (fun z z0 z1 => by rw [if_neg (by omega), vv_H27_2])⟩ dX12_back_30
  · refine lv_aload_n hx hb dX12_back_9 rfl (lv_at hl 0 rfl) ?_
    refine lv_iconst (v := (-1)) hx hb dX12_back_10 (by decide) ?_
    refine th_call (th_runV (As := [.int (-1)]) (rest := []) hC mf_X12_refuses km_X12_109 im_X12_refuses se_X12_refuses (c_X12_refuses l G Γ H0 hB.1 hR.1 a0 h0 (-1) (by decide) (by decide)) rfl rfl ⟨Nat.le_of_ble_eq_true rfl, Nat.le_of_ble_eq_true rfl⟩ hB.1 h0 ro_46 rfl rfl hl.1 rfl (Nat.le_of_ble_eq_true rfl) dX12_back_11 ⟨Nat.le_refl _, Nat.le_refl _⟩) hB.2.1 (fun v11 H11 locs hp hz hS => ?_)
    have hRD := hR
    obtain ⟨x14, rfl, q11_0, hI1, hf, hR⟩ := hp
    have hR := th_RN_c hR hRD hI1 h0 hf (by decide)
    have hB := th_B_c hB hI1 hS hf (by decide)
    have fv_H11_33 : mo_f G H11 a0 33 = mo_f G H0 a0 33 := mo_f_F hf h0 (by decide) (by decide)
    have vv_H11_2 : mo_v G H11 a0 2 = mo_v G H0 a0 2 := mo_v_F (r := 48) hB.1 hf h0 rfl ro_48 (by decide) (by decide)
    have vv_H11_3 : mo_v G H11 a0 3 = mo_v G H0 a0 3 := mo_v_F (r := 49) hB.1 hf h0 rfl ro_49 (by decide) (by decide)
    have vv_H11_4 : mo_v G H11 a0 4 = mo_v G H0 a0 4 := mo_v_F (r := 50) hB.1 hf h0 rfl ro_50 (by decide) (by decide)
    have vv_H11_31 : mo_v G H11 a0 31 = mo_v G H0 a0 31 := mo_v_F (r := 61) hB.1 hf h0 rfl ro_61 (by decide) (by decide)
    have w11_0 := tk_m1
    refine W.eq (g2 := F0 m 14 ls [.int x14]) rfl ?_
    exact th_iret hC hH hr hlocks rfl hB.2.1 ⟨_, rfl, hB.1, hB.2.2, hR, (fun z z0 z1 => by rw [if_neg (by omega), vv_H11_2])⟩ dX12_back_14

