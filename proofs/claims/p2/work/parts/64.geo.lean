set_option maxHeartbeats 4000000 in
set_option maxRecDepth 100000 in
theorem c_X12_image (l : Launch) (G : th_G) (Γ : th_Ga) (H0 : Heap) (hI : th_I G Γ H0) (hU : dv_U Γ) (a0 : Nat) (h0 : Γ a0 = (46, 0)) (hR : th_RN a0 G Γ H0) (p1 : Int32) : Met l yX12_image (.code yX12_image cX12_image 3 (some FieldType.int) :: th_tb) ({ frames := 1, cells := 0, slots := 0, locals := 22 } : Room) (th_P [.ref a0, .int p1] G H0) (th_Q (fun (v : Option Value) (H1 : Heap) => ∃ r : Int32, v = some (.int r) ∧ (p1.toInt < 0 ∨ 1 < p1.toInt → r.toInt = -1) ∧ (0 ≤ p1.toInt ∧ p1.toInt ≤ 1 → r.toInt = 0) ∧ th_I G Γ H1 ∧ th_F G Γ [(47, 0), (46, 0), (49, 0), (50, 0)] H0 H1 ∧ th_RN a0 G Γ H1 ∧ (f_X12_image (dv G Γ H0) (a0 : Int) p1.toInt = (dv G Γ H1, r.toInt))) G) 0 0 (fun q => G.2.2 ≤ q) := by
  refine th_met RX12 (by decide) rfl (Nat.le_of_ble_eq_true rfl) ?_
  intro p e s m below meth c hC hH hr hlocks hnm ls hl
  have hx := hC.1
  have hb := hC.2.1
  have hB : th_B G Γ Γ [(47, 0), (46, 0), (49, 0), (50, 0)] H0 H0 [] := ⟨hI, va_S.rf, th_F_rf⟩
  have hl : lv_has ls 3 [(0, .ref a0), (1, .int p1)] := hl
  have lp1 := ti_lo p1; have up1 := ti_hi p1
  obtain ⟨F, hF0⟩ : ∃ F, F = f_X12_image (dv G Γ H0) ((a0 : Int)) (p1.toInt) := ⟨_, rfl⟩
  have hF := hF0.trans (f_X12_image.eq_1 (dv G Γ H0) ((a0 : Int)) (p1.toInt))
  refine lv_iload_n hx hb dX12_image_0 rfl (lv_at hl 1 rfl) ?_
  refine lv_iconst (v := 0) hx hb dX12_image_1 (by decide) ?_
  refine lv_iconst (v := 1) hx hb dX12_image_2 (by decide) ?_
  refine th_call (th_runS (As := [.int p1, .int 0, .int 1]) (rest := []) hC mf_X12_lies km_X12_18 st_X12_lies (c_X12_lies l G Γ H0 hB.1 hU p1 0 1) rfl rfl ⟨Nat.le_of_ble_eq_true rfl, Nat.le_of_ble_eq_true rfl⟩ rfl hl.1 rfl (Nat.le_of_ble_eq_true rfl) dX12_image_3 ⟨Nat.le_refl _, Nat.le_refl _⟩) hB.2.1 (fun v3 H3 locs hp hz hS => ?_)
  obtain ⟨x1, rfl, lx1, ux1, q3_0, q3_1, q3_2, rfl⟩ := hp
  have hB := th_B_s hB hS
  have w3_1 := tk_0
  have w3_2 := tk_1
  have zf3 := q3_2
  rw [tk_0, tk_1] at zf3
  replace hF := hF.trans (dv_bn2 (zf3))
  refine W.eq (g2 := F0 m 6 ls [.int x1]) rfl ?_
  refine tr_if_ne (tgt := 15) hx hb dX12_image_6 (by decide) (Eq.refl _) (fun c6 => ?_) (fun c6 => ?_)
  · replace hF := hF.trans (if_pos c6)
    refine lv_iconst (v := 0) hx hb dX12_image_15 (by decide) ?_
    have hR0 := hR
    have hR := th_NK hR
    refine lv_istore_n (lv' := [(2, .int 0), (0, .ref a0), (1, .int p1)]) hx hb dX12_image_16 rfl hl (by decide) rfl (fun ls hl => ?_)
    have lp17 : ∀ (n17 : Nat) (H17 : Heap) (locs : List Loc) (ls : Array Slot) (j17_2 : Int32), th_B G Γ Γ [(47, 0), (46, 0), (49, 0), (50, 0)] H0 H17 locs → th_RK a0 G Γ H17 → lv_has ls 3 [(0, .ref a0), (1, .int p1), (2, .int j17_2)] → F = dv_lp f_X12_image_17b (dv G Γ H17, (a0 : Int), p1.toInt, j17_2.toInt) → 0 ≤ j17_2.toInt → j17_2.toInt ≤ 5680 → (∀ z : Int, mo_v G H17 a0 3 z = if 5680 * p1.toInt ≤ z ∧ z < 5680 * p1.toInt + j17_2.toInt then mo_v G H0 a0 2 (z - 5680 * p1.toInt) else mo_v G H0 a0 3 z) → mo_v G H17 a0 4 = mo_v G H0 a0 4 → (2147483648 : Int) - j17_2.toInt ≤ (n17 : Int) → W p l e ({ frames := 1, cells := 0, slots := 0, locals := 22 } : Room) s m ([.ref a0, .int p1] : List Value).toArray below meth c H17 locs 0 0 (MQ below (th_Q (fun (v : Option Value) (H1 : Heap) => ∃ r : Int32, v = some (.int r) ∧ (p1.toInt < 0 ∨ 1 < p1.toInt → r.toInt = -1) ∧ (0 ≤ p1.toInt ∧ p1.toInt ≤ 1 → r.toInt = 0) ∧ th_I G Γ H1 ∧ th_F G Γ [(47, 0), (46, 0), (49, 0), (50, 0)] H0 H1 ∧ th_RN a0 G Γ H1 ∧ (f_X12_image (dv G Γ H0) (a0 : Int) p1.toInt = (dv G Γ H1, r.toInt))) G) ([.ref a0, .int p1] : List Value).toArray s 0 0 (fun q => G.2.2 ≤ q)) (F0 m 17 ls []) := by
      intro n17
      induction n17 with
      | zero => intro H17 locs ls j17_2 hB hR hl hF g17_0 g17_1 g17_2 g17_3 hm17; exact absurd hm17 (by have := ti_hi j17_2; omega)
      | succ n17 ih17 =>
        intro H17 locs ls j17_2 hB hR hl hF g17_0 g17_1 g17_2 g17_3 hm17
        have lj17_2 := ti_lo j17_2; have uj17_2 := ti_hi j17_2
        have fv2_33 : mo_f G H17 a0 33 = mo_f G H0 a0 33 := mo_f_F hB.2.2 h0 (by decide) (by decide)
        have vw_H17_2 : mo_v G H17 a0 2 = mo_v G H0 a0 2 := mo_v_F (r := 48) hB.1 hB.2.2 h0 rfl ro_48 (by decide) (by decide)
        have vw_H17_31 : mo_v G H17 a0 31 = mo_v G H0 a0 31 := mo_v_F (r := 61) hB.1 hB.2.2 h0 rfl ro_61 (by decide) (by decide)
        have hm17 : (2147483648 : Int) - j17_2.toInt ≤ (n17 : Int) + 1 := by omega
        replace hF := hF.trans (dv_lp_eq)
        replace hF := hF.trans (congrArg (dv_k f_X12_image_17b) (f_X12_image_17c.eq_1 (dv G Γ H17) ((a0 : Int)) (p1.toInt) (j17_2.toInt)))
        refine lv_iload_n hx hb dX12_image_17 rfl (lv_at hl 2 rfl) ?_
        refine lv_sipush (v := 5680) hx hb dX12_image_18 (by decide) ?_
        refine tr_icmp_ge (tgt := 48) hx hb dX12_image_21 (by decide) (Eq.refl _) tk_5680 (fun c21 => ?_) (fun c21 => ?_)
        · replace hF := hF.trans (congrArg (dv_k f_X12_image_17b) (if_pos c21))
          refine lv_aload_n hx hb dX12_image_48 rfl (lv_at hl 0 rfl) ?_
          refine th_getO (j := 4) (r2 := 50) hC cf_X12 hB.1 h0 ro_46 rfl rfl kf_X12_34 dX12_image_49 (fun b3 mb3 hb3 => ?_)
          refine lv_iload_n hx hb dX12_image_52 rfl (lv_at hl 1 rfl) ?_
          refine lv_iconst (v := 1) hx hb dX12_image_53 (by decide) ?_
          have hIo := hB.1
          refine th_zastF hC hB hb3 (Or.inl hb3) ro_50 rfl (by decide) (Eq.refl _) (by omega) (by omega) (th_sI (by decide) (by decide)) narrow_b1 dX12_image_54 (fun H54 locs hB hf54 hst54 => ?_)
          have hf := hf54
          have hR := th_RK_F hB.1 hR h0 hf (th_T_s hb3 ro_50 hst54) (by decide)
          have fv_H54_33 : mo_f G H54 a0 33 = mo_f G H17 a0 33 := mo_f_F hf h0 (by decide) (by decide)
          have vv_H54_2 : mo_v G H54 a0 2 = mo_v G H17 a0 2 := mo_v_F (r := 48) hB.1 hf h0 rfl ro_48 (by decide) (by decide)
          have vv_H54_3 : mo_v G H54 a0 3 = mo_v G H17 a0 3 := mo_v_F (r := 49) hB.1 hf h0 rfl ro_49 (by decide) (by decide)
          have vv_H54_31 : mo_v G H54 a0 31 = mo_v G H17 a0 31 := mo_v_F (r := 61) hB.1 hf h0 rfl ro_61 (by decide) (by decide)
          replace hF := hF.trans (congrArg (dv_k f_X12_image_17b) (dv_bn (dv_stoI hIo hB.1 hU hb3 ow_50 (i := p1.toInt) hst54 tk_1 (by omega))))
          have vs54 : mo_v G H54 a0 4 = mo_u (mo_v G H17 a0 4) p1.toInt 1 := by rw [show (p1.toInt : Int) = p1.toInt by omega]; exact mo_v_st h0 hb3 (by decide) mb3 hst54 (by omega)
          have hR : th_RN a0 G Γ H54 := ⟨hR.1, by rw [mo_v_F (j := 2) (r := 48) hB.1 hB.2.2 h0 rfl ro_48 (by decide) (by decide), mo_v_F (j := 31) (r := 61) hB.1 hB.2.2 h0 rfl ro_61 (by decide) (by decide), mo_f_F hB.2.2 h0 (j := 33) (by decide) (by decide), vs54, g17_3]; exact mo_ok_im hR0.2 (by omega) (by omega) (fun z => by rw [vv_H54_3, g17_2 z, show j17_2.toInt = 5680 by omega])⟩
          refine lv_aload_n hx hb dX12_image_55 rfl (lv_at hl 0 rfl) ?_
          refine lv_iconst (v := 0) hx hb dX12_image_56 (by decide) ?_
          refine th_call (th_runV (As := [.int 0]) (rest := []) hC mf_X12_good km_X12_14 im_X12_good se_X12_good (c_X12_good l G Γ H54 hB.1 hR.1 hU a0 h0 0) rfl rfl ⟨Nat.le_of_ble_eq_true rfl, Nat.le_of_ble_eq_true rfl⟩ hB.1 h0 ro_46 rfl rfl hl.1 rfl (Nat.le_of_ble_eq_true rfl) dX12_image_57 ⟨Nat.le_refl _, Nat.le_refl _⟩) hB.2.1 (fun v57 H57 locs hp hz hS => ?_)
          have hRD := hR
          obtain ⟨x4, rfl, q57_0, hI1, hf, hR, z57_0⟩ := hp
          have hR := th_RN_c hR hRD hI1 h0 hf (by decide)
          have hB := th_B_c hB hI1 hS hf (by decide)
          have fv_H57_33 : mo_f G H57 a0 33 = mo_f G H54 a0 33 := mo_f_F hf h0 (by decide) (by decide)
          have vv_H57_2 : mo_v G H57 a0 2 = mo_v G H54 a0 2 := mo_v_F (r := 48) hB.1 hf h0 rfl ro_48 (by decide) (by decide)
          have vv_H57_3 : mo_v G H57 a0 3 = mo_v G H54 a0 3 := mo_v_F (r := 49) hB.1 hf h0 rfl ro_49 (by decide) (by decide)
          have vv_H57_4 : mo_v G H57 a0 4 = mo_v G H54 a0 4 := mo_v_F (r := 50) hB.1 hf h0 rfl ro_50 (by decide) (by decide)
          have vv_H57_31 : mo_v G H57 a0 31 = mo_v G H54 a0 31 := mo_v_F (r := 61) hB.1 hf h0 rfl ro_61 (by decide) (by decide)
          have w57_0 := tk_0
          have zf57 := z57_0
          rw [tk_0] at zf57
          replace hF := hF.trans (congrArg (dv_k f_X12_image_17b) (dv_bn2 (zf57)))
          refine W.eq (g2 := F0 m 60 ls [.int x4]) rfl ?_
          replace hF := hF.trans (dv_kr)
          exact th_iret hC hH hr hlocks rfl hB.2.1 ⟨_, rfl, by intros; omega, by intros; omega, hB.1, hB.2.2, hR, (hF0.symm.trans hF)⟩ dX12_image_60
        · replace hF := hF.trans (congrArg (dv_k f_X12_image_17b) (if_neg (Int.not_le.mpr c21)))
          refine lv_aload_n hx hb dX12_image_24 rfl (lv_at hl 0 rfl) ?_
          refine th_getO (j := 3) (r2 := 49) hC cf_X12 hB.1 h0 ro_46 rfl rfl kf_X12_31 dX12_image_25 (fun b5 mb5 hb5 => ?_)
          have sb5 := (th_F_o hB.2.2 h0 ro_46 (j := 3) (by decide) (by decide)).symm.trans mb5
          refine lv_sipush (v := 5680) hx hb dX12_image_28 (by decide) ?_
          refine lv_iload_n hx hb dX12_image_31 rfl (lv_at hl 1 rfl) ?_
          refine tr_imul hx hb dX12_image_32 tk_5680 (Eq.refl _) (by omega) (by omega) (fun x6 ex6 => ?_)
          replace hF := hF.trans (congrArg (dv_k f_X12_image_17b) (dv_bn (ex6.symm)))
          refine lv_iload_n hx hb dX12_image_33 rfl (lv_at hl 2 rfl) ?_
          refine tr_iadd hx hb dX12_image_34 (Eq.refl _) (Eq.refl _) (by omega) (by omega) (fun x7 ex7 => ?_)
          replace hF := hF.trans (congrArg (dv_k f_X12_image_17b) (dv_bn (ex7.symm)))
          refine lv_aload_n hx hb dX12_image_35 rfl (lv_at hl 0 rfl) ?_
          refine th_getO (j := 2) (r2 := 48) hC cf_X12 hB.1 h0 ro_46 rfl rfl kf_X12_28 dX12_image_36 (fun b8 mb8 hb8 => ?_)
          have sb8 := (th_F_o hB.2.2 h0 ro_46 (j := 2) (by decide) (by decide)).symm.trans mb8
          refine lv_iload_n hx hb dX12_image_39 rfl (lv_at hl 2 rfl) ?_
          refine th_ialdS hC hB.1 hb8 ro_48 rfl (Eq.refl _) (by omega) (by omega) (th_esk1 _) dX12_image_40 (fun x9 mx9 tx9 => ?_)
          have lx9 := ti_lo x9; have ux9 := ti_hi x9
          replace hF := hF.trans (congrArg (dv_k f_X12_image_17b) (dv_bn (dv_aldI hB.1 hU hb8 ow_48 (z := j17_2.toInt) mx9 (by omega))))
          have vgx9 : mo_v G H0 a0 2 j17_2.toInt = x9.toInt := by rw [← (mo_v_F (r := 48) hB.1 hB.2.2 h0 rfl ro_48 (by decide) (by decide) : mo_v G H17 a0 2 = _)]; rw [show (j17_2.toInt : Int) = j17_2.toInt by omega]; exact mo_vat mb8 mx9 (by omega)
          have hIo := hB.1
          refine th_iastF hC hB hb5 (Or.inl hb5) ro_49 rfl (by decide) (Eq.refl _) (by omega) (by omega) (by rw [mo_esi (k := p1.toInt) (i := j17_2.toInt) (by omega) (by omega) (by omega) _ (by omega)]; exact th_sat_m (th_esk1 _) tx9) dX12_image_41 (fun H41 locs hB hf41 hst41 => ?_)
          have hf := hf41
          have mm10 := (th_F_o hf h0 ro_46 (j := 3) (by decide) (by decide)).trans mb5
          have mm11 := (th_F_o hf h0 ro_46 (j := 2) (by decide) (by decide)).trans mb8
          have hR := th_RK_F hB.1 hR h0 hf (th_T_s hb5 ro_49 hst41) (by decide)
          have fv_H41_33 : mo_f G H41 a0 33 = mo_f G H17 a0 33 := mo_f_F hf h0 (by decide) (by decide)
          have vv_H41_2 : mo_v G H41 a0 2 = mo_v G H17 a0 2 := mo_v_F (r := 48) hB.1 hf h0 rfl ro_48 (by decide) (by decide)
          have vv_H41_4 : mo_v G H41 a0 4 = mo_v G H17 a0 4 := mo_v_F (r := 50) hB.1 hf h0 rfl ro_50 (by decide) (by decide)
          have vv_H41_31 : mo_v G H41 a0 31 = mo_v G H17 a0 31 := mo_v_F (r := 61) hB.1 hf h0 rfl ro_61 (by decide) (by decide)
          replace hF := hF.trans (congrArg (dv_k f_X12_image_17b) (dv_bn (dv_stoI hIo hB.1 hU hb5 ow_49 (i := x7.toInt) hst41 (Eq.refl _) (by omega))))
          have vs41 : mo_v G H41 a0 3 = mo_u (mo_v G H17 a0 3) ((5680 * p1.toInt) + j17_2.toInt) x9.toInt := by rw [show (((5680 * p1.toInt) + j17_2.toInt) : Int) = x7.toInt by omega]; exact mo_v_st h0 hb5 (by decide) mb5 hst41 (by omega)
          refine tr_iinc (fun x12 => [(2, .int x12), (0, .ref a0), (1, .int p1)]) hx hb dX12_image_42 hl (k := 2) rfl (Eq.refl _) tk_1 (by omega) (by omega) (by decide) (fun _ => rfl) (fun x12 ls ex12 hl => ?_)
          replace hF := hF.trans (congrArg (dv_k f_X12_image_17b) (dv_bn (ex12.symm)))
          refine lv_goto (tgt := 17) hx hb dX12_image_45 (by decide) ?_
          replace hF := hF.trans (dv_kl)
          exact ih17 H41 locs ls x12 hB hR (lv_sub hl [1, 2, 0] rfl) hF (by omega) (by omega) (fun z => by rw [vs41]; by_cases q9 : z = ((5680 * p1.toInt) + j17_2.toInt); rw [mo_us q9, if_pos (by omega), ← vgx9]; congr 1; omega; rw [mo_un q9, g17_2]; by_cases q8 : 5680 * p1.toInt ≤ z ∧ z < 5680 * p1.toInt + j17_2.toInt; rw [if_pos q8, if_pos (by omega)]; rw [if_neg q8, if_neg (by omega)]) (vv_H41_4.trans g17_3) (by omega)
    exact lp17 ((2147483648 : Int) - (0)).toNat H0 locs ls 0 hB hR (lv_sub hl [1, 2, 0] rfl) (by rw [tk_0]; exact hF) (by decide) (by decide) (fun z => by rw [if_neg (by have w0 := tk_0; omega)]) rfl (by have w0 := tk_0; omega)
  · replace hF := hF.trans (if_neg (not_not_intro c6))
    refine lv_aload_n hx hb dX12_image_9 rfl (lv_at hl 0 rfl) ?_
    refine lv_iconst (v := (-1)) hx hb dX12_image_10 (by decide) ?_
    refine th_call (th_runV (As := [.int (-1)]) (rest := []) hC mf_X12_refuses km_X12_109 im_X12_refuses se_X12_refuses (c_X12_refuses l G Γ H0 hB.1 hR.1 hU a0 h0 (-1) (by decide) (by decide)) rfl rfl ⟨Nat.le_of_ble_eq_true rfl, Nat.le_of_ble_eq_true rfl⟩ hB.1 h0 ro_46 rfl rfl hl.1 rfl (Nat.le_of_ble_eq_true rfl) dX12_image_11 ⟨Nat.le_refl _, Nat.le_refl _⟩) hB.2.1 (fun v11 H11 locs hp hz hS => ?_)
    have hRD := hR
    obtain ⟨x13, rfl, q11_0, hI1, hf, hR, z11_0⟩ := hp
    have hR := th_RN_c hR hRD hI1 h0 hf (by decide)
    have hB := th_B_c hB hI1 hS hf (by decide)
    have fv_H11_33 : mo_f G H11 a0 33 = mo_f G H0 a0 33 := mo_f_F hf h0 (by decide) (by decide)
    have vv_H11_2 : mo_v G H11 a0 2 = mo_v G H0 a0 2 := mo_v_F (r := 48) hB.1 hf h0 rfl ro_48 (by decide) (by decide)
    have vv_H11_3 : mo_v G H11 a0 3 = mo_v G H0 a0 3 := mo_v_F (r := 49) hB.1 hf h0 rfl ro_49 (by decide) (by decide)
    have vv_H11_4 : mo_v G H11 a0 4 = mo_v G H0 a0 4 := mo_v_F (r := 50) hB.1 hf h0 rfl ro_50 (by decide) (by decide)
    have vv_H11_31 : mo_v G H11 a0 31 = mo_v G H0 a0 31 := mo_v_F (r := 61) hB.1 hf h0 rfl ro_61 (by decide) (by decide)
    have w11_0 := tk_m1
    have zf11 := z11_0
    rw [tk_m1] at zf11
    replace hF := hF.trans (dv_bn2 (zf11))
    refine W.eq (g2 := F0 m 14 ls [.int x13]) rfl ?_
    exact th_iret hC hH hr hlocks rfl hB.2.1 ⟨_, rfl, by intros; omega, by intros; omega, hB.1, hB.2.2, hR, (hF0.symm.trans hF)⟩ dX12_image_14

set_option maxHeartbeats 4000000 in
set_option maxRecDepth 100000 in
theorem c_X12_back (l : Launch) (G : th_G) (Γ : th_Ga) (H0 : Heap) (hI : th_I G Γ H0) (hU : dv_U Γ) (a0 : Nat) (h0 : Γ a0 = (46, 0)) (hR : th_RN a0 G Γ H0) (p1 : Int32) : Met l yX12_back (.code yX12_back cX12_back 3 (some FieldType.int) :: th_tb) ({ frames := 2, cells := 0, slots := 0, locals := 42 } : Room) (th_P [.ref a0, .int p1] G H0) (th_Q (fun (v : Option Value) (H1 : Heap) => ∃ r : Int32, v = some (.int r) ∧ th_I G Γ H1 ∧ th_F G Γ [(47, 0), (46, 0), (48, 0), (46, 33)] H0 H1 ∧ th_RN a0 G Γ H1 ∧ (f_X12_back (dv G Γ H0) (a0 : Int) p1.toInt = (dv G Γ H1, r.toInt))) G) 0 0 (fun q => G.2.2 ≤ q) := by
  refine th_met RX12 (by decide) rfl (Nat.le_of_ble_eq_true rfl) ?_
  intro p e s m below meth c hC hH hr hlocks hnm ls hl
  have hx := hC.1
  have hb := hC.2.1
  have hB : th_B G Γ Γ [(47, 0), (46, 0), (48, 0), (46, 33)] H0 H0 [] := ⟨hI, va_S.rf, th_F_rf⟩
  have hl : lv_has ls 3 [(0, .ref a0), (1, .int p1)] := hl
  have lp1 := ti_lo p1; have up1 := ti_hi p1
  obtain ⟨F, hF0⟩ : ∃ F, F = f_X12_back (dv G Γ H0) ((a0 : Int)) (p1.toInt) := ⟨_, rfl⟩
  have hF := hF0.trans (f_X12_back.eq_1 (dv G Γ H0) ((a0 : Int)) (p1.toInt))
  refine lv_iload_n hx hb dX12_back_0 rfl (lv_at hl 1 rfl) ?_
  refine lv_iconst (v := 0) hx hb dX12_back_1 (by decide) ?_
  refine lv_iconst (v := 1) hx hb dX12_back_2 (by decide) ?_
  refine th_call (th_runS (As := [.int p1, .int 0, .int 1]) (rest := []) hC mf_X12_lies km_X12_18 st_X12_lies (c_X12_lies l G Γ H0 hB.1 hU p1 0 1) rfl rfl ⟨Nat.le_of_ble_eq_true rfl, Nat.le_of_ble_eq_true rfl⟩ rfl hl.1 rfl (Nat.le_of_ble_eq_true rfl) dX12_back_3 ⟨Nat.le_refl _, Nat.le_refl _⟩) hB.2.1 (fun v3 H3 locs hp hz hS => ?_)
  obtain ⟨x1, rfl, lx1, ux1, q3_0, q3_1, q3_2, rfl⟩ := hp
  have hB := th_B_s hB hS
  have w3_1 := tk_0
  have w3_2 := tk_1
  have zf3 := q3_2
  rw [tk_0, tk_1] at zf3
  replace hF := hF.trans (dv_bn2 (zf3))
  refine W.eq (g2 := F0 m 6 ls [.int x1]) rfl ?_
  refine tr_if_ne (tgt := 15) hx hb dX12_back_6 (by decide) (Eq.refl _) (fun c6 => ?_) (fun c6 => ?_)
  · replace hF := hF.trans (if_pos c6)
    refine lv_aload_n hx hb dX12_back_15 rfl (lv_at hl 0 rfl) ?_
    refine th_getO (j := 4) (r2 := 50) hC cf_X12 hB.1 h0 ro_46 rfl rfl kf_X12_34 dX12_back_16 (fun b2 mb2 hb2 => ?_)
    refine lv_iload_n hx hb dX12_back_19 rfl (lv_at hl 1 rfl) ?_
    refine th_zaldF hC hB.1 hb2 ro_50 rfl (Eq.refl _) (by omega) (by omega) rfl dX12_back_20 (fun x3 mx3 lx3 ux3 => ?_)
    replace hF := hF.trans (dv_bn (dv_aldI hB.1 hU hb2 ow_50 (z := p1.toInt) mx3 (by omega)))
    have vgx3 : mo_v G H0 a0 4 p1.toInt = x3.toInt := by rw [show (p1.toInt : Int) = p1.toInt by omega]; exact mo_vat mb2 mx3 (by omega)
    refine tr_if_ne (tgt := 31) hx hb dX12_back_21 (by decide) (Eq.refl _) (fun c21 => ?_) (fun c21 => ?_)
    · replace hF := hF.trans (if_pos c21)
      refine lv_iconst (v := 0) hx hb dX12_back_31 (by decide) ?_
      have hR0 := hR
      have hR := hR.1
      have hs1 : mo_v G H0 a0 4 p1.toInt = 1 := by omega
      refine lv_istore_n (lv' := [(2, .int 0), (0, .ref a0), (1, .int p1)]) hx hb dX12_back_32 rfl hl (by decide) rfl (fun ls hl => ?_)
      have lp33 : ∀ (n33 : Nat) (H33 : Heap) (locs : List Loc) (ls : Array Slot) (j33_2 : Int32), th_B G Γ Γ [(47, 0), (46, 0), (48, 0), (46, 33)] H0 H33 locs → th_RC G Γ H33 → lv_has ls 3 [(0, .ref a0), (1, .int p1), (2, .int j33_2)] → F = dv_lp f_X12_back_33b (dv G Γ H33, (a0 : Int), p1.toInt, j33_2.toInt) → 0 ≤ j33_2.toInt → j33_2.toInt ≤ 5680 → (∀ z : Int, 0 ≤ z → mo_v G H33 a0 2 z = if z < j33_2.toInt then mo_v G H0 a0 3 (5680 * p1.toInt + z) else mo_v G H0 a0 2 z) → (2147483648 : Int) - j33_2.toInt ≤ (n33 : Int) → W p l e ({ frames := 2, cells := 0, slots := 0, locals := 42 } : Room) s m ([.ref a0, .int p1] : List Value).toArray below meth c H33 locs 0 0 (MQ below (th_Q (fun (v : Option Value) (H1 : Heap) => ∃ r : Int32, v = some (.int r) ∧ th_I G Γ H1 ∧ th_F G Γ [(47, 0), (46, 0), (48, 0), (46, 33)] H0 H1 ∧ th_RN a0 G Γ H1 ∧ (f_X12_back (dv G Γ H0) (a0 : Int) p1.toInt = (dv G Γ H1, r.toInt))) G) ([.ref a0, .int p1] : List Value).toArray s 0 0 (fun q => G.2.2 ≤ q)) (F0 m 33 ls []) := by
        intro n33
        induction n33 with
        | zero => intro H33 locs ls j33_2 hB hR hl hF g33_0 g33_1 g33_2 hm33; exact absurd hm33 (by have := ti_hi j33_2; omega)
        | succ n33 ih33 =>
          intro H33 locs ls j33_2 hB hR hl hF g33_0 g33_1 g33_2 hm33
          have lj33_2 := ti_lo j33_2; have uj33_2 := ti_hi j33_2
          have vw_H33_3 : mo_v G H33 a0 3 = mo_v G H0 a0 3 := mo_v_F (r := 49) hB.1 hB.2.2 h0 rfl ro_49 (by decide) (by decide)
          have vw_H33_4 : mo_v G H33 a0 4 = mo_v G H0 a0 4 := mo_v_F (r := 50) hB.1 hB.2.2 h0 rfl ro_50 (by decide) (by decide)
          have vw_H33_31 : mo_v G H33 a0 31 = mo_v G H0 a0 31 := mo_v_F (r := 61) hB.1 hB.2.2 h0 rfl ro_61 (by decide) (by decide)
          have hm33 : (2147483648 : Int) - j33_2.toInt ≤ (n33 : Int) + 1 := by omega
          replace hF := hF.trans (dv_lp_eq)
          replace hF := hF.trans (congrArg (dv_k f_X12_back_33b) (f_X12_back_33c.eq_1 (dv G Γ H33) ((a0 : Int)) (p1.toInt) (j33_2.toInt)))
          refine lv_iload_n hx hb dX12_back_33 rfl (lv_at hl 2 rfl) ?_
          refine lv_sipush (v := 5680) hx hb dX12_back_34 (by decide) ?_
          refine tr_icmp_ge (tgt := 64) hx hb dX12_back_37 (by decide) (Eq.refl _) tk_5680 (fun c37 => ?_) (fun c37 => ?_)
          · replace hF := hF.trans (congrArg (dv_k f_X12_back_33b) (if_pos c37))
            refine lv_aload_n hx hb dX12_back_64 rfl (lv_at hl 0 rfl) ?_
            refine lv_iconst (v := 0) hx hb dX12_back_65 (by decide) ?_
            refine th_call (th_runV (As := [.int 0]) (rest := []) hC mf_X12_settled km_X12_112 im_X12_settled se_X12_settled (c_X12_settled l G Γ H33 hB.1 hR hU a0 h0 0) rfl rfl ⟨Nat.le_of_ble_eq_true rfl, Nat.le_of_ble_eq_true rfl⟩ hB.1 h0 ro_46 rfl rfl hl.1 rfl (Nat.le_of_ble_eq_true rfl) dX12_back_66 ⟨Nat.le_refl _, Nat.le_refl _⟩) hB.2.1 (fun v66 H66 locs hp hz hS => ?_)
            obtain ⟨x4, rfl, q66_0, hI1, hf, hR, z66_0, z66_1⟩ := hp
            have hB := th_B_c hB hI1 hS hf (by decide)
            have vv_H66_2 : mo_v G H66 a0 2 = mo_v G H33 a0 2 := mo_v_F (r := 48) hB.1 hf h0 rfl ro_48 (by decide) (by decide)
            have vv_H66_3 : mo_v G H66 a0 3 = mo_v G H33 a0 3 := mo_v_F (r := 49) hB.1 hf h0 rfl ro_49 (by decide) (by decide)
            have vv_H66_4 : mo_v G H66 a0 4 = mo_v G H33 a0 4 := mo_v_F (r := 50) hB.1 hf h0 rfl ro_50 (by decide) (by decide)
            have vv_H66_31 : mo_v G H66 a0 31 = mo_v G H33 a0 31 := mo_v_F (r := 61) hB.1 hf h0 rfl ro_61 (by decide) (by decide)
            have w66_0 := tk_0
            have zf66 := z66_1
            rw [tk_0] at zf66
            replace hF := hF.trans (congrArg (dv_k f_X12_back_33b) (dv_bn2 (zf66)))
            refine W.eq (g2 := F0 m 69 ls [.int x4]) rfl ?_
            have hR : th_RN a0 G Γ H66 := th_ZN ⟨hR, by rw [mo_v_F (j := 3) (r := 49) hB.1 hB.2.2 h0 rfl ro_49 (by decide) (by decide), mo_v_F (j := 4) (r := 50) hB.1 hB.2.2 h0 rfl ro_50 (by decide) (by decide)]; exact ⟨mo_kg_ext (fun i a9 b9 => by rw [vv_H66_2, g33_2 i a9, if_pos (by omega)]) (hR0.2.2.1 p1.toInt (by omega) (by omega) hs1), hR0.2.2.1⟩⟩ z66_0
            replace hF := hF.trans (dv_kr)
            exact th_iret hC hH hr hlocks rfl hB.2.1 ⟨_, rfl, hB.1, hB.2.2, hR, (hF0.symm.trans hF)⟩ dX12_back_69
          · replace hF := hF.trans (congrArg (dv_k f_X12_back_33b) (if_neg (Int.not_le.mpr c37)))
            refine lv_aload_n hx hb dX12_back_40 rfl (lv_at hl 0 rfl) ?_
            refine th_getO (j := 2) (r2 := 48) hC cf_X12 hB.1 h0 ro_46 rfl rfl kf_X12_28 dX12_back_41 (fun b5 mb5 hb5 => ?_)
            have sb5 := (th_F_o hB.2.2 h0 ro_46 (j := 2) (by decide) (by decide)).symm.trans mb5
            refine lv_iload_n hx hb dX12_back_44 rfl (lv_at hl 2 rfl) ?_
            refine lv_aload_n hx hb dX12_back_45 rfl (lv_at hl 0 rfl) ?_
            refine th_getO (j := 3) (r2 := 49) hC cf_X12 hB.1 h0 ro_46 rfl rfl kf_X12_31 dX12_back_46 (fun b6 mb6 hb6 => ?_)
            have sb6 := (th_F_o hB.2.2 h0 ro_46 (j := 3) (by decide) (by decide)).symm.trans mb6
            refine lv_sipush (v := 5680) hx hb dX12_back_49 (by decide) ?_
            refine lv_iload_n hx hb dX12_back_52 rfl (lv_at hl 1 rfl) ?_
            refine tr_imul hx hb dX12_back_53 tk_5680 (Eq.refl _) (by omega) (by omega) (fun x7 ex7 => ?_)
            replace hF := hF.trans (congrArg (dv_k f_X12_back_33b) (dv_bn (ex7.symm)))
            refine lv_iload_n hx hb dX12_back_54 rfl (lv_at hl 2 rfl) ?_
            refine tr_iadd hx hb dX12_back_55 (Eq.refl _) (Eq.refl _) (by omega) (by omega) (fun x8 ex8 => ?_)
            replace hF := hF.trans (congrArg (dv_k f_X12_back_33b) (dv_bn (ex8.symm)))
            refine th_ialdS hC hB.1 hb6 ro_49 rfl (Eq.refl _) (by omega) (by omega) (th_esi1 _) dX12_back_56 (fun x9 mx9 tx9 => ?_)
            have lx9 := ti_lo x9; have ux9 := ti_hi x9
            replace hF := hF.trans (congrArg (dv_k f_X12_back_33b) (dv_bn (dv_aldI hB.1 hU hb6 ow_49 (z := x8.toInt) mx9 (by omega))))
            have vgx9 : mo_v G H0 a0 3 ((5680 * p1.toInt) + j33_2.toInt) = x9.toInt := by rw [← (mo_v_F (r := 49) hB.1 hB.2.2 h0 rfl ro_49 (by decide) (by decide) : mo_v G H33 a0 3 = _)]; rw [show (((5680 * p1.toInt) + j33_2.toInt) : Int) = x8.toInt by omega]; exact mo_vat mb6 mx9 (by omega)
            have hIo := hB.1
            refine th_iastF hC hB hb5 (Or.inl hb5) ro_48 rfl (by decide) (Eq.refl _) (by omega) (by omega) (by rw [← mo_esi (k := p1.toInt) (i := j33_2.toInt) (by omega) (by omega) (by omega) _ rfl]; have q9 := tx9; rw [show x8.toInt = 5680 * p1.toInt + j33_2.toInt by omega] at q9; exact th_sat_m (th_esi1 _) q9) dX12_back_57 (fun H57 locs hB hf57 hst57 => ?_)
            have hf := hf57
            have mm10 := (th_F_o hf h0 ro_46 (j := 2) (by decide) (by decide)).trans mb5
            have mm11 := (th_F_o hf h0 ro_46 (j := 3) (by decide) (by decide)).trans mb6
            have hR := th_RC_F hB.1 hR hf (th_T_s hb5 ro_48 hst57) (by decide)
            have fv_H57_33 : mo_f G H57 a0 33 = mo_f G H33 a0 33 := mo_f_F hf h0 (by decide) (by decide)
            have vv_H57_3 : mo_v G H57 a0 3 = mo_v G H33 a0 3 := mo_v_F (r := 49) hB.1 hf h0 rfl ro_49 (by decide) (by decide)
            have vv_H57_4 : mo_v G H57 a0 4 = mo_v G H33 a0 4 := mo_v_F (r := 50) hB.1 hf h0 rfl ro_50 (by decide) (by decide)
            have vv_H57_31 : mo_v G H57 a0 31 = mo_v G H33 a0 31 := mo_v_F (r := 61) hB.1 hf h0 rfl ro_61 (by decide) (by decide)
            replace hF := hF.trans (congrArg (dv_k f_X12_back_33b) (dv_bn (dv_stoI hIo hB.1 hU hb5 ow_48 (i := j33_2.toInt) hst57 (Eq.refl _) (by omega))))
            have vs57 : mo_v G H57 a0 2 = mo_u (mo_v G H33 a0 2) j33_2.toInt x9.toInt := by rw [show (j33_2.toInt : Int) = j33_2.toInt by omega]; exact mo_v_st h0 hb5 (by decide) mb5 hst57 (by omega)
            refine tr_iinc (fun x12 => [(2, .int x12), (0, .ref a0), (1, .int p1)]) hx hb dX12_back_58 hl (k := 2) rfl (Eq.refl _) tk_1 (by omega) (by omega) (by decide) (fun _ => rfl) (fun x12 ls ex12 hl => ?_)
            replace hF := hF.trans (congrArg (dv_k f_X12_back_33b) (dv_bn (ex12.symm)))
            refine lv_goto (tgt := 33) hx hb dX12_back_61 (by decide) ?_
            replace hF := hF.trans (dv_kl)
            exact ih33 H57 locs ls x12 hB hR (lv_sub hl [1, 2, 0] rfl) hF (by omega) (by omega) (fun z a9 => by rw [vs57]; by_cases q9 : z = j33_2.toInt; rw [mo_us q9, if_pos (by omega), q9, ← vgx9]; rw [mo_un q9, g33_2 z a9]; by_cases q8 : z < j33_2.toInt; rw [if_pos q8, if_pos (by omega)]; rw [if_neg q8, if_neg (by omega)]) (by omega)
      exact lp33 ((2147483648 : Int) - (0)).toNat H0 locs ls 0 hB hR (lv_sub hl [1, 2, 0] rfl) (by rw [tk_0]; exact hF) (by decide) (by decide) (fun z a9 => by rw [if_neg (by have w0 := tk_0; omega)]) (by have w0 := tk_0; omega)
    · replace hF := hF.trans (if_neg (not_not_intro c21))
      refine lv_aload_n hx hb dX12_back_24 rfl (lv_at hl 0 rfl) ?_
      refine lv_bipush (v := (-2)) hx hb dX12_back_25 (by decide) ?_
      refine th_call (th_runV (As := [.int (-2)]) (rest := []) hC mf_X12_refuses km_X12_109 im_X12_refuses se_X12_refuses (c_X12_refuses l G Γ H0 hB.1 hR.1 hU a0 h0 (-2) (by decide) (by decide)) rfl rfl ⟨Nat.le_of_ble_eq_true rfl, Nat.le_of_ble_eq_true rfl⟩ hB.1 h0 ro_46 rfl rfl hl.1 rfl (Nat.le_of_ble_eq_true rfl) dX12_back_27 ⟨Nat.le_refl _, Nat.le_refl _⟩) hB.2.1 (fun v27 H27 locs hp hz hS => ?_)
      have hRD := hR
      obtain ⟨x13, rfl, q27_0, hI1, hf, hR, z27_0⟩ := hp
      have hR := th_RN_c hR hRD hI1 h0 hf (by decide)
      have hB := th_B_c hB hI1 hS hf (by decide)
      have fv_H27_33 : mo_f G H27 a0 33 = mo_f G H0 a0 33 := mo_f_F hf h0 (by decide) (by decide)
      have vv_H27_2 : mo_v G H27 a0 2 = mo_v G H0 a0 2 := mo_v_F (r := 48) hB.1 hf h0 rfl ro_48 (by decide) (by decide)
      have vv_H27_3 : mo_v G H27 a0 3 = mo_v G H0 a0 3 := mo_v_F (r := 49) hB.1 hf h0 rfl ro_49 (by decide) (by decide)
      have vv_H27_4 : mo_v G H27 a0 4 = mo_v G H0 a0 4 := mo_v_F (r := 50) hB.1 hf h0 rfl ro_50 (by decide) (by decide)
      have vv_H27_31 : mo_v G H27 a0 31 = mo_v G H0 a0 31 := mo_v_F (r := 61) hB.1 hf h0 rfl ro_61 (by decide) (by decide)
      have w27_0 := tk_m2
      have zf27 := z27_0
      rw [tk_m2] at zf27
      replace hF := hF.trans (dv_bn2 (zf27))
      refine W.eq (g2 := F0 m 30 ls [.int x13]) rfl ?_
      exact th_iret hC hH hr hlocks rfl hB.2.1 ⟨_, rfl, hB.1, hB.2.2, hR, (hF0.symm.trans hF)⟩ dX12_back_30
  · replace hF := hF.trans (if_neg (not_not_intro c6))
    refine lv_aload_n hx hb dX12_back_9 rfl (lv_at hl 0 rfl) ?_
    refine lv_iconst (v := (-1)) hx hb dX12_back_10 (by decide) ?_
    refine th_call (th_runV (As := [.int (-1)]) (rest := []) hC mf_X12_refuses km_X12_109 im_X12_refuses se_X12_refuses (c_X12_refuses l G Γ H0 hB.1 hR.1 hU a0 h0 (-1) (by decide) (by decide)) rfl rfl ⟨Nat.le_of_ble_eq_true rfl, Nat.le_of_ble_eq_true rfl⟩ hB.1 h0 ro_46 rfl rfl hl.1 rfl (Nat.le_of_ble_eq_true rfl) dX12_back_11 ⟨Nat.le_refl _, Nat.le_refl _⟩) hB.2.1 (fun v11 H11 locs hp hz hS => ?_)
    have hRD := hR
    obtain ⟨x14, rfl, q11_0, hI1, hf, hR, z11_0⟩ := hp
    have hR := th_RN_c hR hRD hI1 h0 hf (by decide)
    have hB := th_B_c hB hI1 hS hf (by decide)
    have fv_H11_33 : mo_f G H11 a0 33 = mo_f G H0 a0 33 := mo_f_F hf h0 (by decide) (by decide)
    have vv_H11_2 : mo_v G H11 a0 2 = mo_v G H0 a0 2 := mo_v_F (r := 48) hB.1 hf h0 rfl ro_48 (by decide) (by decide)
    have vv_H11_3 : mo_v G H11 a0 3 = mo_v G H0 a0 3 := mo_v_F (r := 49) hB.1 hf h0 rfl ro_49 (by decide) (by decide)
    have vv_H11_4 : mo_v G H11 a0 4 = mo_v G H0 a0 4 := mo_v_F (r := 50) hB.1 hf h0 rfl ro_50 (by decide) (by decide)
    have vv_H11_31 : mo_v G H11 a0 31 = mo_v G H0 a0 31 := mo_v_F (r := 61) hB.1 hf h0 rfl ro_61 (by decide) (by decide)
    have w11_0 := tk_m1
    have zf11 := z11_0
    rw [tk_m1] at zf11
    replace hF := hF.trans (dv_bn2 (zf11))
    refine W.eq (g2 := F0 m 14 ls [.int x14]) rfl ?_
    exact th_iret hC hH hr hlocks rfl hB.2.1 ⟨_, rfl, hB.1, hB.2.2, hR, (hF0.symm.trans hF)⟩ dX12_back_14

set_option maxHeartbeats 4000000 in
set_option maxRecDepth 100000 in
theorem c_X12_force (l : Launch) (G : th_G) (Γ : th_Ga) (H0 : Heap) (hI : th_I G Γ H0) (hU : dv_U Γ) (a0 : Nat) (h0 : Γ a0 = (46, 0)) (hR : th_RN a0 G Γ H0) (p1 : Int32) : Met l yX12_force (.code yX12_force cX12_force 3 (some FieldType.int) :: th_tb) ({ frames := 2, cells := 0, slots := 0, locals := 43 } : Room) (th_P [.ref a0, .int p1] G H0) (th_Q (fun (v : Option Value) (H1 : Heap) => ∃ r : Int32, v = some (.int r) ∧ th_I G Γ H1 ∧ th_F G Γ [(47, 0), (46, 0), (48, 0)] H0 H1 ∧ th_RN a0 G Γ H1 ∧ (f_X12_force (dv G Γ H0) (a0 : Int) p1.toInt = (dv G Γ H1, r.toInt))) G) 0 0 (fun q => G.2.2 ≤ q) := by
  refine th_met RX12 (by decide) rfl (Nat.le_of_ble_eq_true rfl) ?_
  intro p e s m below meth c hC hH hr hlocks hnm ls hl
  have hx := hC.1
  have hb := hC.2.1
  have hB : th_B G Γ Γ [(47, 0), (46, 0), (48, 0)] H0 H0 [] := ⟨hI, va_S.rf, th_F_rf⟩
  have hl : lv_has ls 3 [(0, .ref a0), (1, .int p1)] := hl
  have lp1 := ti_lo p1; have up1 := ti_hi p1
  obtain ⟨F, hF0⟩ : ∃ F, F = f_X12_force (dv G Γ H0) ((a0 : Int)) (p1.toInt) := ⟨_, rfl⟩
  have hF := hF0.trans (f_X12_force.eq_1 (dv G Γ H0) ((a0 : Int)) (p1.toInt))
  refine lv_aload_n hx hb dX12_force_0 rfl (lv_at hl 0 rfl) ?_
  refine lv_iload_n hx hb dX12_force_1 rfl (lv_at hl 1 rfl) ?_
  refine th_call (th_runV (As := [.int p1]) (rest := []) hC mf_X12_isLaw km_X12_275 im_X12_isLaw se_X12_isLaw (c_X12_isLaw l G Γ H0 hB.1 hU a0 h0 p1) rfl rfl ⟨Nat.le_of_ble_eq_true rfl, Nat.le_of_ble_eq_true rfl⟩ hB.1 h0 ro_46 rfl rfl hl.1 rfl (Nat.le_of_ble_eq_true rfl) dX12_force_2 ⟨Nat.le_refl _, Nat.le_refl _⟩) hB.2.1 (fun v2 H2 locs hp hz hS => ?_)
  obtain ⟨x1, rfl, lx1, ux1, q2_0, q2_1, rfl⟩ := hp
  have hB := th_B_s hB hS
  replace hF := hF.trans (dv_bn2 (q2_1))
  refine W.eq (g2 := F0 m 5 ls [.int x1]) rfl ?_
  refine tr_if_ne (tgt := 15) hx hb dX12_force_5 (by decide) (Eq.refl _) (fun c5 => ?_) (fun c5 => ?_)
  · replace hF := hF.trans (if_pos c5)
    refine lv_aload_n hx hb dX12_force_15 rfl (lv_at hl 0 rfl) ?_
    refine th_getO (j := 2) (r2 := 48) hC cf_X12 hB.1 h0 ro_46 rfl rfl kf_X12_28 dX12_force_16 (fun b2 mb2 hb2 => ?_)
    refine lv_bipush (v := 72) hx hb dX12_force_19 (by decide) ?_
    refine th_ialdF hC hB.1 hb2 ro_48 rfl tk_72 (by omega) (by omega) (ek_force (by omega) (by omega)) dX12_force_21 (fun x3 mx3 lx3 ux3 => ?_)
    replace hF := hF.trans (dv_bn (dv_aldI hB.1 hU hb2 ow_48 (z := 72) mx3 (by omega)))
    have vgx3 : mo_v G H0 a0 2 72 = x3.toInt := by rw [show (72 : Int) = 72 by omega]; exact mo_vat mb2 mx3 (by omega)
    refine lv_istore_n (lv' := [(2, .int x3), (0, .ref a0), (1, .int p1)]) hx hb dX12_force_22 rfl hl (by decide) rfl (fun ls hl => ?_)
    refine lv_aload_n hx hb dX12_force_23 rfl (lv_at hl 1 rfl) ?_
    refine th_getK hC cf_X12 hB.1 h0 ro_46 rfl (j := 2) (by decide) mb2 kf_X12_28 dX12_force_24 ?_
    refine lv_bipush (v := 72) hx hb dX12_force_27 (by decide) ?_
    refine lv_iload_n hx hb dX12_force_29 rfl (lv_at hl 2 rfl) ?_
    have hIo := hB.1
    refine th_iastF hC hB hb2 (Or.inl hb2) ro_48 rfl (by decide) tk_72 (by omega) (by omega) (by rw [(ek_force (by omega) (by omega))]; exact (th_sI (by omega) (by omega))) dX12_force_30 (fun H30 locs hB hf30 hst30 => ?_)
    have hf := hf30
    have mm4 := (th_F_o hf h0 ro_46 (j := 2) (by decide) (by decide)).trans mb2
    have hRC := th_RC_F hB.1 hR.1 hf (th_T_s hb2 ro_48 hst30) (by decide)
    have fv_H30_33 : mo_f G H30 a0 33 = mo_f G H0 a0 33 := mo_f_F hf h0 (by decide) (by decide)
    have vv_H30_3 : mo_v G H30 a0 3 = mo_v G H0 a0 3 := mo_v_F (r := 49) hB.1 hf h0 rfl ro_49 (by decide) (by decide)
    have vv_H30_4 : mo_v G H30 a0 4 = mo_v G H0 a0 4 := mo_v_F (r := 50) hB.1 hf h0 rfl ro_50 (by decide) (by decide)
    have vv_H30_31 : mo_v G H30 a0 31 = mo_v G H0 a0 31 := mo_v_F (r := 61) hB.1 hf h0 rfl ro_61 (by decide) (by decide)
    replace hF := hF.trans (dv_bn (dv_stoI hIo hB.1 hU hb2 ow_48 (i := 72) hst30 (Eq.refl _) (by omega)))
    have vs30 : mo_v G H30 a0 2 = mo_u (mo_v G H0 a0 2) 72 p1.toInt := by rw [show (72 : Int) = 72 by omega]; exact mo_v_st h0 hb2 (by decide) mb2 hst30 (by omega)
    have hR : th_RN a0 G Γ H30 := ⟨hRC, by rw [vs30, vv_H30_3, vv_H30_4, vv_H30_31, fv_H30_33]; exact mo_ok_f hR.2 (by omega)⟩
    refine lv_aload_n hx hb dX12_force_31 rfl (lv_at hl 1 rfl) ?_
    refine lv_iload_n hx hb dX12_force_32 rfl (lv_at hl 0 rfl) ?_
    refine th_call (th_runV (As := [.int x3]) (rest := []) hC mf_X12_good km_X12_14 im_X12_good se_X12_good (c_X12_good l G Γ H30 hB.1 hR.1 hU a0 h0 x3) rfl rfl ⟨Nat.le_of_ble_eq_true rfl, Nat.le_of_ble_eq_true rfl⟩ hB.1 h0 ro_46 rfl rfl hl.1 rfl (Nat.le_of_ble_eq_true rfl) dX12_force_33 ⟨Nat.le_refl _, Nat.le_refl _⟩) hB.2.1 (fun v33 H33 locs hp hz hS => ?_)
    have hRD := hR
    obtain ⟨x5, rfl, q33_0, hI1, hf, hR, z33_0⟩ := hp
    have hR := th_RN_c hR hRD hI1 h0 hf (by decide)
    have hB := th_B_c hB hI1 hS hf (by decide)
    have mm6 := (th_F_o hf h0 ro_46 (j := 2) (by decide) (by decide)).trans mm4
    have fv_H33_33 : mo_f G H33 a0 33 = mo_f G H30 a0 33 := mo_f_F hf h0 (by decide) (by decide)
    have vv_H33_2 : mo_v G H33 a0 2 = mo_v G H30 a0 2 := mo_v_F (r := 48) hB.1 hf h0 rfl ro_48 (by decide) (by decide)
    have vv_H33_3 : mo_v G H33 a0 3 = mo_v G H30 a0 3 := mo_v_F (r := 49) hB.1 hf h0 rfl ro_49 (by decide) (by decide)
    have vv_H33_4 : mo_v G H33 a0 4 = mo_v G H30 a0 4 := mo_v_F (r := 50) hB.1 hf h0 rfl ro_50 (by decide) (by decide)
    have vv_H33_31 : mo_v G H33 a0 31 = mo_v G H30 a0 31 := mo_v_F (r := 61) hB.1 hf h0 rfl ro_61 (by decide) (by decide)
    replace hF := hF.trans (dv_bn2 (z33_0))
    refine W.eq (g2 := F0 m 36 ls [.int x5]) rfl ?_
    exact th_iret hC hH hr hlocks rfl hB.2.1 ⟨_, rfl, hB.1, hB.2.2, hR, (hF0.symm.trans hF)⟩ dX12_force_36
  · replace hF := hF.trans (if_neg (not_not_intro c5))
    refine lv_aload_n hx hb dX12_force_8 rfl (lv_at hl 0 rfl) ?_
    refine lv_bipush (v := (-2)) hx hb dX12_force_9 (by decide) ?_
    refine th_call (th_runV (As := [.int (-2)]) (rest := []) hC mf_X12_refuses km_X12_109 im_X12_refuses se_X12_refuses (c_X12_refuses l G Γ H0 hB.1 hR.1 hU a0 h0 (-2) (by decide) (by decide)) rfl rfl ⟨Nat.le_of_ble_eq_true rfl, Nat.le_of_ble_eq_true rfl⟩ hB.1 h0 ro_46 rfl rfl hl.1 rfl (Nat.le_of_ble_eq_true rfl) dX12_force_11 ⟨Nat.le_refl _, Nat.le_refl _⟩) hB.2.1 (fun v11 H11 locs hp hz hS => ?_)
    have hRD := hR
    obtain ⟨x7, rfl, q11_0, hI1, hf, hR, z11_0⟩ := hp
    have hR := th_RN_c hR hRD hI1 h0 hf (by decide)
    have hB := th_B_c hB hI1 hS hf (by decide)
    have fv_H11_33 : mo_f G H11 a0 33 = mo_f G H0 a0 33 := mo_f_F hf h0 (by decide) (by decide)
    have vv_H11_2 : mo_v G H11 a0 2 = mo_v G H0 a0 2 := mo_v_F (r := 48) hB.1 hf h0 rfl ro_48 (by decide) (by decide)
    have vv_H11_3 : mo_v G H11 a0 3 = mo_v G H0 a0 3 := mo_v_F (r := 49) hB.1 hf h0 rfl ro_49 (by decide) (by decide)
    have vv_H11_4 : mo_v G H11 a0 4 = mo_v G H0 a0 4 := mo_v_F (r := 50) hB.1 hf h0 rfl ro_50 (by decide) (by decide)
    have vv_H11_31 : mo_v G H11 a0 31 = mo_v G H0 a0 31 := mo_v_F (r := 61) hB.1 hf h0 rfl ro_61 (by decide) (by decide)
    have w11_0 := tk_m2
    have zf11 := z11_0
    rw [tk_m2] at zf11
    replace hF := hF.trans (dv_bn2 (zf11))
    refine W.eq (g2 := F0 m 14 ls [.int x7]) rfl ?_
    exact th_iret hC hH hr hlocks rfl hB.2.1 ⟨_, rfl, hB.1, hB.2.2, hR, (hF0.symm.trans hF)⟩ dX12_force_14

set_option maxHeartbeats 4000000 in
set_option maxRecDepth 100000 in
theorem c_X12_seen (l : Launch) (G : th_G) (Γ : th_Ga) (H0 : Heap) (hI : th_I G Γ H0) (hU : dv_U Γ) (a0 : Nat) (h0 : Γ a0 = (46, 0)) (hR : th_RN a0 G Γ H0) (p1 : Int32) (p2 : Int32) (p3 : Int32) : Met l yX12_seen (.code yX12_seen cX12_seen 5 (some FieldType.int) :: th_tb) ({ frames := 2, cells := 0, slots := 0, locals := 42 } : Room) (th_P [.ref a0, .int p1, .int p2, .int p3] G H0) (th_Q (fun (v : Option Value) (H1 : Heap) => ∃ r : Int32, v = some (.int r) ∧ th_I G Γ H1 ∧ th_F G Γ [(47, 0), (46, 0), (48, 0)] H0 H1 ∧ th_RN a0 G Γ H1 ∧ (f_X12_seen (dv G Γ H0) (a0 : Int) p1.toInt p2.toInt p3.toInt = (dv G Γ H1, r.toInt))) G) 0 0 (fun q => G.2.2 ≤ q) := by
  refine th_met RX12 (by decide) rfl (Nat.le_of_ble_eq_true rfl) ?_
  intro p e s m below meth c hC hH hr hlocks hnm ls hl
  have hx := hC.1
  have hb := hC.2.1
  have hB : th_B G Γ Γ [(47, 0), (46, 0), (48, 0)] H0 H0 [] := ⟨hI, va_S.rf, th_F_rf⟩
  have hl : lv_has ls 5 [(0, .ref a0), (1, .int p1), (2, .int p2), (3, .int p3)] := hl
  have lp1 := ti_lo p1; have up1 := ti_hi p1
  have lp2 := ti_lo p2; have up2 := ti_hi p2
  have lp3 := ti_lo p3; have up3 := ti_hi p3
  obtain ⟨F, hF0⟩ : ∃ F, F = f_X12_seen (dv G Γ H0) ((a0 : Int)) (p1.toInt) (p2.toInt) (p3.toInt) := ⟨_, rfl⟩
  have hF := hF0.trans (f_X12_seen.eq_1 (dv G Γ H0) ((a0 : Int)) (p1.toInt) (p2.toInt) (p3.toInt))
  refine lv_iload_n hx hb dX12_seen_0 rfl (lv_at hl 1 rfl) ?_
  refine th_call (th_runS (As := [.int p1]) (rest := []) hC mf_X12_isAlong km_X12_149 st_X12_isAlong (c_X12_isAlong l G Γ H0 hB.1 hU p1) rfl rfl ⟨Nat.le_of_ble_eq_true rfl, Nat.le_of_ble_eq_true rfl⟩ rfl hl.1 rfl (Nat.le_of_ble_eq_true rfl) dX12_seen_1 ⟨Nat.le_refl _, Nat.le_refl _⟩) hB.2.1 (fun v1 H1 locs hp hz hS => ?_)
  obtain ⟨x1, rfl, lx1, ux1, q1_0, q1_1, rfl⟩ := hp
  have hB := th_B_s hB hS
  replace hF := hF.trans (dv_bn2 (q1_1))
  refine W.eq (g2 := F0 m 4 ls [.int x1]) rfl ?_
  have jn21 : ∀ (locs : List Loc) (ls : Array Slot) , th_B G Γ Γ [(47, 0), (46, 0), (48, 0)] H0 H0 locs → lv_has ls 5 [(0, .ref a0)] → F = f_X12_seen_21 (dv G Γ H0) ((a0 : Int)) → W p l e ({ frames := 2, cells := 0, slots := 0, locals := 42 } : Room) s m ([.ref a0, .int p1, .int p2, .int p3] : List Value).toArray below meth c H0 locs 0 0 (MQ below (th_Q (fun (v : Option Value) (H1 : Heap) => ∃ r : Int32, v = some (.int r) ∧ th_I G Γ H1 ∧ th_F G Γ [(47, 0), (46, 0), (48, 0)] H0 H1 ∧ th_RN a0 G Γ H1 ∧ (f_X12_seen (dv G Γ H0) (a0 : Int) p1.toInt p2.toInt p3.toInt = (dv G Γ H1, r.toInt))) G) ([.ref a0, .int p1, .int p2, .int p3] : List Value).toArray s 0 0 (fun q => G.2.2 ≤ q)) (F0 m 21 ls []) := by
    intro locs ls hB hl hF
    replace hF := hF.trans (f_X12_seen_21.eq_1 (dv G Γ H0) ((a0 : Int)))
    refine lv_aload_n hx hb dX12_seen_21 rfl (lv_at hl 0 rfl) ?_
    refine lv_iconst (v := (-1)) hx hb dX12_seen_22 (by decide) ?_
    refine th_call (th_runV (As := [.int (-1)]) (rest := []) hC mf_X12_refuses km_X12_109 im_X12_refuses se_X12_refuses (c_X12_refuses l G Γ H0 hB.1 hR.1 hU a0 h0 (-1) (by decide) (by decide)) rfl rfl ⟨Nat.le_of_ble_eq_true rfl, Nat.le_of_ble_eq_true rfl⟩ hB.1 h0 ro_46 rfl rfl hl.1 rfl (Nat.le_of_ble_eq_true rfl) dX12_seen_23 ⟨Nat.le_refl _, Nat.le_refl _⟩) hB.2.1 (fun v23 H23 locs hp hz hS => ?_)
    have hRD := hR
    obtain ⟨x2, rfl, q23_0, hI1, hf, hR, z23_0⟩ := hp
    have hR := th_RN_c hR hRD hI1 h0 hf (by decide)
    have hB := th_B_c hB hI1 hS hf (by decide)
    have fv_H23_33 : mo_f G H23 a0 33 = mo_f G H0 a0 33 := mo_f_F hf h0 (by decide) (by decide)
    have vv_H23_2 : mo_v G H23 a0 2 = mo_v G H0 a0 2 := mo_v_F (r := 48) hB.1 hf h0 rfl ro_48 (by decide) (by decide)
    have vv_H23_3 : mo_v G H23 a0 3 = mo_v G H0 a0 3 := mo_v_F (r := 49) hB.1 hf h0 rfl ro_49 (by decide) (by decide)
    have vv_H23_4 : mo_v G H23 a0 4 = mo_v G H0 a0 4 := mo_v_F (r := 50) hB.1 hf h0 rfl ro_50 (by decide) (by decide)
    have vv_H23_31 : mo_v G H23 a0 31 = mo_v G H0 a0 31 := mo_v_F (r := 61) hB.1 hf h0 rfl ro_61 (by decide) (by decide)
    have w23_0 := tk_m1
    have zf23 := z23_0
    rw [tk_m1] at zf23
    replace hF := hF.trans (dv_bn2 (zf23))
    refine W.eq (g2 := F0 m 26 ls [.int x2]) rfl ?_
    exact th_iret hC hH hr hlocks rfl hB.2.1 ⟨_, rfl, hB.1, hB.2.2, hR, (hF0.symm.trans hF)⟩ dX12_seen_26
  refine tr_if_eq (tgt := 21) hx hb dX12_seen_4 (by decide) (Eq.refl _) (fun c4 => ?_) (fun c4 => ?_)
  · replace hF := hF.trans (if_pos c4)
    exact jn21 locs ls hB (lv_sub hl [0] rfl) hF
  · replace hF := hF.trans (if_neg c4)
    refine lv_iload_n hx hb dX12_seen_7 rfl (lv_at hl 2 rfl) ?_
    refine th_call (th_runS (As := [.int p2]) (rest := []) hC mf_X12_isAlong km_X12_149 st_X12_isAlong (c_X12_isAlong l G Γ H0 hB.1 hU p2) rfl rfl ⟨Nat.le_of_ble_eq_true rfl, Nat.le_of_ble_eq_true rfl⟩ rfl hl.1 rfl (Nat.le_of_ble_eq_true rfl) dX12_seen_8 ⟨Nat.le_refl _, Nat.le_refl _⟩) hB.2.1 (fun v8 H8 locs hp hz hS => ?_)
    obtain ⟨x3, rfl, lx3, ux3, q8_0, q8_1, rfl⟩ := hp
    have hB := th_B_s hB hS
    replace hF := hF.trans (dv_bn2 (q8_1))
    refine W.eq (g2 := F0 m 11 ls [.int x3]) rfl ?_
    refine tr_if_eq (tgt := 21) hx hb dX12_seen_11 (by decide) (Eq.refl _) (fun c11 => ?_) (fun c11 => ?_)
    · replace hF := hF.trans (if_pos c11)
      exact jn21 locs ls hB (lv_sub hl [0] rfl) hF
    · replace hF := hF.trans (if_neg c11)
      refine lv_iload_n hx hb dX12_seen_14 rfl (lv_at hl 3 rfl) ?_
      refine th_call (th_runS (As := [.int p3]) (rest := []) hC mf_X12_isSide km_X12_119 st_X12_isSide (c_X12_isSide l G Γ H0 hB.1 hU p3) rfl rfl ⟨Nat.le_of_ble_eq_true rfl, Nat.le_of_ble_eq_true rfl⟩ rfl hl.1 rfl (Nat.le_of_ble_eq_true rfl) dX12_seen_15 ⟨Nat.le_refl _, Nat.le_refl _⟩) hB.2.1 (fun v15 H15 locs hp hz hS => ?_)
      obtain ⟨x4, rfl, lx4, ux4, q15_0, q15_1, rfl⟩ := hp
      have hB := th_B_s hB hS
      replace hF := hF.trans (dv_bn2 (q15_1))
      refine W.eq (g2 := F0 m 18 ls [.int x4]) rfl ?_
      refine tr_if_ne (tgt := 27) hx hb dX12_seen_18 (by decide) (Eq.refl _) (fun c18 => ?_) (fun c18 => ?_)
      · replace hF := hF.trans (if_pos c18)
        refine lv_bipush (v := 47) hx hb dX12_seen_27 (by decide) ?_
        refine lv_iconst (v := 3) hx hb dX12_seen_29 (by decide) ?_
        refine lv_aload_n hx hb dX12_seen_30 rfl (lv_at hl 0 rfl) ?_
        refine th_getO (j := 2) (r2 := 48) hC cf_X12 hB.1 h0 ro_46 rfl rfl kf_X12_28 dX12_seen_31 (fun b5 mb5 hb5 => ?_)
        refine lv_bipush (v := 70) hx hb dX12_seen_34 (by decide) ?_
        refine th_ialdF hC hB.1 hb5 ro_48 rfl tk_70 (by omega) (by omega) (ek_seen (by omega) (by omega)) dX12_seen_36 (fun x6 mx6 lx6 ux6 => ?_)
        replace hF := hF.trans (dv_bn (dv_aldI hB.1 hU hb5 ow_48 (z := 70) mx6 (by omega)))
        have vgx6 : mo_v G H0 a0 2 70 = x6.toInt := by rw [show (70 : Int) = 70 by omega]; exact mo_vat mb5 mx6 (by omega)
        refine tr_imul hx hb dX12_seen_37 tk_3 (Eq.refl _) (by omega) (by omega) (fun x7 ex7 => ?_)
        replace hF := hF.trans (dv_bn (ex7.symm))
        refine tr_iadd hx hb dX12_seen_38 tk_47 (Eq.refl _) (by omega) (by omega) (fun x8 ex8 => ?_)
        replace hF := hF.trans (dv_bn (ex8.symm))
        refine lv_istore (lv' := [(4, .int x8), (0, .ref a0), (1, .int p1), (2, .int p2), (3, .int p3)]) hx hb dX12_seen_39 hl (by decide) rfl (fun ls hl => ?_)
        refine lv_aload_n hx hb dX12_seen_41 rfl (lv_at hl 1 rfl) ?_
        refine th_getK hC cf_X12 hB.1 h0 ro_46 rfl (j := 2) (by decide) mb5 kf_X12_28 dX12_seen_42 ?_
        refine lv_bipush (v := 70) hx hb dX12_seen_45 (by decide) ?_
        refine th_ialdF hC hB.1 hb5 ro_48 rfl tk_70 (by omega) (by omega) (ek_seen (by omega) (by omega)) dX12_seen_47 (fun x9 mx9 lx9 ux9 => ?_)
        replace hF := hF.trans (dv_bn (dv_aldI hB.1 hU hb5 ow_48 (z := 70) mx9 (by omega)))
        have vgx9 : mo_v G H0 a0 2 70 = x9.toInt := by rw [show (70 : Int) = 70 by omega]; exact mo_vat mb5 mx9 (by omega)
        have qx9 : x9.toInt = x6.toInt := by rw [show x9 = x6 from Value.int.inj (mx9.symm.trans mx6)]
        refine lv_bipush (v := 6) hx hb dX12_seen_48 (by decide) ?_
        refine tr_icmp_ne (tgt := 60) hx hb dX12_seen_50 (by decide) (Eq.refl _) tk_6 (fun c50 => ?_) (fun c50 => ?_)
        · replace hF := hF.trans (if_pos c50)
          refine lv_aload_n hx hb dX12_seen_60 rfl (lv_at hl 1 rfl) ?_
          refine th_getK hC cf_X12 hB.1 h0 ro_46 rfl (j := 2) (by decide) mb5 kf_X12_28 dX12_seen_61 ?_
          refine lv_iload hx hb dX12_seen_64 (lv_at hl 0 rfl) ?_
          refine lv_iload_n hx hb dX12_seen_66 rfl (lv_at hl 2 rfl) ?_
          have hIo := hB.1
          refine th_iastF hC hB hb5 (Or.inl hb5) ro_48 rfl (by decide) (Eq.refl _) (by omega) (by omega) (by rw [(ek_b (by omega) (by omega))]; exact th_sIa) dX12_seen_67 (fun H67 locs hB hf67 hst67 => ?_)
          have hf := hf67
          have mm10 := (th_F_o hf h0 ro_46 (j := 2) (by decide) (by decide)).trans mb5
          have hRC := th_RC_F hB.1 hR.1 hf (th_T_s hb5 ro_48 hst67) (by decide)
          have fv_H67_33 : mo_f G H67 a0 33 = mo_f G H0 a0 33 := mo_f_F hf h0 (by decide) (by decide)
          have vv_H67_3 : mo_v G H67 a0 3 = mo_v G H0 a0 3 := mo_v_F (r := 49) hB.1 hf h0 rfl ro_49 (by decide) (by decide)
          have vv_H67_4 : mo_v G H67 a0 4 = mo_v G H0 a0 4 := mo_v_F (r := 50) hB.1 hf h0 rfl ro_50 (by decide) (by decide)
          have vv_H67_31 : mo_v G H67 a0 31 = mo_v G H0 a0 31 := mo_v_F (r := 61) hB.1 hf h0 rfl ro_61 (by decide) (by decide)
          replace hF := hF.trans (dv_bn (dv_stoI hIo hB.1 hU hb5 ow_48 (i := x8.toInt) hst67 (Eq.refl _) (by omega)))
          have vs67 : mo_v G H67 a0 2 = mo_u (mo_v G H0 a0 2) (47 + (3 * x6.toInt)) p1.toInt := by rw [show ((47 + (3 * x6.toInt)) : Int) = x8.toInt by omega]; exact mo_v_st h0 hb5 (by decide) mb5 hst67 (by omega)
          refine lv_aload_n hx hb dX12_seen_68 rfl (lv_at hl 1 rfl) ?_
          refine th_getK hC cf_X12 hB.1 h0 ro_46 rfl (j := 2) (by decide) mm10 kf_X12_28 dX12_seen_69 ?_
          refine lv_iload hx hb dX12_seen_72 (lv_at hl 0 rfl) ?_
          refine lv_iconst (v := 1) hx hb dX12_seen_74 (by decide) ?_
          refine tr_iadd hx hb dX12_seen_75 (Eq.refl _) tk_1 (by omega) (by omega) (fun x11 ex11 => ?_)
          replace hF := hF.trans (dv_bn (ex11.symm))
          refine lv_iload_n hx hb dX12_seen_76 rfl (lv_at hl 3 rfl) ?_
          have hIo := hB.1
          refine th_iastF hC hB hb5 (Or.inl hb5) ro_48 rfl (by decide) (Eq.refl _) (by omega) (by omega) (by rw [(ek_b (by omega) (by omega))]; exact th_sIa) dX12_seen_77 (fun H77 locs hB hf77 hst77 => ?_)
          have hf := hf77
          have mm12 := (th_F_o hf h0 ro_46 (j := 2) (by decide) (by decide)).trans mm10
          have hRC := th_RC_F hB.1 hRC hf (th_T_s hb5 ro_48 hst77) (by decide)
          have fv_H77_33 : mo_f G H77 a0 33 = mo_f G H67 a0 33 := mo_f_F hf h0 (by decide) (by decide)
          have vv_H77_3 : mo_v G H77 a0 3 = mo_v G H67 a0 3 := mo_v_F (r := 49) hB.1 hf h0 rfl ro_49 (by decide) (by decide)
          have vv_H77_4 : mo_v G H77 a0 4 = mo_v G H67 a0 4 := mo_v_F (r := 50) hB.1 hf h0 rfl ro_50 (by decide) (by decide)
          have vv_H77_31 : mo_v G H77 a0 31 = mo_v G H67 a0 31 := mo_v_F (r := 61) hB.1 hf h0 rfl ro_61 (by decide) (by decide)
          replace hF := hF.trans (dv_bn (dv_stoI hIo hB.1 hU hb5 ow_48 (i := x11.toInt) hst77 (Eq.refl _) (by omega)))
          have vs77 : mo_v G H77 a0 2 = mo_u (mo_v G H67 a0 2) ((47 + (3 * x6.toInt)) + 1) p2.toInt := by rw [show (((47 + (3 * x6.toInt)) + 1) : Int) = x11.toInt by omega]; exact mo_v_st h0 hb5 (by decide) mm10 hst77 (by omega)
          refine lv_aload_n hx hb dX12_seen_78 rfl (lv_at hl 1 rfl) ?_
          refine th_getK hC cf_X12 hB.1 h0 ro_46 rfl (j := 2) (by decide) mm12 kf_X12_28 dX12_seen_79 ?_
          refine lv_iload hx hb dX12_seen_82 (lv_at hl 0 rfl) ?_
          refine lv_iconst (v := 2) hx hb dX12_seen_84 (by decide) ?_
          refine tr_iadd hx hb dX12_seen_85 (Eq.refl _) tk_2 (by omega) (by omega) (fun x13 ex13 => ?_)
          replace hF := hF.trans (dv_bn (ex13.symm))
          refine lv_iload_n hx hb dX12_seen_86 rfl (lv_at hl 4 rfl) ?_
          have hIo := hB.1
          refine th_iastF hC hB hb5 (Or.inl hb5) ro_48 rfl (by decide) (Eq.refl _) (by omega) (by omega) (by rw [(ek_b (by omega) (by omega))]; exact th_sIa) dX12_seen_87 (fun H87 locs hB hf87 hst87 => ?_)
          have hf := hf87
          have mm14 := (th_F_o hf h0 ro_46 (j := 2) (by decide) (by decide)).trans mm12
          have hRC := th_RC_F hB.1 hRC hf (th_T_s hb5 ro_48 hst87) (by decide)
          have fv_H87_33 : mo_f G H87 a0 33 = mo_f G H77 a0 33 := mo_f_F hf h0 (by decide) (by decide)
          have vv_H87_3 : mo_v G H87 a0 3 = mo_v G H77 a0 3 := mo_v_F (r := 49) hB.1 hf h0 rfl ro_49 (by decide) (by decide)
          have vv_H87_4 : mo_v G H87 a0 4 = mo_v G H77 a0 4 := mo_v_F (r := 50) hB.1 hf h0 rfl ro_50 (by decide) (by decide)
          have vv_H87_31 : mo_v G H87 a0 31 = mo_v G H77 a0 31 := mo_v_F (r := 61) hB.1 hf h0 rfl ro_61 (by decide) (by decide)
          replace hF := hF.trans (dv_bn (dv_stoI hIo hB.1 hU hb5 ow_48 (i := x13.toInt) hst87 (Eq.refl _) (by omega)))
          have vs87 : mo_v G H87 a0 2 = mo_u (mo_v G H77 a0 2) ((47 + (3 * x6.toInt)) + 2) p3.toInt := by rw [show (((47 + (3 * x6.toInt)) + 2) : Int) = x13.toInt by omega]; exact mo_v_st h0 hb5 (by decide) mm12 hst87 (by omega)
          refine lv_aload_n hx hb dX12_seen_88 rfl (lv_at hl 1 rfl) ?_
          refine th_getK hC cf_X12 hB.1 h0 ro_46 rfl (j := 2) (by decide) mm14 kf_X12_28 dX12_seen_89 ?_
          refine lv_bipush (v := 70) hx hb dX12_seen_92 (by decide) ?_
          refine lv_dup2_11 hx hb dX12_seen_94 rfl rfl ?_
          refine th_ialdF hC hB.1 hb5 ro_48 rfl tk_70 (by omega) (by omega) (ek_seen (by omega) (by omega)) dX12_seen_95 (fun x15 mx15 lx15 ux15 => ?_)
          replace hF := hF.trans (dv_bn (dv_aldI hB.1 hU hb5 ow_48 (z := 70) mx15 (by omega)))
          have vgx15 : mo_v G H87 a0 2 70 = x15.toInt := by rw [show (70 : Int) = 70 by omega]; exact mo_vat mm14 mx15 (by omega)
          have e95 : x15.toInt ≤ 5 := by have q9 := vgx15; rw [vs87, mo_un (by omega), vs77, mo_un (by omega), vs67, mo_un (by omega)] at q9; omega
          refine lv_iconst (v := 1) hx hb dX12_seen_96 (by decide) ?_
          refine tr_iadd hx hb dX12_seen_97 (Eq.refl _) tk_1 (by omega) (by omega) (fun x16 ex16 => ?_)
          replace hF := hF.trans (dv_bn (ex16.symm))
          have hIo := hB.1
          refine th_iastF hC hB hb5 (Or.inl hb5) ro_48 rfl (by decide) tk_70 (by omega) (by omega) (by rw [(ek_seen (by omega) (by omega))]; exact (th_sI (by omega) (by omega))) dX12_seen_98 (fun H98 locs hB hf98 hst98 => ?_)
          have hf := hf98
          have mm17 := (th_F_o hf h0 ro_46 (j := 2) (by decide) (by decide)).trans mm14
          have hRC := th_RC_F hB.1 hRC hf (th_T_s hb5 ro_48 hst98) (by decide)
          have fv_H98_33 : mo_f G H98 a0 33 = mo_f G H87 a0 33 := mo_f_F hf h0 (by decide) (by decide)
          have vv_H98_3 : mo_v G H98 a0 3 = mo_v G H87 a0 3 := mo_v_F (r := 49) hB.1 hf h0 rfl ro_49 (by decide) (by decide)
          have vv_H98_4 : mo_v G H98 a0 4 = mo_v G H87 a0 4 := mo_v_F (r := 50) hB.1 hf h0 rfl ro_50 (by decide) (by decide)
          have vv_H98_31 : mo_v G H98 a0 31 = mo_v G H87 a0 31 := mo_v_F (r := 61) hB.1 hf h0 rfl ro_61 (by decide) (by decide)
          replace hF := hF.trans (dv_bn (dv_stoI hIo hB.1 hU hb5 ow_48 (i := 70) hst98 (Eq.refl _) (by omega)))
          have vs98 : mo_v G H98 a0 2 = mo_u (mo_v G H87 a0 2) 70 x16.toInt := by rw [show (70 : Int) = 70 by omega]; exact mo_v_st h0 hb5 (by decide) mm14 hst98 (by omega)
          have hR : th_RN a0 G Γ H98 := ⟨hRC, by rw [vs98, vs87, vs77, vs67, vv_H98_3, vv_H87_3, vv_H77_3, vv_H67_3, vv_H98_4, vv_H87_4, vv_H77_4, vv_H67_4, vv_H98_31, vv_H87_31, vv_H77_31, vv_H67_31, fv_H98_33, fv_H87_33, fv_H77_33, fv_H67_33]; exact (mo_ok_u (mo_ok_u (mo_ok_u (mo_ok_u hR.2 (by omega)) (by omega)) (by omega)) (by omega))⟩
          refine lv_aload_n hx hb dX12_seen_99 rfl (lv_at hl 1 rfl) ?_
          refine lv_aload_n hx hb dX12_seen_100 rfl (lv_at hl 1 rfl) ?_
          refine th_getK hC cf_X12 hB.1 h0 ro_46 rfl (j := 2) (by decide) mm17 kf_X12_28 dX12_seen_101 ?_
          refine lv_bipush (v := 70) hx hb dX12_seen_104 (by decide) ?_
          refine th_ialdF hC hB.1 hb5 ro_48 rfl tk_70 (by omega) (by omega) (ek_seen (by omega) (by omega)) dX12_seen_106 (fun x18 mx18 lx18 ux18 => ?_)
          replace hF := hF.trans (dv_bn (dv_aldI hB.1 hU hb5 ow_48 (z := 70) mx18 (by omega)))
          have vgx18 : mo_v G H98 a0 2 70 = x18.toInt := by rw [show (70 : Int) = 70 by omega]; exact mo_vat mm17 mx18 (by omega)
          refine th_call (th_runV (As := [.int x18]) (rest := []) hC mf_X12_good km_X12_14 im_X12_good se_X12_good (c_X12_good l G Γ H98 hB.1 hR.1 hU a0 h0 x18) rfl rfl ⟨Nat.le_of_ble_eq_true rfl, Nat.le_of_ble_eq_true rfl⟩ hB.1 h0 ro_46 rfl rfl hl.1 rfl (Nat.le_of_ble_eq_true rfl) dX12_seen_107 ⟨Nat.le_refl _, Nat.le_refl _⟩) hB.2.1 (fun v107 H107 locs hp hz hS => ?_)
          have hRD := hR
          obtain ⟨x19, rfl, q107_0, hI1, hf, hR, z107_0⟩ := hp
          have hR := th_RN_c hR hRD hI1 h0 hf (by decide)
          have hB := th_B_c hB hI1 hS hf (by decide)
          have mm20 := (th_F_o hf h0 ro_46 (j := 2) (by decide) (by decide)).trans mm17
          have fv_H107_33 : mo_f G H107 a0 33 = mo_f G H98 a0 33 := mo_f_F hf h0 (by decide) (by decide)
          have vv_H107_2 : mo_v G H107 a0 2 = mo_v G H98 a0 2 := mo_v_F (r := 48) hB.1 hf h0 rfl ro_48 (by decide) (by decide)
          have vv_H107_3 : mo_v G H107 a0 3 = mo_v G H98 a0 3 := mo_v_F (r := 49) hB.1 hf h0 rfl ro_49 (by decide) (by decide)
          have vv_H107_4 : mo_v G H107 a0 4 = mo_v G H98 a0 4 := mo_v_F (r := 50) hB.1 hf h0 rfl ro_50 (by decide) (by decide)
          have vv_H107_31 : mo_v G H107 a0 31 = mo_v G H98 a0 31 := mo_v_F (r := 61) hB.1 hf h0 rfl ro_61 (by decide) (by decide)
          replace hF := hF.trans (dv_bn2 (z107_0))
          refine W.eq (g2 := F0 m 110 ls [.int x19]) rfl ?_
          exact th_iret hC hH hr hlocks rfl hB.2.1 ⟨_, rfl, hB.1, hB.2.2, hR, (hF0.symm.trans hF)⟩ dX12_seen_110
        · replace hF := hF.trans (if_neg (not_not_intro c50))
          refine lv_aload_n hx hb dX12_seen_53 rfl (lv_at hl 1 rfl) ?_
          refine lv_bipush (v := (-5)) hx hb dX12_seen_54 (by decide) ?_
          refine th_call (th_runV (As := [.int (-5)]) (rest := []) hC mf_X12_refuses km_X12_109 im_X12_refuses se_X12_refuses (c_X12_refuses l G Γ H0 hB.1 hR.1 hU a0 h0 (-5) (by decide) (by decide)) rfl rfl ⟨Nat.le_of_ble_eq_true rfl, Nat.le_of_ble_eq_true rfl⟩ hB.1 h0 ro_46 rfl rfl hl.1 rfl (Nat.le_of_ble_eq_true rfl) dX12_seen_56 ⟨Nat.le_refl _, Nat.le_refl _⟩) hB.2.1 (fun v56 H56 locs hp hz hS => ?_)
          have hRD := hR
          obtain ⟨x21, rfl, q56_0, hI1, hf, hR, z56_0⟩ := hp
          have hR := th_RN_c hR hRD hI1 h0 hf (by decide)
          have hB := th_B_c hB hI1 hS hf (by decide)
          have mm22 := (th_F_o hf h0 ro_46 (j := 2) (by decide) (by decide)).trans mb5
          have fv_H56_33 : mo_f G H56 a0 33 = mo_f G H0 a0 33 := mo_f_F hf h0 (by decide) (by decide)
          have vv_H56_2 : mo_v G H56 a0 2 = mo_v G H0 a0 2 := mo_v_F (r := 48) hB.1 hf h0 rfl ro_48 (by decide) (by decide)
          have vv_H56_3 : mo_v G H56 a0 3 = mo_v G H0 a0 3 := mo_v_F (r := 49) hB.1 hf h0 rfl ro_49 (by decide) (by decide)
          have vv_H56_4 : mo_v G H56 a0 4 = mo_v G H0 a0 4 := mo_v_F (r := 50) hB.1 hf h0 rfl ro_50 (by decide) (by decide)
          have vv_H56_31 : mo_v G H56 a0 31 = mo_v G H0 a0 31 := mo_v_F (r := 61) hB.1 hf h0 rfl ro_61 (by decide) (by decide)
          have w56_0 := tk_m5
          have zf56 := z56_0
          rw [tk_m5] at zf56
          replace hF := hF.trans (dv_bn2 (zf56))
          refine W.eq (g2 := F0 m 59 ls [.int x21]) rfl ?_
          exact th_iret hC hH hr hlocks rfl hB.2.1 ⟨_, rfl, hB.1, hB.2.2, hR, (hF0.symm.trans hF)⟩ dX12_seen_59
      · replace hF := hF.trans (if_neg (not_not_intro c18))
        exact jn21 locs ls hB (lv_sub hl [0] rfl) hF

set_option maxHeartbeats 4000000 in
set_option maxRecDepth 100000 in
theorem c_X12_forget (l : Launch) (G : th_G) (Γ : th_Ga) (H0 : Heap) (hI : th_I G Γ H0) (hU : dv_U Γ) (a0 : Nat) (h0 : Γ a0 = (46, 0)) (hR : th_RN a0 G Γ H0) : Met l yX12_forget (.code yX12_forget cX12_forget 2 (some FieldType.int) :: th_tb) ({ frames := 0, cells := 0, slots := 0, locals := 0 } : Room) (th_P [.ref a0] G H0) (th_Q (fun (v : Option Value) (H1 : Heap) => ∃ r : Int32, v = some (.int r) ∧ th_I G Γ H1 ∧ th_F G Γ [(48, 0)] H0 H1 ∧ th_RN a0 G Γ H1 ∧ (f_X12_forget (dv G Γ H0) (a0 : Int) = (dv G Γ H1, r.toInt))) G) 0 0 (fun q => G.2.2 ≤ q) := by
  refine th_met RX12 (by decide) rfl (Nat.le_of_ble_eq_true rfl) ?_
  intro p e s m below meth c hC hH hr hlocks hnm ls hl
  have hx := hC.1
  have hb := hC.2.1
  have hB : th_B G Γ Γ [(48, 0)] H0 H0 [] := ⟨hI, va_S.rf, th_F_rf⟩
  have hl : lv_has ls 2 [(0, .ref a0)] := hl
  obtain ⟨F, hF0⟩ : ∃ F, F = f_X12_forget (dv G Γ H0) ((a0 : Int)) := ⟨_, rfl⟩
  have hF := hF0.trans (f_X12_forget.eq_1 (dv G Γ H0) ((a0 : Int)))
  refine lv_aload_n hx hb dX12_forget_0 rfl (lv_at hl 0 rfl) ?_
  refine th_getO (j := 2) (r2 := 48) hC cf_X12 hB.1 h0 ro_46 rfl rfl kf_X12_28 dX12_forget_1 (fun b1 mb1 hb1 => ?_)
  refine lv_bipush (v := 70) hx hb dX12_forget_4 (by decide) ?_
  refine th_ialdF hC hB.1 hb1 ro_48 rfl tk_70 (by omega) (by omega) (ek_seen (by omega) (by omega)) dX12_forget_6 (fun x2 mx2 lx2 ux2 => ?_)
  replace hF := hF.trans (dv_bn (dv_aldI hB.1 hU hb1 ow_48 (z := 70) mx2 (by omega)))
  have vgx2 : mo_v G H0 a0 2 70 = x2.toInt := by rw [show (70 : Int) = 70 by omega]; exact mo_vat mb1 mx2 (by omega)
  refine lv_istore_n (lv' := [(1, .int x2), (0, .ref a0)]) hx hb dX12_forget_7 rfl hl (by decide) rfl (fun ls hl => ?_)
  refine lv_aload_n hx hb dX12_forget_8 rfl (lv_at hl 1 rfl) ?_
  refine th_getK hC cf_X12 hB.1 h0 ro_46 rfl (j := 2) (by decide) mb1 kf_X12_28 dX12_forget_9 ?_
  refine lv_bipush (v := 70) hx hb dX12_forget_12 (by decide) ?_
  refine lv_iconst (v := 0) hx hb dX12_forget_14 (by decide) ?_
  have hIo := hB.1
  refine th_iastF hC hB hb1 (Or.inl hb1) ro_48 rfl (by decide) tk_70 (by omega) (by omega) (by rw [(ek_seen (by omega) (by omega))]; exact (th_sI (by decide) (by decide))) dX12_forget_15 (fun H15 locs hB hf15 hst15 => ?_)
  have hf := hf15
  have mm3 := (th_F_o hf h0 ro_46 (j := 2) (by decide) (by decide)).trans mb1
  have hRC := th_RC_F hB.1 hR.1 hf (th_T_s hb1 ro_48 hst15) (by decide)
  have fv_H15_33 : mo_f G H15 a0 33 = mo_f G H0 a0 33 := mo_f_F hf h0 (by decide) (by decide)
  have vv_H15_3 : mo_v G H15 a0 3 = mo_v G H0 a0 3 := mo_v_F (r := 49) hB.1 hf h0 rfl ro_49 (by decide) (by decide)
  have vv_H15_4 : mo_v G H15 a0 4 = mo_v G H0 a0 4 := mo_v_F (r := 50) hB.1 hf h0 rfl ro_50 (by decide) (by decide)
  have vv_H15_31 : mo_v G H15 a0 31 = mo_v G H0 a0 31 := mo_v_F (r := 61) hB.1 hf h0 rfl ro_61 (by decide) (by decide)
  replace hF := hF.trans (dv_bn (dv_stoI hIo hB.1 hU hb1 ow_48 (i := 70) hst15 tk_0 (by omega)))
  have vs15 : mo_v G H15 a0 2 = mo_u (mo_v G H0 a0 2) 70 0 := by rw [show (70 : Int) = 70 by omega]; exact mo_v_st h0 hb1 (by decide) mb1 hst15 (by omega)
  have hR : th_RN a0 G Γ H15 := ⟨hRC, by rw [vs15, vv_H15_3, vv_H15_4, vv_H15_31, fv_H15_33]; exact mo_ok_u hR.2 (by omega)⟩
  refine lv_iload_n hx hb dX12_forget_16 rfl (lv_at hl 0 rfl) ?_
  exact th_iret hC hH hr hlocks rfl hB.2.1 ⟨_, rfl, hB.1, hB.2.2, hR, (hF0.symm.trans hF)⟩ dX12_forget_17

set_option maxHeartbeats 4000000 in
set_option maxRecDepth 100000 in
theorem c_X12_laysAside (l : Launch) (G : th_G) (Γ : th_Ga) (H0 : Heap) (hI : th_I G Γ H0) (hR : th_RC G Γ H0) (hU : dv_U Γ) (a0 : Nat) (h0 : Γ a0 = (46, 0)) (p1 : Int32) (f1 : 0 ≤ p1.toInt) (g1 : p1.toInt ≤ 1) : Met l yX12_laysAside (.code yX12_laysAside cX12_laysAside 3 (none) :: th_tb) ({ frames := 0, cells := 0, slots := 0, locals := 0 } : Room) (th_P [.ref a0, .int p1] G H0) (th_Q (fun (v : Option Value) (H1 : Heap) => v = none ∧ th_I G Γ H1 ∧ th_F G Γ [(51, 0)] H0 H1 ∧ th_RC G Γ H1 ∧ (∀ i : Int, 0 ≤ i → i < 29 → mo_v G H1 a0 5 (29 * p1.toInt + i) = mo_v G H0 a0 2 i) ∧ (f_X12_laysAside (dv G Γ H0) (a0 : Int) p1.toInt = (dv G Γ H1, 0))) G) 0 0 (fun q => G.2.2 ≤ q) := by
  refine th_met RX12 (by decide) rfl (Nat.le_of_ble_eq_true rfl) ?_
  intro p e s m below meth c hC hH hr hlocks hnm ls hl
  have hx := hC.1
  have hb := hC.2.1
  have hB : th_B G Γ Γ [(51, 0)] H0 H0 [] := ⟨hI, va_S.rf, th_F_rf⟩
  have hl : lv_has ls 3 [(0, .ref a0), (1, .int p1)] := hl
  have lp1 := ti_lo p1; have up1 := ti_hi p1
  obtain ⟨F, hF0⟩ : ∃ F, F = f_X12_laysAside (dv G Γ H0) ((a0 : Int)) (p1.toInt) := ⟨_, rfl⟩
  have hF := hF0.trans (f_X12_laysAside.eq_1 (dv G Γ H0) ((a0 : Int)) (p1.toInt))
  refine lv_iconst (v := 0) hx hb dX12_laysAside_0 (by decide) ?_
  refine lv_istore_n (lv' := [(2, .int 0), (0, .ref a0), (1, .int p1)]) hx hb dX12_laysAside_1 rfl hl (by decide) rfl (fun ls hl => ?_)
  have lp2 : ∀ (n2 : Nat) (H2 : Heap) (locs : List Loc) (ls : Array Slot) (j2_2 : Int32), th_B G Γ Γ [(51, 0)] H0 H2 locs → th_RC G Γ H2 → lv_has ls 3 [(0, .ref a0), (1, .int p1), (2, .int j2_2)] → F = dv_lp f_X12_laysAside_2b (dv G Γ H2, (a0 : Int), p1.toInt, j2_2.toInt) → 0 ≤ j2_2.toInt → j2_2.toInt ≤ 29 → (∀ i : Int, 0 ≤ i → i < j2_2.toInt → mo_v G H2 a0 5 (29 * p1.toInt + i) = mo_v G H0 a0 2 i) → (2147483648 : Int) - j2_2.toInt ≤ (n2 : Int) → W p l e ({ frames := 0, cells := 0, slots := 0, locals := 0 } : Room) s m ([.ref a0, .int p1] : List Value).toArray below meth c H2 locs 0 0 (MQ below (th_Q (fun (v : Option Value) (H1 : Heap) => v = none ∧ th_I G Γ H1 ∧ th_F G Γ [(51, 0)] H0 H1 ∧ th_RC G Γ H1 ∧ (∀ i : Int, 0 ≤ i → i < 29 → mo_v G H1 a0 5 (29 * p1.toInt + i) = mo_v G H0 a0 2 i) ∧ (f_X12_laysAside (dv G Γ H0) (a0 : Int) p1.toInt = (dv G Γ H1, 0))) G) ([.ref a0, .int p1] : List Value).toArray s 0 0 (fun q => G.2.2 ≤ q)) (F0 m 2 ls []) := by
    intro n2
    induction n2 with
    | zero => intro H2 locs ls j2_2 hB hR hl hF g2_0 g2_1 g2_2 hm2; exact absurd hm2 (by have := ti_hi j2_2; omega)
    | succ n2 ih2 =>
      intro H2 locs ls j2_2 hB hR hl hF g2_0 g2_1 g2_2 hm2
      have lj2_2 := ti_lo j2_2; have uj2_2 := ti_hi j2_2
      have vw_H2_2 : mo_v G H2 a0 2 = mo_v G H0 a0 2 := mo_v_F (r := 48) hB.1 hB.2.2 h0 rfl ro_48 (by decide) (by decide)
      have hm2 : (2147483648 : Int) - j2_2.toInt ≤ (n2 : Int) + 1 := by omega
      replace hF := hF.trans (dv_lp_eq)
      replace hF := hF.trans (congrArg (dv_k f_X12_laysAside_2b) (f_X12_laysAside_2c.eq_1 (dv G Γ H2) ((a0 : Int)) (p1.toInt) (j2_2.toInt)))
      refine lv_iload_n hx hb dX12_laysAside_2 rfl (lv_at hl 2 rfl) ?_
      refine lv_bipush (v := 29) hx hb dX12_laysAside_3 (by decide) ?_
      refine tr_icmp_ge (tgt := 31) hx hb dX12_laysAside_5 (by decide) (Eq.refl _) tk_29 (fun c5 => ?_) (fun c5 => ?_)
      · replace hF := hF.trans (congrArg (dv_k f_X12_laysAside_2b) (if_pos c5))
        replace hF := hF.trans (dv_kr)
        exact th_vret hC hH hr hlocks hB.2.1 ⟨rfl, hB.1, hB.2.2, hR, fun i a9 b9 => g2_2 i a9 (by omega), (hF0.symm.trans hF)⟩ dX12_laysAside_31
      · replace hF := hF.trans (congrArg (dv_k f_X12_laysAside_2b) (if_neg (Int.not_le.mpr c5)))
        refine lv_aload_n hx hb dX12_laysAside_8 rfl (lv_at hl 0 rfl) ?_
        refine th_getO (j := 5) (r2 := 51) hC cf_X12 hB.1 h0 ro_46 rfl rfl kf_X12_38 dX12_laysAside_9 (fun b1 mb1 hb1 => ?_)
        have sb1 := (th_F_o hB.2.2 h0 ro_46 (j := 5) (by decide) (by decide)).symm.trans mb1
        refine lv_bipush (v := 29) hx hb dX12_laysAside_12 (by decide) ?_
        refine lv_iload_n hx hb dX12_laysAside_14 rfl (lv_at hl 1 rfl) ?_
        refine tr_imul hx hb dX12_laysAside_15 tk_29 (Eq.refl _) (by omega) (by omega) (fun x2 ex2 => ?_)
        replace hF := hF.trans (congrArg (dv_k f_X12_laysAside_2b) (dv_bn (ex2.symm)))
        refine lv_iload_n hx hb dX12_laysAside_16 rfl (lv_at hl 2 rfl) ?_
        refine tr_iadd hx hb dX12_laysAside_17 (Eq.refl _) (Eq.refl _) (by omega) (by omega) (fun x3 ex3 => ?_)
        replace hF := hF.trans (congrArg (dv_k f_X12_laysAside_2b) (dv_bn (ex3.symm)))
        refine lv_aload_n hx hb dX12_laysAside_18 rfl (lv_at hl 0 rfl) ?_
        refine th_getO (j := 2) (r2 := 48) hC cf_X12 hB.1 h0 ro_46 rfl rfl kf_X12_28 dX12_laysAside_19 (fun b4 mb4 hb4 => ?_)
        have sb4 := (th_F_o hB.2.2 h0 ro_46 (j := 2) (by decide) (by decide)).symm.trans mb4
        refine lv_iload_n hx hb dX12_laysAside_22 rfl (lv_at hl 2 rfl) ?_
        refine th_ialdF hC hB.1 hb4 ro_48 rfl (Eq.refl _) (by omega) (by omega) (ek_a (by omega) (by omega)) dX12_laysAside_23 (fun x5 mx5 lx5 ux5 => ?_)
        replace hF := hF.trans (congrArg (dv_k f_X12_laysAside_2b) (dv_bn (dv_aldI hB.1 hU hb4 ow_48 (z := j2_2.toInt) mx5 (by omega))))
        have vgx5 : mo_v G H0 a0 2 j2_2.toInt = x5.toInt := by rw [← (mo_v_F (r := 48) hB.1 hB.2.2 h0 rfl ro_48 (by decide) (by decide) : mo_v G H2 a0 2 = _)]; rw [show (j2_2.toInt : Int) = j2_2.toInt by omega]; exact mo_vat mb4 mx5 (by omega)
        have hIo := hB.1
        refine th_iastF hC hB hb1 (Or.inl hb1) ro_51 rfl (by decide) (Eq.refl _) (by omega) (by omega) th_sIa dX12_laysAside_24 (fun H24 locs hB hf24 hst24 => ?_)
        have hf := hf24
        have mm6 := (th_F_o hf h0 ro_46 (j := 5) (by decide) (by decide)).trans mb1
        have mm7 := (th_F_o hf h0 ro_46 (j := 2) (by decide) (by decide)).trans mb4
        have hR := th_RC_F hB.1 hR hf (th_T_s hb1 ro_51 hst24) (by decide)
        have vv_H24_2 : mo_v G H24 a0 2 = mo_v G H2 a0 2 := mo_v_F (r := 48) hB.1 hf h0 rfl ro_48 (by decide) (by decide)
        replace hF := hF.trans (congrArg (dv_k f_X12_laysAside_2b) (dv_bn (dv_stoI hIo hB.1 hU hb1 ow_51 (i := x3.toInt) hst24 (Eq.refl _) (by omega))))
        have vs24 : mo_v G H24 a0 5 = mo_u (mo_v G H2 a0 5) ((29 * p1.toInt) + j2_2.toInt) x5.toInt := by rw [show (((29 * p1.toInt) + j2_2.toInt) : Int) = x3.toInt by omega]; exact mo_v_st h0 hb1 (by decide) mb1 hst24 (by omega)
        refine tr_iinc (fun x8 => [(2, .int x8), (0, .ref a0), (1, .int p1)]) hx hb dX12_laysAside_25 hl (k := 2) rfl (Eq.refl _) tk_1 (by omega) (by omega) (by decide) (fun _ => rfl) (fun x8 ls ex8 hl => ?_)
        replace hF := hF.trans (congrArg (dv_k f_X12_laysAside_2b) (dv_bn (ex8.symm)))
        refine lv_goto (tgt := 2) hx hb dX12_laysAside_28 (by decide) ?_
        replace hF := hF.trans (dv_kl)
        exact ih2 H24 locs ls x8 hB hR (lv_sub hl [1, 2, 0] rfl) hF (by omega) (by omega) (fun i a9 b9 => by rw [vs24]; by_cases q9 : i = j2_2.toInt; rw [mo_us (by omega), q9, ← vgx5]; rw [mo_un (by omega)]; exact g2_2 i a9 (by omega)) (by omega)
  exact lp2 ((2147483648 : Int) - (0)).toNat H0 [] ls 0 hB hR (lv_sub hl [1, 2, 0] rfl) (by rw [tk_0]; exact hF) (by decide) (by decide) (fun i a9 b9 => by have w0 := tk_0; omega) (by have w0 := tk_0; omega)

set_option maxHeartbeats 4000000 in
set_option maxRecDepth 100000 in
theorem c_X12_takesBack (l : Launch) (G : th_G) (Γ : th_Ga) (H0 : Heap) (hI : th_I G Γ H0) (hU : dv_U Γ) (a0 : Nat) (h0 : Γ a0 = (46, 0)) (hR : th_RE a0 G Γ H0) (p1 : Int32) (f1 : 0 ≤ p1.toInt) (g1 : p1.toInt ≤ 1) : Met l yX12_takesBack (.code yX12_takesBack cX12_takesBack 3 (none) :: th_tb) ({ frames := 0, cells := 0, slots := 0, locals := 0 } : Room) (th_P [.ref a0, .int p1] G H0) (th_Q (fun (v : Option Value) (H1 : Heap) => v = none ∧ th_I G Γ H1 ∧ th_F G Γ [(48, 0)] H0 H1 ∧ th_RE a0 G Γ H1 ∧ (∀ i : Int, mo_v G H1 a0 2 i = if 0 ≤ i ∧ i < 29 then mo_v G H0 a0 5 (29 * p1.toInt + i) else mo_v G H0 a0 2 i) ∧ (f_X12_takesBack (dv G Γ H0) (a0 : Int) p1.toInt = (dv G Γ H1, 0))) G) 0 0 (fun q => G.2.2 ≤ q) := by
  refine th_met RX12 (by decide) rfl (Nat.le_of_ble_eq_true rfl) ?_
  intro p e s m below meth c hC hH hr hlocks hnm ls hl
  have hx := hC.1
  have hb := hC.2.1
  have hB : th_B G Γ Γ [(48, 0)] H0 H0 [] := ⟨hI, va_S.rf, th_F_rf⟩
  have hl : lv_has ls 3 [(0, .ref a0), (1, .int p1)] := hl
  have lp1 := ti_lo p1; have up1 := ti_hi p1
  obtain ⟨F, hF0⟩ : ∃ F, F = f_X12_takesBack (dv G Γ H0) ((a0 : Int)) (p1.toInt) := ⟨_, rfl⟩
  have hF := hF0.trans (f_X12_takesBack.eq_1 (dv G Γ H0) ((a0 : Int)) (p1.toInt))
  refine lv_iconst (v := 0) hx hb dX12_takesBack_0 (by decide) ?_
  refine lv_istore_n (lv' := [(2, .int 0), (0, .ref a0), (1, .int p1)]) hx hb dX12_takesBack_1 rfl hl (by decide) rfl (fun ls hl => ?_)
  have lp2 : ∀ (n2 : Nat) (H2 : Heap) (locs : List Loc) (ls : Array Slot) (j2_2 : Int32), th_B G Γ Γ [(48, 0)] H0 H2 locs → th_RE a0 G Γ H2 → lv_has ls 3 [(0, .ref a0), (1, .int p1), (2, .int j2_2)] → F = dv_lp f_X12_takesBack_2b (dv G Γ H2, (a0 : Int), p1.toInt, j2_2.toInt) → 0 ≤ j2_2.toInt → j2_2.toInt ≤ 29 → (∀ i : Int, mo_v G H2 a0 2 i = if 0 ≤ i ∧ i < j2_2.toInt then mo_v G H0 a0 5 (29 * p1.toInt + i) else mo_v G H0 a0 2 i) → (2147483648 : Int) - j2_2.toInt ≤ (n2 : Int) → W p l e ({ frames := 0, cells := 0, slots := 0, locals := 0 } : Room) s m ([.ref a0, .int p1] : List Value).toArray below meth c H2 locs 0 0 (MQ below (th_Q (fun (v : Option Value) (H1 : Heap) => v = none ∧ th_I G Γ H1 ∧ th_F G Γ [(48, 0)] H0 H1 ∧ th_RE a0 G Γ H1 ∧ (∀ i : Int, mo_v G H1 a0 2 i = if 0 ≤ i ∧ i < 29 then mo_v G H0 a0 5 (29 * p1.toInt + i) else mo_v G H0 a0 2 i) ∧ (f_X12_takesBack (dv G Γ H0) (a0 : Int) p1.toInt = (dv G Γ H1, 0))) G) ([.ref a0, .int p1] : List Value).toArray s 0 0 (fun q => G.2.2 ≤ q)) (F0 m 2 ls []) := by
    intro n2
    induction n2 with
    | zero => intro H2 locs ls j2_2 hB hR hl hF g2_0 g2_1 g2_2 hm2; exact absurd hm2 (by have := ti_hi j2_2; omega)
    | succ n2 ih2 =>
      intro H2 locs ls j2_2 hB hR hl hF g2_0 g2_1 g2_2 hm2
      have lj2_2 := ti_lo j2_2; have uj2_2 := ti_hi j2_2
      have vw_H2_5 : mo_v G H2 a0 5 = mo_v G H0 a0 5 := mo_v_F (r := 51) hB.1 hB.2.2 h0 rfl ro_51 (by decide) (by decide)
      have hm2 : (2147483648 : Int) - j2_2.toInt ≤ (n2 : Int) + 1 := by omega
      replace hF := hF.trans (dv_lp_eq)
      replace hF := hF.trans (congrArg (dv_k f_X12_takesBack_2b) (f_X12_takesBack_2c.eq_1 (dv G Γ H2) ((a0 : Int)) (p1.toInt) (j2_2.toInt)))
      refine lv_iload_n hx hb dX12_takesBack_2 rfl (lv_at hl 2 rfl) ?_
      refine lv_bipush (v := 29) hx hb dX12_takesBack_3 (by decide) ?_
      refine tr_icmp_ge (tgt := 31) hx hb dX12_takesBack_5 (by decide) (Eq.refl _) tk_29 (fun c5 => ?_) (fun c5 => ?_)
      · replace hF := hF.trans (congrArg (dv_k f_X12_takesBack_2b) (if_pos c5))
        replace hF := hF.trans (dv_kr)
        exact th_vret hC hH hr hlocks hB.2.1 ⟨rfl, hB.1, hB.2.2, hR, fun i => by have q9 := g2_2 i; rw [show j2_2.toInt = 29 by omega] at q9; exact q9, (hF0.symm.trans hF)⟩ dX12_takesBack_31
      · replace hF := hF.trans (congrArg (dv_k f_X12_takesBack_2b) (if_neg (Int.not_le.mpr c5)))
        refine lv_aload_n hx hb dX12_takesBack_8 rfl (lv_at hl 0 rfl) ?_
        refine th_getO (j := 2) (r2 := 48) hC cf_X12 hB.1 h0 ro_46 rfl rfl kf_X12_28 dX12_takesBack_9 (fun b1 mb1 hb1 => ?_)
        have sb1 := (th_F_o hB.2.2 h0 ro_46 (j := 2) (by decide) (by decide)).symm.trans mb1
        refine lv_iload_n hx hb dX12_takesBack_12 rfl (lv_at hl 2 rfl) ?_
        refine lv_aload_n hx hb dX12_takesBack_13 rfl (lv_at hl 0 rfl) ?_
        refine th_getO (j := 5) (r2 := 51) hC cf_X12 hB.1 h0 ro_46 rfl rfl kf_X12_38 dX12_takesBack_14 (fun b2 mb2 hb2 => ?_)
        have sb2 := (th_F_o hB.2.2 h0 ro_46 (j := 5) (by decide) (by decide)).symm.trans mb2
        refine lv_bipush (v := 29) hx hb dX12_takesBack_17 (by decide) ?_
        refine lv_iload_n hx hb dX12_takesBack_19 rfl (lv_at hl 1 rfl) ?_
        refine tr_imul hx hb dX12_takesBack_20 tk_29 (Eq.refl _) (by omega) (by omega) (fun x3 ex3 => ?_)
        replace hF := hF.trans (congrArg (dv_k f_X12_takesBack_2b) (dv_bn (ex3.symm)))
        refine lv_iload_n hx hb dX12_takesBack_21 rfl (lv_at hl 2 rfl) ?_
        refine tr_iadd hx hb dX12_takesBack_22 (Eq.refl _) (Eq.refl _) (by omega) (by omega) (fun x4 ex4 => ?_)
        replace hF := hF.trans (congrArg (dv_k f_X12_takesBack_2b) (dv_bn (ex4.symm)))
        refine th_ialdF hC hB.1 hb2 ro_51 rfl (Eq.refl _) (by omega) (by omega) rfl dX12_takesBack_23 (fun x5 mx5 lx5 ux5 => ?_)
        replace hF := hF.trans (congrArg (dv_k f_X12_takesBack_2b) (dv_bn (dv_aldI hB.1 hU hb2 ow_51 (z := x4.toInt) mx5 (by omega))))
        have vgx5 : mo_v G H0 a0 5 ((29 * p1.toInt) + j2_2.toInt) = x5.toInt := by rw [← (mo_v_F (r := 51) hB.1 hB.2.2 h0 rfl ro_51 (by decide) (by decide) : mo_v G H2 a0 5 = _)]; rw [show (((29 * p1.toInt) + j2_2.toInt) : Int) = x4.toInt by omega]; exact mo_vat mb2 mx5 (by omega)
        have hIo := hB.1
        refine th_iastF hC hB hb1 (Or.inl hb1) ro_48 rfl (by decide) (Eq.refl _) (by omega) (by omega) (by rw [(ek_a (by omega) (by omega))]; exact th_sIa) dX12_takesBack_24 (fun H24 locs hB hf24 hst24 => ?_)
        have hf := hf24
        have mm6 := (th_F_o hf h0 ro_46 (j := 2) (by decide) (by decide)).trans mb1
        have mm7 := (th_F_o hf h0 ro_46 (j := 5) (by decide) (by decide)).trans mb2
        have hRC := th_RC_F hB.1 hR.1 hf (th_T_s hb1 ro_48 hst24) (by decide)
        have vv_H24_5 : mo_v G H24 a0 5 = mo_v G H2 a0 5 := mo_v_F (r := 51) hB.1 hf h0 rfl ro_51 (by decide) (by decide)
        replace hF := hF.trans (congrArg (dv_k f_X12_takesBack_2b) (dv_bn (dv_stoI hIo hB.1 hU hb1 ow_48 (i := j2_2.toInt) hst24 (Eq.refl _) (by omega))))
        have vs24 : mo_v G H24 a0 2 = mo_u (mo_v G H2 a0 2) j2_2.toInt x5.toInt := by rw [show (j2_2.toInt : Int) = j2_2.toInt by omega]; exact mo_v_st h0 hb1 (by decide) mb1 hst24 (by omega)
        have hR := th_RE_st hB.1 hR h0 hb1 mb1 hf24 hst24 (by omega) (by omega)
        refine tr_iinc (fun x8 => [(2, .int x8), (0, .ref a0), (1, .int p1)]) hx hb dX12_takesBack_25 hl (k := 2) rfl (Eq.refl _) tk_1 (by omega) (by omega) (by decide) (fun _ => rfl) (fun x8 ls ex8 hl => ?_)
        replace hF := hF.trans (congrArg (dv_k f_X12_takesBack_2b) (dv_bn (ex8.symm)))
        refine lv_goto (tgt := 2) hx hb dX12_takesBack_28 (by decide) ?_
        replace hF := hF.trans (dv_kl)
        exact ih2 H24 locs ls x8 hB hR (lv_sub hl [1, 2, 0] rfl) hF (by omega) (by omega) (fun i => by rw [vs24]; by_cases q9 : i = j2_2.toInt; rw [mo_us q9, if_pos (by omega), q9, ← vgx5]; rw [mo_un q9, g2_2]; by_cases q8 : 0 ≤ i ∧ i < j2_2.toInt; rw [if_pos q8, if_pos (by omega)]; rw [if_neg q8, if_neg (by omega)]) (by omega)
  exact lp2 ((2147483648 : Int) - (0)).toNat H0 [] ls 0 hB hR (lv_sub hl [1, 2, 0] rfl) (by rw [tk_0]; exact hF) (by decide) (by decide) (fun i => by rw [if_neg (by have w0 := tk_0; omega)]) (by have w0 := tk_0; omega)
