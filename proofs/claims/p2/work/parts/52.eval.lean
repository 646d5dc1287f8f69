def s_X12_partOf (d : Nat) : Prop := ∀ (l : Launch) (G : th_G) (Γ : th_Ga) (H0 : Heap) (hI : th_I G Γ H0) (hR : th_RC G Γ H0) (hU : dv_U Γ) (a0 : Nat) (h0 : Γ a0 = (46, 0)) (p1 : Int32) (f1 : 0 ≤ p1.toInt) (g1 : p1.toInt ≤ 1) (B i j : Int) (k1 : 0 ≤ B ∧ 0 ≤ i ∧ mo_f G H0 a0 22 = B + i ∧ mo_f G H0 a0 23 ≤ 2800) (k2 : mo_part (mo_f G H0 a0 25) (mo_ce G H0 a0 B) d i j), Met l yX12_partOf (.code yX12_partOf cX12_partOf 4 (some FieldType.long) :: th_tb) ({ frames := 10 + 3 * d, cells := 0, slots := 0, locals := 400 + d * 80 } : Room) (th_P [.ref a0, .int p1] G H0) (th_Q (fun (v : Option Value) (H1 : Heap) => ∃ r : Int64, v = some (.long r) ∧ th_I G Γ H1 ∧ th_F G Γ [(46, 22), (46, 24)] H0 H1 ∧ th_RC G Γ H1 ∧ (mo_f G H1 a0 22 = B + j) ∧ (f_X12_partOf d (dv G Γ H0) (a0 : Int) p1.toInt = (dv G Γ H1, r.toInt))) G) 0 0 (fun q => G.2.2 ≤ q)

def s_X12_termOf (d : Nat) : Prop := ∀ (l : Launch) (G : th_G) (Γ : th_Ga) (H0 : Heap) (hI : th_I G Γ H0) (hR : th_RC G Γ H0) (hU : dv_U Γ) (a0 : Nat) (h0 : Γ a0 = (46, 0)) (p1 : Int32) (f1 : 0 ≤ p1.toInt) (g1 : p1.toInt ≤ 1) (B i j : Int) (k1 : 0 ≤ B ∧ 0 ≤ i ∧ mo_f G H0 a0 22 = B + i ∧ mo_f G H0 a0 23 ≤ 2800) (k2 : mo_term (mo_f G H0 a0 25) (mo_ce G H0 a0 B) d i j), Met l yX12_termOf (.code yX12_termOf cX12_termOf 7 (some FieldType.long) :: th_tb) ({ frames := 11 + 3 * d, cells := 0, slots := 0, locals := 423 + d * 80 } : Room) (th_P [.ref a0, .int p1] G H0) (th_Q (fun (v : Option Value) (H1 : Heap) => ∃ r : Int64, v = some (.long r) ∧ th_I G Γ H1 ∧ th_F G Γ [(46, 22), (46, 24)] H0 H1 ∧ th_RC G Γ H1 ∧ (mo_f G H1 a0 22 = B + j) ∧ (f_X12_termOf d (dv G Γ H0) (a0 : Int) p1.toInt = (dv G Γ H1, r.toInt))) G) 0 0 (fun q => G.2.2 ≤ q)

def s_X12_sumOf (d : Nat) : Prop := ∀ (l : Launch) (G : th_G) (Γ : th_Ga) (H0 : Heap) (hI : th_I G Γ H0) (hR : th_RC G Γ H0) (hU : dv_U Γ) (a0 : Nat) (h0 : Γ a0 = (46, 0)) (p1 : Int32) (f1 : 0 ≤ p1.toInt) (g1 : p1.toInt ≤ 1) (B i j : Int) (k1 : 0 ≤ B ∧ 0 ≤ i ∧ mo_f G H0 a0 22 = B + i ∧ mo_f G H0 a0 23 ≤ 2800) (k2 : mo_sum (mo_f G H0 a0 25) (mo_ce G H0 a0 B) d i j), Met l yX12_sumOf (.code yX12_sumOf cX12_sumOf 7 (some FieldType.long) :: th_tb) ({ frames := 12 + 3 * d, cells := 0, slots := 0, locals := 449 + d * 80 } : Room) (th_P [.ref a0, .int p1] G H0) (th_Q (fun (v : Option Value) (H1 : Heap) => ∃ r : Int64, v = some (.long r) ∧ th_I G Γ H1 ∧ th_F G Γ [(46, 22), (46, 24)] H0 H1 ∧ th_RC G Γ H1 ∧ (mo_f G H1 a0 22 = B + j) ∧ (f_X12_sumOf d (dv G Γ H0) (a0 : Int) p1.toInt = (dv G Γ H1, r.toInt))) G) 0 0 (fun q => G.2.2 ≤ q)

set_option maxHeartbeats 4000000 in
set_option maxRecDepth 100000 in
theorem c_X12_partOf_s (d : Nat) (ihd : ∀ d', d = d' + 1 → s_X12_sumOf d') : s_X12_partOf d := by
  intro l G Γ H0 hI hR hU a0 h0 p1 f1 g1 B i j k1 k2
  refine th_met RX12 (by decide) rfl (Nat.le_of_ble_eq_true rfl) ?_
  intro p e s m below meth c hC hH hr hlocks hnm ls hl
  have hx := hC.1
  have hb := hC.2.1
  have hB : th_B G Γ Γ [(46, 22), (46, 24)] H0 H0 [] := ⟨hI, va_S.rf, th_F_rf⟩
  have hl : lv_has ls 4 [(0, .ref a0), (1, .int p1)] := hl
  have lp1 := ti_lo p1; have up1 := ti_hi p1
  obtain ⟨F, hF0⟩ : ∃ F, F = f_X12_partOf d (dv G Γ H0) ((a0 : Int)) (p1.toInt) := ⟨_, rfl⟩
  have hF := hF0.trans ((f_X12_partOf_d d (dv G Γ H0) ((a0 : Int)) (p1.toInt)).trans (f_X12_partOf_B.eq_1 d (dv_pre (fun _ _ _ => dv_z) f_X12_sumOf d) (dv G Γ H0) ((a0 : Int)) (p1.toInt)))
  refine lv_aload_n hx hb dX12_partOf_0 rfl (lv_at hl 0 rfl) ?_
  have po := mo_part_o k2
  refine lv_bipush (v := 91) hx hb dX12_partOf_1 (by decide) ?_
  refine th_call (th_runS (As := [.int 91]) (rest := [.ref a0]) hC mf_X12_sign km_X12_240 st_X12_sign (c_X12_sign l G Γ H0 hB.1 hU 91 (by decide) (by decide)) rfl rfl ⟨by dsimp only; omega, by dsimp only; omega⟩ rfl hl.1 rfl (Nat.le_of_ble_eq_true rfl) dX12_partOf_3 ⟨Nat.le_refl _, Nat.le_refl _⟩) hB.2.1 (fun v3 H3 locs hp hz hS => ?_)
  obtain ⟨x1, rfl, lx1, ux1, q3_0, q3_1, rfl⟩ := hp
  have hB := th_B_s hB hS
  have w3_0 := tk_91
  have zf3 := q3_1
  rw [tk_91] at zf3
  replace hF := hF.trans (dv_bn2 (zf3))
  refine W.eq (g2 := F0 m 6 ls [.int x1, .ref a0]) rfl ?_
  refine th_call (th_runV (As := [.int x1]) (rest := []) hC mf_X12_passes0 km_X12_305 im_X12_passes0 se_X12_passes0 (c_X12_passes0 l G Γ H0 hB.1 hR hU a0 h0 x1 (by omega) B i k1) rfl rfl ⟨by dsimp only; omega, by dsimp only; omega⟩ hB.1 h0 ro_46 rfl rfl hl.1 rfl (Nat.le_of_ble_eq_true rfl) dX12_partOf_6 ⟨Nat.le_refl _, Nat.le_refl _⟩) hB.2.1 (fun v6 H6 locs hp hz hS => ?_)
  obtain ⟨x2, rfl, lx2, ux2, hI1, hf, hR, z6_0, z6_1, z6_2⟩ := hp
  have hB := th_B_c hB hI1 hS hf (by decide)
  have fv_H6_23 : mo_f G H6 a0 23 = mo_f G H0 a0 23 := mo_f_F hf h0 (by decide) (by decide)
  have fv_H6_25 : mo_f G H6 a0 25 = mo_f G H0 a0 25 := mo_f_F hf h0 (by decide) (by decide)
  have vv_H6_2 : mo_v G H6 a0 2 = mo_v G H0 a0 2 := mo_v_F (r := 48) hB.1 hf h0 rfl ro_48 (by decide) (by decide)
  replace hF := hF.trans (dv_bn2 (z6_2))
  refine W.eq (g2 := F0 m 9 ls [.int x2]) rfl ?_
  refine tr_if_eq (tgt := 30) hx hb dX12_partOf_9 (by decide) (Eq.refl _) (fun c9 => ?_) (fun c9 => ?_)
  · replace hF := hF.trans (if_pos c9)
    refine lv_aload_n hx hb dX12_partOf_30 rfl (lv_at hl 0 rfl) ?_
    have w6 := z6_1 (by omega)
    refine lv_aload_n hx hb dX12_partOf_31 rfl (lv_at hl 0 rfl) ?_
    have lf := (po.resolve_right (fun q => (z6_1 (by omega)).2 (by rw [q.1]; omega))).2
    have lf1 := lf.1
    have lf2 := lf.2
    refine th_getI (j := 22) hC cf_X12 hB.1 h0 ro_46 rfl rfl kf_X12_281 dX12_partOf_32 (fun x3 mx3 lx3 ux3 => ?_)
    replace hF := hF.trans (dv_bn (dv_getI h0 ro_46 (j := 22) rfl mx3 (by decide)))
    have fg4 : mo_f G H6 a0 22 = x3.toInt := mo_fat mx3
    refine th_call (th_runV (As := [.int x3]) (rest := []) hC mf_X12_codeAt km_X12_284 im_X12_codeAt se_X12_codeAt (c_X12_codeAt l G Γ H6 hB.1 hU a0 h0 x3 (by omega) B (by omega) (by omega)) rfl rfl ⟨by dsimp only; omega, by dsimp only; omega⟩ hB.1 h0 ro_46 rfl rfl hl.1 rfl (Nat.le_of_ble_eq_true rfl) dX12_partOf_35 ⟨Nat.le_refl _, Nat.le_refl _⟩) hB.2.1 (fun v35 H35 locs hp hz hS => ?_)
    obtain ⟨x5, rfl, q35_0, q35_1, rfl⟩ := hp
    have hB := th_B_s hB hS
    replace hF := hF.trans (dv_bn2 (q35_1))
    refine W.eq (g2 := F0 m 38 ls [.int x5]) rfl ?_
    have cd35 : mo_ce G H0 a0 B i = x5.toInt := by have q9 := q35_0; rw [mo_ce_F hB.1 hB.2.2 h0 (by decide)] at q9; rw [q9]; congr 1; omega
    refine lv_istore_n (lv' := [(2, .int x5), (0, .ref a0), (1, .int p1)]) hx hb dX12_partOf_38 rfl hl (by decide) rfl (fun ls hl => ?_)
    refine lv_iconst (v := 0) hx hb dX12_partOf_39 (by decide) ?_
    refine lv_istore_n (lv' := [(3, .int 0), (2, .int x5), (0, .ref a0), (1, .int p1)]) hx hb dX12_partOf_40 rfl hl (by decide) rfl (fun ls hl => ?_)
    refine lv_aload_n hx hb dX12_partOf_41 rfl (lv_at hl 2 rfl) ?_
    refine lv_dup hx hb dX12_partOf_42 rfl ?_
    refine th_getK hC cf_X12 hB.1 h0 ro_46 rfl (j := 22) (by decide) mx3 kf_X12_281 dX12_partOf_43 ?_
    replace hF := hF.trans (dv_bn (dv_getI h0 ro_46 (j := 22) rfl mx3 (by decide)))
    have fg6 : mo_f G H6 a0 22 = x3.toInt := mo_fat mx3
    have nz43 := mo_ce_nz (show mo_ce G H0 a0 B i ≠ 0 by omega)
    refine lv_iconst (v := 1) hx hb dX12_partOf_46 (by decide) ?_
    refine tr_iadd hx hb dX12_partOf_47 (Eq.refl _) tk_1 (by omega) (by omega) (fun x7 ex7 => ?_)
    replace hF := hF.trans (dv_bn (ex7.symm))
    refine th_put hC cf_X12 hB h0 (Or.inl h0) ro_46 rfl (j := 22) rfl th_sIa (by decide) rfl rfl rfl kf_X12_281 dX12_partOf_48 (fun H48 locs hB hf hst48 => ?_)
    have hR := th_RC_F hB.1 hR hf (th_T_s h0 ro_46 hst48) (by decide)
    have fv_H48_23 : mo_f G H48 a0 23 = mo_f G H6 a0 23 := mo_f_F hf h0 (by decide) (by decide)
    have fv_H48_25 : mo_f G H48 a0 25 = mo_f G H6 a0 25 := mo_f_F hf h0 (by decide) (by decide)
    have vv_H48_2 : mo_v G H48 a0 2 = mo_v G H6 a0 2 := mo_v_F (r := 48) hB.1 hf h0 rfl ro_48 (by decide) (by decide)
    replace hF := hF.trans (dv_bn (dv_putI hB.1 h0 ro_46 (j := 22) rfl (th_apart hC cf_X12) hst48 (Eq.refl _) (by decide)))
    have fp48 : mo_f G H48 a0 22 = x7.toInt := mo_f_St hst48
    have mm8 := hst48.2.1
    refine lv_aload_n hx hb dX12_partOf_51 rfl (lv_at hl 2 rfl) ?_
    refine th_getI (j := 25) hC cf_X12 hB.1 h0 ro_46 rfl rfl kf_X12_311 dX12_partOf_52 (fun x9 mx9 lx9 ux9 => ?_)
    replace hF := hF.trans (dv_bn (dv_getI h0 ro_46 (j := 25) rfl mx9 (by decide)))
    have fg10 : mo_f G H48 a0 25 = x9.toInt := mo_fat mx9
    have sx9 := (th_F_o hB.2.2 h0 ro_46 (j := 25) (by decide) (by decide)).symm.trans mx9
    have jn94 : ∀ (H94 : Heap) (locs : List Loc) (ls : Array Slot) (j94_3 : Int32), th_B G Γ Γ [(46, 22), (46, 24)] H0 H94 locs → th_RC G Γ H94 → lv_has ls 4 [(2, .int x5), (0, .ref a0), (1, .int p1), (3, .int j94_3)] → F = f_X12_partOf_94 d (dv_pre (fun _ _ _ => dv_z) f_X12_sumOf d) (dv G Γ H94) (x5.toInt) ((a0 : Int)) (p1.toInt) (j94_3.toInt) → mo_f G H94 a0 22 = B + j → W p l e ({ frames := 10 + 3 * d, cells := 0, slots := 0, locals := 400 + d * 80 } : Room) s m ([.ref a0, .int p1] : List Value).toArray below meth c H94 locs 0 0 (MQ below (th_Q (fun (v : Option Value) (H1 : Heap) => ∃ r : Int64, v = some (.long r) ∧ th_I G Γ H1 ∧ th_F G Γ [(46, 22), (46, 24)] H0 H1 ∧ th_RC G Γ H1 ∧ (mo_f G H1 a0 22 = B + j) ∧ (f_X12_partOf d (dv G Γ H0) (a0 : Int) p1.toInt = (dv G Γ H1, r.toInt))) G) ([.ref a0, .int p1] : List Value).toArray s 0 0 (fun q => G.2.2 ≤ q)) (F0 m 94 ls []) := by
      intro H94 locs ls j94_3 hB hR hl hF g94_0
      have lj94_3 := ti_lo j94_3; have uj94_3 := ti_hi j94_3
      have mm11 := (th_F_o hB.2.2 h0 ro_46 (j := 25) (by decide) (by decide)).trans sx9
      have fv12_23 : mo_f G H94 a0 23 = mo_f G H0 a0 23 := mo_f_F hB.2.2 h0 (by decide) (by decide)
      have fv13_25 : mo_f G H94 a0 25 = mo_f G H0 a0 25 := mo_f_F hB.2.2 h0 (by decide) (by decide)
      have vw_H94_2 : mo_v G H94 a0 2 = mo_v G H0 a0 2 := mo_v_F (r := 48) hB.1 hB.2.2 h0 rfl ro_48 (by decide) (by decide)
      replace hF := hF.trans (f_X12_partOf_94.eq_1 d (dv_pre (fun _ _ _ => dv_z) f_X12_sumOf d) (dv G Γ H94) (x5.toInt) ((a0 : Int)) (p1.toInt) (j94_3.toInt))
      refine lv_iload_n hx hb dX12_partOf_94 rfl (lv_at hl 2 rfl) ?_
      refine tr_if_eq (tgt := 105) hx hb dX12_partOf_95 (by decide) (Eq.refl _) (fun c95 => ?_) (fun c95 => ?_)
      · replace hF := hF.trans (if_pos c95)
        refine lv_lconst (v := 0) hx hb dX12_partOf_105 rfl ?_
        exact th_lret hC hH hr hlocks hB.2.1 ⟨_, rfl, hB.1, hB.2.2, hR, by omega, (hF0.symm.trans (hF.trans (by rw [show (0 : Int64).toInt = 0 from rfl])))⟩ dX12_partOf_106
      · replace hF := hF.trans (if_neg c95)
        refine lv_aload_n hx hb dX12_partOf_98 rfl (lv_at hl 1 rfl) ?_
        refine th_getI (j := 24) hC cf_X12 hB.1 h0 ro_46 rfl rfl kf_X12_291 dX12_partOf_99 (fun x14 mx14 lx14 ux14 => ?_)
        replace hF := hF.trans (dv_bn (dv_getI h0 ro_46 (j := 24) rfl mx14 (by decide)))
        refine tr_if_eq (tgt := 107) hx hb dX12_partOf_102 (by decide) (Eq.refl _) (fun c102 => ?_) (fun c102 => ?_)
        · replace hF := hF.trans (if_pos c102)
          refine lv_iload_n hx hb dX12_partOf_107 rfl (lv_at hl 0 rfl) ?_
          refine lv_bipush (v := 50) hx hb dX12_partOf_108 (by decide) ?_
          refine tr_icmp_ne (tgt := 130) hx hb dX12_partOf_110 (by decide) (Eq.refl _) tk_50 (fun c110 => ?_) (fun c110 => ?_)
          · replace hF := hF.trans (if_pos c110)
            refine lv_aload_n hx hb dX12_partOf_130 rfl (lv_at hl 1 rfl) ?_
            refine th_getK hC cf_X12 hB.1 h0 ro_46 rfl (j := 25) (by decide) mm11 kf_X12_311 dX12_partOf_131 ?_
            replace hF := hF.trans (dv_bn (dv_getI h0 ro_46 (j := 25) rfl mm11 (by decide)))
            have fg15 : mo_f G H94 a0 25 = x9.toInt := mo_fat mm11
            refine tr_if_eq (tgt := 147) hx hb dX12_partOf_134 (by decide) (Eq.refl _) (fun c134 => ?_) (fun c134 => ?_)
            · replace hF := hF.trans (if_pos c134)
              refine lv_aload_n hx hb dX12_partOf_147 rfl (lv_at hl 1 rfl) ?_
              refine th_getO (j := 26) (r2 := 58) hC cf_X12 hB.1 h0 ro_46 rfl rfl kf_X12_63 dX12_partOf_148 (fun b16 mb16 hb16 => ?_)
              refine lv_iload_n hx hb dX12_partOf_151 rfl (lv_at hl 0 rfl) ?_
              refine lv_bipush (v := 8) hx hb dX12_partOf_152 (by decide) ?_
              refine tr_isub hx hb dX12_partOf_154 (Eq.refl _) tk_8 (by omega) (by omega) (fun x17 ex17 => ?_)
              replace hF := hF.trans (dv_bn (ex17.symm))
              refine th_ialdF hC hB.1 hb16 ro_58 rfl (Eq.refl _) (by omega) (by omega) rfl dX12_partOf_155 (fun x18 mx18 lx18 ux18 => ?_)
              replace hF := hF.trans (dv_bn (dv_aldI hB.1 hU hb16 ow_58 (z := x17.toInt) mx18 (by omega)))
              refine lv_i2l hx hb dX12_partOf_156 rfl ?_
              refine lv_topl (fun y19 ey19 => ?_)
              replace hF := hF.trans (dv_bn (dv_i2l_e (Eq.refl _) ey19))
              exact th_lret hC hH hr hlocks hB.2.1 ⟨_, rfl, hB.1, hB.2.2, hR, by omega, (hF0.symm.trans hF)⟩ dX12_partOf_157
            · replace hF := hF.trans (if_neg c134)
              refine lv_aload_n hx hb dX12_partOf_137 rfl (lv_at hl 1 rfl) ?_
              refine lv_iload_n hx hb dX12_partOf_138 rfl (lv_at hl 0 rfl) ?_
              refine lv_iload_n hx hb dX12_partOf_139 rfl (lv_at hl 3 rfl) ?_
              refine th_call (th_runV (As := [.int x5, .int j94_3]) (rest := []) hC mf_X12_orderValue km_X12_314 im_X12_orderValue se_X12_orderValue (c_X12_orderValue l G Γ H94 hB.1 hU a0 h0 x5 j94_3) rfl rfl ⟨by dsimp only; omega, by dsimp only; omega⟩ hB.1 h0 ro_46 rfl rfl hl.1 rfl (Nat.le_of_ble_eq_true rfl) dX12_partOf_140 ⟨Nat.le_refl _, Nat.le_refl _⟩) hB.2.1 (fun v140 H140 locs hp hz hS => ?_)
              obtain ⟨x20, rfl, q140_0, rfl⟩ := hp
              have hB := th_B_s hB hS
              replace hF := hF.trans (dv_bn2 (q140_0))
              refine W.eq (g2 := F0 m 143 ls [.int x20]) rfl ?_
              refine lv_i2l hx hb dX12_partOf_143 rfl ?_
              refine lv_topl (fun y21 ey21 => ?_)
              replace hF := hF.trans (dv_bn (dv_i2l_e (Eq.refl _) ey21))
              refine lv_goto (tgt := 157) hx hb dX12_partOf_144 (by decide) ?_
              exact th_lret hC hH hr hlocks hB.2.1 ⟨_, rfl, hB.1, hB.2.2, hR, by omega, (hF0.symm.trans hF)⟩ dX12_partOf_157
          · replace hF := hF.trans (if_neg (not_not_intro c110))
            refine lv_aload_n hx hb dX12_partOf_113 rfl (lv_at hl 1 rfl) ?_
            refine th_getO (j := 2) (r2 := 48) hC cf_X12 hB.1 h0 ro_46 rfl rfl kf_X12_28 dX12_partOf_114 (fun b22 mb22 hb22 => ?_)
            refine lv_sipush (v := 2880) hx hb dX12_partOf_117 (by decide) ?_
            refine lv_aload_n hx hb dX12_partOf_120 rfl (lv_at hl 1 rfl) ?_
            refine th_getI (j := 22) hC cf_X12 hB.1 h0 ro_46 rfl rfl kf_X12_281 dX12_partOf_121 (fun x23 mx23 lx23 ux23 => ?_)
            replace hF := hF.trans (dv_bn (dv_getI h0 ro_46 (j := 22) rfl mx23 (by decide)))
            have fg24 : mo_f G H94 a0 22 = x23.toInt := mo_fat mx23
            refine tr_iadd hx hb dX12_partOf_124 tk_2880 (Eq.refl _) (by omega) (by omega) (fun x25 ex25 => ?_)
            replace hF := hF.trans (dv_bn (ex25.symm))
            refine lv_iconst (v := 1) hx hb dX12_partOf_125 (by decide) ?_
            refine tr_isub hx hb dX12_partOf_126 (Eq.refl _) tk_1 (by omega) (by omega) (fun x26 ex26 => ?_)
            replace hF := hF.trans (dv_bn (ex26.symm))
            refine th_ialdF hC hB.1 hb22 ro_48 rfl (Eq.refl _) (by omega) (by omega) (ek_c (by omega) (by omega)) dX12_partOf_127 (fun x27 mx27 lx27 ux27 => ?_)
            replace hF := hF.trans (dv_bn (dv_aldI hB.1 hU hb22 ow_48 (z := x26.toInt) mx27 (by omega)))
            have vgx27 : mo_v G H0 a0 2 ((2880 + x23.toInt) - 1) = x27.toInt := by rw [← (mo_v_F (r := 48) hB.1 hB.2.2 h0 rfl ro_48 (by decide) (by decide) : mo_v G H94 a0 2 = _)]; rw [show (((2880 + x23.toInt) - 1) : Int) = x26.toInt by omega]; exact mo_vat mb22 mx27 (by omega)
            refine lv_i2l hx hb dX12_partOf_128 rfl ?_
            refine lv_topl (fun y28 ey28 => ?_)
            replace hF := hF.trans (dv_bn (dv_i2l_e (Eq.refl _) ey28))
            exact th_lret hC hH hr hlocks hB.2.1 ⟨_, rfl, hB.1, hB.2.2, hR, by omega, (hF0.symm.trans hF)⟩ dX12_partOf_129
        · replace hF := hF.trans (if_neg c102)
          refine lv_lconst (v := 0) hx hb dX12_partOf_105 rfl ?_
          exact th_lret hC hH hr hlocks hB.2.1 ⟨_, rfl, hB.1, hB.2.2, hR, by omega, (hF0.symm.trans (hF.trans (by rw [show (0 : Int64).toInt = 0 from rfl])))⟩ dX12_partOf_106
    refine tr_if_eq (tgt := 94) hx hb dX12_partOf_55 (by decide) (Eq.refl _) (fun c55 => ?_) (fun c55 => ?_)
    · replace hF := hF.trans (if_pos c55)
      exact jn94 H48 locs ls 0 hB hR (lv_sub hl [1, 2, 3, 0] rfl) (by rw [tk_0]; exact hF) (by have w0 := tk_0; omega)
    · replace hF := hF.trans (if_neg c55)
      refine lv_iload_n hx hb dX12_partOf_58 rfl (lv_at hl 1 rfl) ?_
      refine lv_bipush (v := 14) hx hb dX12_partOf_59 (by decide) ?_
      have jn70 : ∀ (locs : List Loc) (ls : Array Slot) , th_B G Γ Γ [(46, 22), (46, 24)] H0 H48 locs → lv_has ls 4 [(2, .int x5), (0, .ref a0), (1, .int p1)] → F = f_X12_partOf_70 d (dv_pre (fun _ _ _ => dv_z) f_X12_sumOf d) (dv G Γ H48) (x5.toInt) ((a0 : Int)) (p1.toInt) → x5.toInt = 14 ∨ x5.toInt = 20 → W p l e ({ frames := 10 + 3 * d, cells := 0, slots := 0, locals := 400 + d * 80 } : Room) s m ([.ref a0, .int p1] : List Value).toArray below meth c H48 locs 0 0 (MQ below (th_Q (fun (v : Option Value) (H1 : Heap) => ∃ r : Int64, v = some (.long r) ∧ th_I G Γ H1 ∧ th_F G Γ [(46, 22), (46, 24)] H0 H1 ∧ th_RC G Γ H1 ∧ (mo_f G H1 a0 22 = B + j) ∧ (f_X12_partOf d (dv G Γ H0) (a0 : Int) p1.toInt = (dv G Γ H1, r.toInt))) G) ([.ref a0, .int p1] : List Value).toArray s 0 0 (fun q => G.2.2 ≤ q)) (F0 m 70 ls []) := by
        intro locs ls hB hl hF g70_0
        replace hF := hF.trans (f_X12_partOf_70.eq_1 d (dv_pre (fun _ _ _ => dv_z) f_X12_sumOf d) (dv G Γ H48) (x5.toInt) ((a0 : Int)) (p1.toInt))
        refine lv_aload_n hx hb dX12_partOf_70 rfl (lv_at hl 1 rfl) ?_
        refine th_getO (j := 2) (r2 := 48) hC cf_X12 hB.1 h0 ro_46 rfl rfl kf_X12_28 dX12_partOf_71 (fun b29 mb29 hb29 => ?_)
        have sb29 := (th_F_o hB.2.2 h0 ro_46 (j := 2) (by decide) (by decide)).symm.trans mb29
        refine lv_sipush (v := 2880) hx hb dX12_partOf_74 (by decide) ?_
        refine lv_aload_n hx hb dX12_partOf_77 rfl (lv_at hl 1 rfl) ?_
        refine th_getK hC cf_X12 hB.1 h0 ro_46 rfl (j := 22) (by decide) mm8 kf_X12_281 dX12_partOf_78 ?_
        replace hF := hF.trans (dv_bn (dv_getI h0 ro_46 (j := 22) rfl mm8 (by decide)))
        have fg30 : mo_f G H48 a0 22 = x7.toInt := mo_fat mm8
        have nz78 := mo_ce_nz (show mo_ce G H0 a0 B (i + 1) ≠ 0 by omega)
        refine tr_iadd hx hb dX12_partOf_81 tk_2880 (Eq.refl _) (by omega) (by omega) (fun x31 ex31 => ?_)
        replace hF := hF.trans (dv_bn (ex31.symm))
        refine th_ialdF hC hB.1 hb29 ro_48 rfl (Eq.refl _) (by omega) (by omega) (ek_c (by omega) (by omega)) dX12_partOf_82 (fun x32 mx32 lx32 ux32 => ?_)
        replace hF := hF.trans (dv_bn (dv_aldI hB.1 hU hb29 ow_48 (z := x31.toInt) mx32 (by omega)))
        have vgx32 : mo_v G H0 a0 2 (2880 + (x3.toInt + 1)) = x32.toInt := by rw [← (mo_v_F (r := 48) hB.1 hB.2.2 h0 rfl ro_48 (by decide) (by decide) : mo_v G H48 a0 2 = _)]; rw [show ((2880 + (x3.toInt + 1)) : Int) = x31.toInt by omega]; exact mo_vat mb29 mx32 (by omega)
        refine lv_istore_n (lv' := [(3, .int x32), (2, .int x5), (0, .ref a0), (1, .int p1)]) hx hb dX12_partOf_83 rfl hl (by decide) rfl (fun ls hl => ?_)
        refine lv_aload_n hx hb dX12_partOf_84 rfl (lv_at hl 2 rfl) ?_
        refine lv_dup hx hb dX12_partOf_85 rfl ?_
        refine th_getK hC cf_X12 hB.1 h0 ro_46 rfl (j := 22) (by decide) mm8 kf_X12_281 dX12_partOf_86 ?_
        replace hF := hF.trans (dv_bn (dv_getI h0 ro_46 (j := 22) rfl mm8 (by decide)))
        have fg33 : mo_f G H48 a0 22 = x7.toInt := mo_fat mm8
        refine lv_iconst (v := 1) hx hb dX12_partOf_89 (by decide) ?_
        refine tr_iadd hx hb dX12_partOf_90 (Eq.refl _) tk_1 (by omega) (by omega) (fun x34 ex34 => ?_)
        replace hF := hF.trans (dv_bn (ex34.symm))
        refine th_put hC cf_X12 hB h0 (Or.inl h0) ro_46 rfl (j := 22) rfl th_sIa (by decide) rfl rfl rfl kf_X12_281 dX12_partOf_91 (fun H91 locs hB hf hst91 => ?_)
        have mm35 := (th_F_o hf h0 ro_46 (j := 25) (by decide) (by decide)).trans mx9
        have mm36 := (th_F_o hf h0 ro_46 (j := 2) (by decide) (by decide)).trans mb29
        have hR := th_RC_F hB.1 hR hf (th_T_s h0 ro_46 hst91) (by decide)
        have fv_H91_23 : mo_f G H91 a0 23 = mo_f G H48 a0 23 := mo_f_F hf h0 (by decide) (by decide)
        have fv_H91_25 : mo_f G H91 a0 25 = mo_f G H48 a0 25 := mo_f_F hf h0 (by decide) (by decide)
        have vv_H91_2 : mo_v G H91 a0 2 = mo_v G H48 a0 2 := mo_v_F (r := 48) hB.1 hf h0 rfl ro_48 (by decide) (by decide)
        replace hF := hF.trans (dv_bn (dv_putI hB.1 h0 ro_46 (j := 22) rfl (th_apart hC cf_X12) hst91 (Eq.refl _) (by decide)))
        have fp91 : mo_f G H91 a0 22 = x34.toInt := mo_f_St hst91
        have mm37 := hst91.2.1
        exact jn94 H91 locs ls x32 hB hR (lv_sub hl [1, 2, 3, 0] rfl) hF (by omega)
      refine tr_icmp_eq (tgt := 70) hx hb dX12_partOf_61 (by decide) (Eq.refl _) tk_14 (fun c61 => ?_) (fun c61 => ?_)
      · replace hF := hF.trans (if_pos c61)
        exact jn70 locs ls hB (lv_sub hl [1, 2, 3] rfl) hF (by omega)
      · replace hF := hF.trans (if_neg c61)
        refine lv_iload_n hx hb dX12_partOf_64 rfl (lv_at hl 1 rfl) ?_
        refine lv_bipush (v := 20) hx hb dX12_partOf_65 (by decide) ?_
        refine tr_icmp_ne (tgt := 94) hx hb dX12_partOf_67 (by decide) (Eq.refl _) tk_20 (fun c67 => ?_) (fun c67 => ?_)
        · replace hF := hF.trans (if_pos c67)
          exact jn94 H48 locs ls 0 hB hR (lv_sub hl [1, 2, 3, 0] rfl) (by rw [tk_0]; exact hF) (by have w0 := tk_0; omega)
        · replace hF := hF.trans (if_neg (not_not_intro c67))
          exact jn70 locs ls hB (lv_sub hl [1, 2, 3] rfl) hF (by omega)
  · replace hF := hF.trans (if_neg c9)
    refine lv_aload_n hx hb dX12_partOf_12 rfl (lv_at hl 0 rfl) ?_
    refine lv_iload_n hx hb dX12_partOf_13 rfl (lv_at hl 1 rfl) ?_
    obtain ⟨d', j1, hd', s1, e1, e2⟩ := (po.resolve_left (fun q => q.1 (by have w9 := (z6_0 (by omega)).2; omega))).2
    refine th_call (th_runV (As := [.int p1]) (rest := []) hC mf_X12_sumOf km_X12_308 im_X12_sumOf se_X12_sumOf (ihd d' hd' l G Γ H6 hB.1 hR hU a0 h0 p1 (by omega) (by omega) B (i + 1) j1 (by have w9 := z6_0 (by omega); exact ⟨by omega, by omega, by omega, by omega⟩) (by rw [mo_f_F hB.2.2 h0 (j := 25) (by decide) (by decide), mo_ce_F hB.1 hB.2.2 h0 (by decide)]; exact s1)) rfl rfl ⟨by dsimp only; omega, by dsimp only; omega⟩ hB.1 h0 ro_46 rfl rfl hl.1 rfl (Nat.le_of_ble_eq_true rfl) dX12_partOf_14 ⟨Nat.le_refl _, Nat.le_refl _⟩) hB.2.1 (fun v14 H14 locs hp hz hS => ?_)
    obtain ⟨y38, rfl, hI1, hf, hR, z14_0, z14_1⟩ := hp
    have hB := th_B_c hB hI1 hS hf (by decide)
    have fv_H14_23 : mo_f G H14 a0 23 = mo_f G H6 a0 23 := mo_f_F hf h0 (by decide) (by decide)
    have fv_H14_25 : mo_f G H14 a0 25 = mo_f G H6 a0 25 := mo_f_F hf h0 (by decide) (by decide)
    have vv_H14_2 : mo_v G H14 a0 2 = mo_v G H6 a0 2 := mo_v_F (r := 48) hB.1 hf h0 rfl ro_48 (by decide) (by decide)
    have zf14 := z14_1
    rw [← dv_pre_s (z := (fun _ _ _ => dv_z)) (f := f_X12_sumOf) hd'] at zf14
    replace hF := hF.trans (dv_bn2 (zf14))
    refine W.eq (g2 := F0 m 17 ls [.long y38]) rfl ?_
    refine lv_lstore_n (lv' := [(2, .long y38), (0, .ref a0), (1, .int p1)]) hx hb dX12_partOf_17 rfl hl (by decide) rfl (fun ls hl => ?_)
    refine lv_aload_n hx hb dX12_partOf_18 rfl (lv_at hl 1 rfl) ?_
    refine lv_dup hx hb dX12_partOf_19 rfl ?_
    refine th_getI (j := 22) hC cf_X12 hB.1 h0 ro_46 rfl rfl kf_X12_281 dX12_partOf_20 (fun x39 mx39 lx39 ux39 => ?_)
    replace hF := hF.trans (dv_bn (dv_getI h0 ro_46 (j := 22) rfl mx39 (by decide)))
    have fg40 : mo_f G H14 a0 22 = x39.toInt := mo_fat mx39
    have nz20 := mo_ce_nz (show mo_ce G H0 a0 B j1 ≠ 0 by omega)
    refine lv_iconst (v := 1) hx hb dX12_partOf_23 (by decide) ?_
    refine tr_iadd hx hb dX12_partOf_24 (Eq.refl _) tk_1 (by omega) (by omega) (fun x41 ex41 => ?_)
    replace hF := hF.trans (dv_bn (ex41.symm))
    refine th_put hC cf_X12 hB h0 (Or.inl h0) ro_46 rfl (j := 22) rfl th_sIa (by decide) rfl rfl rfl kf_X12_281 dX12_partOf_25 (fun H25 locs hB hf hst25 => ?_)
    have hR := th_RC_F hB.1 hR hf (th_T_s h0 ro_46 hst25) (by decide)
    have fv_H25_23 : mo_f G H25 a0 23 = mo_f G H14 a0 23 := mo_f_F hf h0 (by decide) (by decide)
    have fv_H25_25 : mo_f G H25 a0 25 = mo_f G H14 a0 25 := mo_f_F hf h0 (by decide) (by decide)
    have vv_H25_2 : mo_v G H25 a0 2 = mo_v G H14 a0 2 := mo_v_F (r := 48) hB.1 hf h0 rfl ro_48 (by decide) (by decide)
    replace hF := hF.trans (dv_bn (dv_putI hB.1 h0 ro_46 (j := 22) rfl (th_apart hC cf_X12) hst25 (Eq.refl _) (by decide)))
    have fp25 : mo_f G H25 a0 22 = x41.toInt := mo_f_St hst25
    refine lv_lload_n hx hb dX12_partOf_28 rfl (lv_at hl 0 rfl) ?_
    exact th_lret hC hH hr hlocks hB.2.1 ⟨_, rfl, hB.1, hB.2.2, hR, by omega, (hF0.symm.trans hF)⟩ dX12_partOf_29

set_option maxHeartbeats 4000000 in
set_option maxRecDepth 100000 in
theorem c_X12_termOf_s (d : Nat) (ihp : s_X12_partOf d) : s_X12_termOf d := by
  intro l G Γ H0 hI hR hU a0 h0 p1 f1 g1 B i j k1 k2
  refine th_met RX12 (by decide) rfl (Nat.le_of_ble_eq_true rfl) ?_
  intro p e s m below meth c hC hH hr hlocks hnm ls hl
  have hx := hC.1
  have hb := hC.2.1
  have hB : th_B G Γ Γ [(46, 22), (46, 24)] H0 H0 [] := ⟨hI, va_S.rf, th_F_rf⟩
  have hl : lv_has ls 7 [(0, .ref a0), (1, .int p1)] := hl
  have lp1 := ti_lo p1; have up1 := ti_hi p1
  obtain ⟨F, hF0⟩ : ∃ F, F = f_X12_termOf d (dv G Γ H0) ((a0 : Int)) (p1.toInt) := ⟨_, rfl⟩
  have hF := hF0.trans ((f_X12_termOf_d d (dv G Γ H0) ((a0 : Int)) (p1.toInt)).trans (f_X12_termOf_B.eq_1 d (f_X12_partOf d) (dv G Γ H0) ((a0 : Int)) (p1.toInt)))
  refine lv_aload_n hx hb dX12_termOf_0 rfl (lv_at hl 0 rfl) ?_
  obtain ⟨m1, p1_, r1⟩ := mo_chain_open k2
  have lt1 := mo_part_lt _ _ _ _ _ p1_
  refine lv_iload_n hx hb dX12_termOf_1 rfl (lv_at hl 1 rfl) ?_
  refine th_call (th_runV (As := [.int p1]) (rest := []) hC mf_X12_partOf km_X12_302 im_X12_partOf se_X12_partOf (ihp l G Γ H0 hB.1 hR hU a0 h0 p1 (by omega) (by omega) B i m1 k1 p1_) rfl rfl ⟨by dsimp only; omega, by dsimp only; omega⟩ hB.1 h0 ro_46 rfl rfl hl.1 rfl (Nat.le_of_ble_eq_true rfl) dX12_termOf_2 ⟨Nat.le_refl _, Nat.le_refl _⟩) hB.2.1 (fun v2 H2 locs hp hz hS => ?_)
  obtain ⟨y1, rfl, hI1, hf, hR, z2_0, z2_1⟩ := hp
  have hB := th_B_c hB hI1 hS hf (by decide)
  have fv_H2_23 : mo_f G H2 a0 23 = mo_f G H0 a0 23 := mo_f_F hf h0 (by decide) (by decide)
  have fv_H2_25 : mo_f G H2 a0 25 = mo_f G H0 a0 25 := mo_f_F hf h0 (by decide) (by decide)
  replace hF := hF.trans (dv_bn2 (z2_1))
  refine W.eq (g2 := F0 m 5 ls [.long y1]) rfl ?_
  refine lv_lstore_n (lv' := [(2, .long y1), (0, .ref a0), (1, .int p1)]) hx hb dX12_termOf_5 rfl hl (by decide) rfl (fun ls hl => ?_)
  have lp6 : ∀ (n6 : Nat) (H6 : Heap) (locs : List Loc) (ls : Array Slot) (j6_2 : Int64), th_B G Γ Γ [(46, 22), (46, 24)] H0 H6 locs → th_RC G Γ H6 → lv_has ls 7 [(0, .ref a0), (1, .int p1), (2, .long j6_2)] → F = dv_lp (f_X12_termOf_6b d (f_X12_partOf d)) (dv G Γ H6, (a0 : Int), p1.toInt, j6_2.toInt) → (∃ m : Int, mo_f G H6 a0 22 = B + m ∧ 0 ≤ m ∧ mo_rest (mo_ce G H0 a0 B) (mo_part (mo_f G H0 a0 25) (mo_ce G H0 a0 B) d) mo_mul m j) → (B + j - mo_f G H6 a0 22) + 1 ≤ (n6 : Int) → W p l e ({ frames := 11 + 3 * d, cells := 0, slots := 0, locals := 423 + d * 80 } : Room) s m ([.ref a0, .int p1] : List Value).toArray below meth c H6 locs 0 0 (MQ below (th_Q (fun (v : Option Value) (H1 : Heap) => ∃ r : Int64, v = some (.long r) ∧ th_I G Γ H1 ∧ th_F G Γ [(46, 22), (46, 24)] H0 H1 ∧ th_RC G Γ H1 ∧ (mo_f G H1 a0 22 = B + j) ∧ (f_X12_termOf d (dv G Γ H0) (a0 : Int) p1.toInt = (dv G Γ H1, r.toInt))) G) ([.ref a0, .int p1] : List Value).toArray s 0 0 (fun q => G.2.2 ≤ q)) (F0 m 6 ls []) := by
    intro n6
    induction n6 with
    | zero => intro H6 locs ls j6_2 hB hR hl hF g6_0 hm6; exact absurd hm6 (by have := mo_lp (mo_part_lt _ _ _) g6_0; omega)
    | succ n6 ih6 =>
      intro H6 locs ls j6_2 hB hR hl hF g6_0 hm6
      have fv2_23 : mo_f G H6 a0 23 = mo_f G H0 a0 23 := mo_f_F hB.2.2 h0 (by decide) (by decide)
      have fv3_25 : mo_f G H6 a0 25 = mo_f G H0 a0 25 := mo_f_F hB.2.2 h0 (by decide) (by decide)
      have hm6 : (B + j - mo_f G H6 a0 22) + 1 ≤ (n6 : Int) + 1 := by omega
      replace hF := hF.trans (dv_lp_eq)
      replace hF := hF.trans (congrArg (dv_k (f_X12_termOf_6b d (f_X12_partOf d))) (f_X12_termOf_6c.eq_1 d (f_X12_partOf d) (dv G Γ H6) ((a0 : Int)) (p1.toInt) (j6_2.toInt)))
      refine lv_aload_n hx hb dX12_termOf_6 rfl (lv_at hl 0 rfl) ?_
      obtain ⟨m6, a6, b6, r6⟩ := g6_0
      refine lv_aload_n hx hb dX12_termOf_7 rfl (lv_at hl 0 rfl) ?_
      refine th_getI (j := 22) hC cf_X12 hB.1 h0 ro_46 rfl rfl kf_X12_281 dX12_termOf_8 (fun x4 mx4 lx4 ux4 => ?_)
      replace hF := hF.trans (congrArg (dv_k (f_X12_termOf_6b d (f_X12_partOf d))) (dv_bn (dv_getI h0 ro_46 (j := 22) rfl mx4 (by decide))))
      have fg5 : mo_f G H6 a0 22 = x4.toInt := mo_fat mx4
      refine th_call (th_runV (As := [.int x4]) (rest := []) hC mf_X12_codeAt km_X12_284 im_X12_codeAt se_X12_codeAt (c_X12_codeAt l G Γ H6 hB.1 hU a0 h0 x4 (by omega) B (by omega) (by omega)) rfl rfl ⟨by dsimp only; omega, by dsimp only; omega⟩ hB.1 h0 ro_46 rfl rfl hl.1 rfl (Nat.le_of_ble_eq_true rfl) dX12_termOf_11 ⟨Nat.le_refl _, Nat.le_refl _⟩) hB.2.1 (fun v11 H11 locs hp hz hS => ?_)
      obtain ⟨x6, rfl, q11_0, q11_1, rfl⟩ := hp
      have hB := th_B_s hB hS
      replace hF := hF.trans (congrArg (dv_k (f_X12_termOf_6b d (f_X12_partOf d))) (dv_bn2 (q11_1)))
      refine W.eq (g2 := F0 m 14 ls [.int x6]) rfl ?_
      have cd11 : mo_ce G H0 a0 B m6 = x6.toInt := by have q9 := q11_0; rw [mo_ce_F hB.1 hB.2.2 h0 (by decide)] at q9; rw [q9]; congr 1; omega
      refine lv_bipush (v := 42) hx hb dX12_termOf_14 (by decide) ?_
      refine th_call (th_runS (As := [.int 42]) (rest := [.int x6]) hC mf_X12_sign km_X12_240 st_X12_sign (c_X12_sign l G Γ H6 hB.1 hU 42 (by decide) (by decide)) rfl rfl ⟨by dsimp only; omega, by dsimp only; omega⟩ rfl hl.1 rfl (Nat.le_of_ble_eq_true rfl) dX12_termOf_16 ⟨Nat.le_refl _, Nat.le_refl _⟩) hB.2.1 (fun v16 H16 locs hp hz hS => ?_)
      obtain ⟨x7, rfl, lx7, ux7, q16_0, q16_1, rfl⟩ := hp
      have hB := th_B_s hB hS
      have w16_0 := tk_42
      have zf16 := q16_1
      rw [tk_42] at zf16
      replace hF := hF.trans (congrArg (dv_k (f_X12_termOf_6b d (f_X12_partOf d))) (dv_bn2 (zf16)))
      refine W.eq (g2 := F0 m 19 ls [.int x7, .int x6]) rfl ?_
      have jn54 : ∀ (locs : List Loc) (ls : Array Slot) , th_B G Γ Γ [(46, 22), (46, 24)] H0 H6 locs → lv_has ls 7 [(0, .ref a0), (1, .int p1), (2, .long j6_2)] → F = dv_k (f_X12_termOf_6b d (f_X12_partOf d)) (f_X12_termOf_54 d (f_X12_partOf d) (dv G Γ H6) ((a0 : Int)) (p1.toInt) (j6_2.toInt)) → mo_ce G H0 a0 B m6 = 142 ∨ mo_ce G H0 a0 B m6 = 147 ∨ mo_ce G H0 a0 B m6 = 137 → W p l e ({ frames := 11 + 3 * d, cells := 0, slots := 0, locals := 423 + d * 80 } : Room) s m ([.ref a0, .int p1] : List Value).toArray below meth c H6 locs 0 0 (MQ below (th_Q (fun (v : Option Value) (H1 : Heap) => ∃ r : Int64, v = some (.long r) ∧ th_I G Γ H1 ∧ th_F G Γ [(46, 22), (46, 24)] H0 H1 ∧ th_RC G Γ H1 ∧ (mo_f G H1 a0 22 = B + j) ∧ (f_X12_termOf d (dv G Γ H0) (a0 : Int) p1.toInt = (dv G Γ H1, r.toInt))) G) ([.ref a0, .int p1] : List Value).toArray s 0 0 (fun q => G.2.2 ≤ q)) (F0 m 54 ls []) := by
        intro locs ls hB hl hF g54_0
        replace hF := hF.trans (congrArg (dv_k (f_X12_termOf_6b d (f_X12_partOf d))) (f_X12_termOf_54.eq_1 d (f_X12_partOf d) (dv G Γ H6) ((a0 : Int)) (p1.toInt) (j6_2.toInt)))
        refine lv_aload_n hx hb dX12_termOf_54 rfl (lv_at hl 0 rfl) ?_
        refine lv_aload_n hx hb dX12_termOf_55 rfl (lv_at hl 0 rfl) ?_
        refine th_getK hC cf_X12 hB.1 h0 ro_46 rfl (j := 22) (by decide) mx4 kf_X12_281 dX12_termOf_56 ?_
        replace hF := hF.trans (congrArg (dv_k (f_X12_termOf_6b d (f_X12_partOf d))) (dv_bn (dv_getI h0 ro_46 (j := 22) rfl mx4 (by decide))))
        have fg8 : mo_f G H6 a0 22 = x4.toInt := mo_fat mx4
        refine th_call (th_runV (As := [.int x4]) (rest := []) hC mf_X12_codeAt km_X12_284 im_X12_codeAt se_X12_codeAt (c_X12_codeAt l G Γ H6 hB.1 hU a0 h0 x4 (by omega) B (by omega) (by omega)) rfl rfl ⟨by dsimp only; omega, by dsimp only; omega⟩ hB.1 h0 ro_46 rfl rfl hl.1 rfl (Nat.le_of_ble_eq_true rfl) dX12_termOf_59 ⟨Nat.le_refl _, Nat.le_refl _⟩) hB.2.1 (fun v59 H59 locs hp hz hS => ?_)
        obtain ⟨x9, rfl, q59_0, q59_1, rfl⟩ := hp
        have hB := th_B_s hB hS
        replace hF := hF.trans (congrArg (dv_k (f_X12_termOf_6b d (f_X12_partOf d))) (dv_bn2 (q59_1)))
        refine W.eq (g2 := F0 m 62 ls [.int x9]) rfl ?_
        have cd59 : mo_ce G H0 a0 B m6 = x9.toInt := by have q9 := q59_0; rw [mo_ce_F hB.1 hB.2.2 h0 (by decide)] at q9; rw [q9]; congr 1; omega
        refine lv_istore (lv' := [(4, .int x9), (0, .ref a0), (1, .int p1), (2, .long j6_2)]) hx hb dX12_termOf_62 hl (by decide) rfl (fun ls hl => ?_)
        refine lv_aload_n hx hb dX12_termOf_64 rfl (lv_at hl 1 rfl) ?_
        refine lv_dup hx hb dX12_termOf_65 rfl ?_
        refine th_getK hC cf_X12 hB.1 h0 ro_46 rfl (j := 22) (by decide) mx4 kf_X12_281 dX12_termOf_66 ?_
        replace hF := hF.trans (congrArg (dv_k (f_X12_termOf_6b d (f_X12_partOf d))) (dv_bn (dv_getI h0 ro_46 (j := 22) rfl mx4 (by decide))))
        have fg10 : mo_f G H6 a0 22 = x4.toInt := mo_fat mx4
        have nz66 := mo_ce_nz (show mo_ce G H0 a0 B m6 ≠ 0 by omega)
        refine lv_iconst (v := 1) hx hb dX12_termOf_69 (by decide) ?_
        refine tr_iadd hx hb dX12_termOf_70 (Eq.refl _) tk_1 (by omega) (by omega) (fun x11 ex11 => ?_)
        replace hF := hF.trans (congrArg (dv_k (f_X12_termOf_6b d (f_X12_partOf d))) (dv_bn (ex11.symm)))
        refine th_put hC cf_X12 hB h0 (Or.inl h0) ro_46 rfl (j := 22) rfl th_sIa (by decide) rfl rfl rfl kf_X12_281 dX12_termOf_71 (fun H71 locs hB hf hst71 => ?_)
        have hR := th_RC_F hB.1 hR hf (th_T_s h0 ro_46 hst71) (by decide)
        have fv_H71_23 : mo_f G H71 a0 23 = mo_f G H6 a0 23 := mo_f_F hf h0 (by decide) (by decide)
        have fv_H71_25 : mo_f G H71 a0 25 = mo_f G H6 a0 25 := mo_f_F hf h0 (by decide) (by decide)
        replace hF := hF.trans (congrArg (dv_k (f_X12_termOf_6b d (f_X12_partOf d))) (dv_bn (dv_putI hB.1 h0 ro_46 (j := 22) rfl (th_apart hC cf_X12) hst71 (Eq.refl _) (by decide))))
        have fp71 : mo_f G H71 a0 22 = x11.toInt := mo_f_St hst71
        have mm12 := hst71.2.1
        refine lv_aload_n hx hb dX12_termOf_74 rfl (lv_at hl 1 rfl) ?_
        refine lv_iload_n hx hb dX12_termOf_75 rfl (lv_at hl 2 rfl) ?_
        obtain ⟨m7, p7, r7⟩ := mo_rest_op r6 (show mo_ce G H0 a0 B m6 = 142 ∨ mo_ce G H0 a0 B m6 = 147 ∨ mo_ce G H0 a0 B m6 = 137 by omega)
        have lt7 := mo_part_lt _ _ _ _ _ p7
        refine th_call (th_runV (As := [.int p1]) (rest := []) hC mf_X12_partOf km_X12_302 im_X12_partOf se_X12_partOf (ihp l G Γ H71 hB.1 hR hU a0 h0 p1 (by omega) (by omega) B (m6 + 1) m7 ⟨by omega, by omega, by omega, by omega⟩ (by rw [mo_f_F hB.2.2 h0 (j := 25) (by decide) (by decide), mo_ce_F hB.1 hB.2.2 h0 (by decide)]; exact p7)) rfl rfl ⟨by dsimp only; omega, by dsimp only; omega⟩ hB.1 h0 ro_46 rfl rfl hl.1 rfl (Nat.le_of_ble_eq_true rfl) dX12_termOf_76 ⟨Nat.le_refl _, Nat.le_refl _⟩) hB.2.1 (fun v76 H76 locs hp hz hS => ?_)
        obtain ⟨y13, rfl, hI1, hf, hR, z76_0, z76_1⟩ := hp
        have hB := th_B_c hB hI1 hS hf (by decide)
        have fv_H76_23 : mo_f G H76 a0 23 = mo_f G H71 a0 23 := mo_f_F hf h0 (by decide) (by decide)
        have fv_H76_25 : mo_f G H76 a0 25 = mo_f G H71 a0 25 := mo_f_F hf h0 (by decide) (by decide)
        replace hF := hF.trans (congrArg (dv_k (f_X12_termOf_6b d (f_X12_partOf d))) (dv_bn2 (z76_1)))
        refine W.eq (g2 := F0 m 79 ls [.long y13]) rfl ?_
        refine lv_lstore (lv' := [(5, .long y13), (4, .int x9), (0, .ref a0), (1, .int p1), (2, .long j6_2)]) hx hb dX12_termOf_79 hl (by decide) rfl (fun ls hl => ?_)
        refine lv_iload hx hb dX12_termOf_81 (lv_at hl 1 rfl) ?_
        refine lv_bipush (v := 42) hx hb dX12_termOf_83 (by decide) ?_
        refine th_call (th_runS (As := [.int 42]) (rest := [.int x9]) hC mf_X12_sign km_X12_240 st_X12_sign (c_X12_sign l G Γ H76 hB.1 hU 42 (by decide) (by decide)) rfl rfl ⟨by dsimp only; omega, by dsimp only; omega⟩ rfl hl.1 rfl (Nat.le_of_ble_eq_true rfl) dX12_termOf_85 ⟨Nat.le_refl _, Nat.le_refl _⟩) hB.2.1 (fun v85 H85 locs hp hz hS => ?_)
        obtain ⟨x14, rfl, lx14, ux14, q85_0, q85_1, rfl⟩ := hp
        have hB := th_B_s hB hS
        have w85_0 := tk_42
        have zf85 := q85_1
        rw [tk_42] at zf85
        replace hF := hF.trans (congrArg (dv_k (f_X12_termOf_6b d (f_X12_partOf d))) (dv_bn2 (zf85)))
        refine W.eq (g2 := F0 m 88 ls [.int x14, .int x9]) rfl ?_
        have jn121 : ∀ (H121 : Heap) (locs : List Loc) (ls : Array Slot) (j121_5 : Int64), th_B G Γ Γ [(46, 22), (46, 24)] H0 H121 locs → th_RC G Γ H121 → lv_has ls 7 [(4, .int x9), (0, .ref a0), (1, .int p1), (2, .long j6_2), (5, .long j121_5)] → F = dv_k (f_X12_termOf_6b d (f_X12_partOf d)) (f_X12_termOf_121 d (f_X12_partOf d) (dv G Γ H121) (x9.toInt) ((a0 : Int)) (p1.toInt) (j6_2.toInt) (j121_5.toInt)) → (x9.toInt = 142 ∨ j121_5 ≠ 0) → mo_f G H121 a0 22 = B + m7 → W p l e ({ frames := 11 + 3 * d, cells := 0, slots := 0, locals := 423 + d * 80 } : Room) s m ([.ref a0, .int p1] : List Value).toArray below meth c H121 locs 0 0 (MQ below (th_Q (fun (v : Option Value) (H1 : Heap) => ∃ r : Int64, v = some (.long r) ∧ th_I G Γ H1 ∧ th_F G Γ [(46, 22), (46, 24)] H0 H1 ∧ th_RC G Γ H1 ∧ (mo_f G H1 a0 22 = B + j) ∧ (f_X12_termOf d (dv G Γ H0) (a0 : Int) p1.toInt = (dv G Γ H1, r.toInt))) G) ([.ref a0, .int p1] : List Value).toArray s 0 0 (fun q => G.2.2 ≤ q)) (F0 m 121 ls []) := by
          intro H121 locs ls j121_5 hB hR hl hF g121_0 g121_1
          have fv15_23 : mo_f G H121 a0 23 = mo_f G H0 a0 23 := mo_f_F hB.2.2 h0 (by decide) (by decide)
          have fv16_25 : mo_f G H121 a0 25 = mo_f G H0 a0 25 := mo_f_F hB.2.2 h0 (by decide) (by decide)
          replace hF := hF.trans (congrArg (dv_k (f_X12_termOf_6b d (f_X12_partOf d))) (f_X12_termOf_121.eq_1 d (f_X12_partOf d) (dv G Γ H121) (x9.toInt) ((a0 : Int)) (p1.toInt) (j6_2.toInt) (j121_5.toInt)))
          refine lv_aload_n hx hb dX12_termOf_121 rfl (lv_at hl 1 rfl) ?_
          refine lv_iload hx hb dX12_termOf_122 (lv_at hl 0 rfl) ?_
          refine lv_bipush (v := 42) hx hb dX12_termOf_124 (by decide) ?_
          refine th_call (th_runS (As := [.int 42]) (rest := [.int x9, .ref a0]) hC mf_X12_sign km_X12_240 st_X12_sign (c_X12_sign l G Γ H121 hB.1 hU 42 (by decide) (by decide)) rfl rfl ⟨by dsimp only; omega, by dsimp only; omega⟩ rfl hl.1 rfl (Nat.le_of_ble_eq_true rfl) dX12_termOf_126 ⟨Nat.le_refl _, Nat.le_refl _⟩) hB.2.1 (fun v126 H126 locs hp hz hS => ?_)
          obtain ⟨x17, rfl, lx17, ux17, q126_0, q126_1, rfl⟩ := hp
          have hB := th_B_s hB hS
          have w126_0 := tk_42
          have zf126 := q126_1
          rw [tk_42] at zf126
          replace hF := hF.trans (congrArg (dv_k (f_X12_termOf_6b d (f_X12_partOf d))) (dv_bn2 (zf126)))
          refine W.eq (g2 := F0 m 129 ls [.int x17, .int x9, .ref a0]) rfl ?_
          have jn160 : ∀ (locs : List Loc) (ls : Array Slot) (s160_1 : Int64), th_B G Γ Γ [(46, 22), (46, 24)] H0 H121 locs → lv_has ls 7 [(0, .ref a0), (1, .int p1)] → F = dv_k (f_X12_termOf_6b d (f_X12_partOf d)) (f_X12_termOf_160 d (f_X12_partOf d) (dv G Γ H121) ((a0 : Int)) (p1.toInt) (s160_1.toInt)) → W p l e ({ frames := 11 + 3 * d, cells := 0, slots := 0, locals := 423 + d * 80 } : Room) s m ([.ref a0, .int p1] : List Value).toArray below meth c H121 locs 0 0 (MQ below (th_Q (fun (v : Option Value) (H1 : Heap) => ∃ r : Int64, v = some (.long r) ∧ th_I G Γ H1 ∧ th_F G Γ [(46, 22), (46, 24)] H0 H1 ∧ th_RC G Γ H1 ∧ (mo_f G H1 a0 22 = B + j) ∧ (f_X12_termOf d (dv G Γ H0) (a0 : Int) p1.toInt = (dv G Γ H1, r.toInt))) G) ([.ref a0, .int p1] : List Value).toArray s 0 0 (fun q => G.2.2 ≤ q)) (F0 m 160 ls [.long s160_1, .ref a0]) := by
            intro locs ls s160_1 hB hl hF
            replace hF := hF.trans (congrArg (dv_k (f_X12_termOf_6b d (f_X12_partOf d))) (f_X12_termOf_160.eq_1 d (f_X12_partOf d) (dv G Γ H121) ((a0 : Int)) (p1.toInt) (s160_1.toInt)))
            refine lv_iload_n hx hb dX12_termOf_160 rfl (lv_at hl 1 rfl) ?_
            refine th_call (th_runV (As := [.long s160_1, .int p1]) (rest := []) hC mf_X12_bounded km_X12_298 im_X12_bounded se_X12_bounded (c_X12_bounded l G Γ H121 hB.1 hR hU a0 h0 s160_1 p1 (by omega) (by omega)) rfl rfl ⟨by dsimp only; omega, by dsimp only; omega⟩ hB.1 h0 ro_46 rfl rfl hl.1 rfl (Nat.le_of_ble_eq_true rfl) dX12_termOf_161 ⟨Nat.le_refl _, Nat.le_refl _⟩) hB.2.1 (fun v161 H161 locs hp hz hS => ?_)
            obtain ⟨y18, rfl, hI1, hf, hR, z161_0⟩ := hp
            have hB := th_B_c hB hI1 hS hf (by decide)
            have fv_H161_22 : mo_f G H161 a0 22 = mo_f G H121 a0 22 := mo_f_F hf h0 (by decide) (by decide)
            have fv_H161_23 : mo_f G H161 a0 23 = mo_f G H121 a0 23 := mo_f_F hf h0 (by decide) (by decide)
            have fv_H161_25 : mo_f G H161 a0 25 = mo_f G H121 a0 25 := mo_f_F hf h0 (by decide) (by decide)
            replace hF := hF.trans (congrArg (dv_k (f_X12_termOf_6b d (f_X12_partOf d))) (dv_bn2 (z161_0)))
            refine W.eq (g2 := F0 m 164 ls [.long y18]) rfl ?_
            refine lv_lstore_n (lv' := [(2, .long y18), (0, .ref a0), (1, .int p1)]) hx hb dX12_termOf_164 rfl hl (by decide) rfl (fun ls hl => ?_)
            refine lv_goto (tgt := 6) hx hb dX12_termOf_165 (by decide) ?_
            replace hF := hF.trans (dv_kl)
            exact ih6 H161 locs ls y18 hB hR (lv_sub hl [1, 2, 0] rfl) hF ⟨m7, by omega, by omega, r7⟩ (by omega)
          refine tr_icmp_ne (tgt := 139) hx hb dX12_termOf_129 (by decide) (Eq.refl _) (Eq.refl _) (fun c129 => ?_) (fun c129 => ?_)
          · replace hF := hF.trans (congrArg (dv_k (f_X12_termOf_6b d (f_X12_partOf d))) (if_pos c129))
            refine lv_iload hx hb dX12_termOf_139 (lv_at hl 0 rfl) ?_
            refine lv_bipush (v := 47) hx hb dX12_termOf_141 (by decide) ?_
            refine th_call (th_runS (As := [.int 47]) (rest := [.int x9, .ref a0]) hC mf_X12_sign km_X12_240 st_X12_sign (c_X12_sign l G Γ H121 hB.1 hU 47 (by decide) (by decide)) rfl rfl ⟨by dsimp only; omega, by dsimp only; omega⟩ rfl hl.1 rfl (Nat.le_of_ble_eq_true rfl) dX12_termOf_143 ⟨Nat.le_refl _, Nat.le_refl _⟩) hB.2.1 (fun v143 H143 locs hp hz hS => ?_)
            obtain ⟨x19, rfl, lx19, ux19, q143_0, q143_1, rfl⟩ := hp
            have hB := th_B_s hB hS
            have w143_0 := tk_47
            have zf143 := q143_1
            rw [tk_47] at zf143
            replace hF := hF.trans (congrArg (dv_k (f_X12_termOf_6b d (f_X12_partOf d))) (dv_bn2 (zf143)))
            refine W.eq (g2 := F0 m 146 ls [.int x19, .int x9, .ref a0]) rfl ?_
            refine tr_icmp_ne (tgt := 156) hx hb dX12_termOf_146 (by decide) (Eq.refl _) (Eq.refl _) (fun c146 => ?_) (fun c146 => ?_)
            · replace hF := hF.trans (congrArg (dv_k (f_X12_termOf_6b d (f_X12_partOf d))) (if_pos c146))
              refine lv_lload_n hx hb dX12_termOf_156 rfl (lv_at hl 3 rfl) ?_
              refine lv_lload hx hb dX12_termOf_157 (lv_at hl 4 rfl) ?_
              refine lv_lrem hx hb dX12_termOf_159 (g121_0.resolve_left (by omega)) ?_
              refine lv_topl (fun y20 ey20 => ?_)
              replace hF := hF.trans (congrArg (dv_k (f_X12_termOf_6b d (f_X12_partOf d))) (dv_bn (dv_lrem_e (Eq.refl (j6_2.toInt)) (Eq.refl (j121_5.toInt)) ey20)))
              exact jn160 locs ls y20 hB (lv_sub hl [1, 2] rfl) hF
            · replace hF := hF.trans (congrArg (dv_k (f_X12_termOf_6b d (f_X12_partOf d))) (if_neg (not_not_intro c146)))
              refine lv_lload_n hx hb dX12_termOf_149 rfl (lv_at hl 3 rfl) ?_
              refine lv_lload hx hb dX12_termOf_150 (lv_at hl 4 rfl) ?_
              refine lv_ldiv hx hb dX12_termOf_152 (g121_0.resolve_left (by omega)) ?_
              refine lv_topl (fun y21 ey21 => ?_)
              replace hF := hF.trans (congrArg (dv_k (f_X12_termOf_6b d (f_X12_partOf d))) (dv_bn (dv_ldiv_e (Eq.refl (j6_2.toInt)) (Eq.refl (j121_5.toInt)) ey21)))
              refine lv_goto (tgt := 160) hx hb dX12_termOf_153 (by decide) ?_
              exact jn160 locs ls y21 hB (lv_sub hl [1, 2] rfl) hF
          · replace hF := hF.trans (congrArg (dv_k (f_X12_termOf_6b d (f_X12_partOf d))) (if_neg (not_not_intro c129)))
            refine lv_lload_n hx hb dX12_termOf_132 rfl (lv_at hl 3 rfl) ?_
            refine lv_lload hx hb dX12_termOf_133 (lv_at hl 4 rfl) ?_
            refine lv_lmul hx hb dX12_termOf_135 ?_
            refine lv_topl (fun y22 ey22 => ?_)
            replace hF := hF.trans (congrArg (dv_k (f_X12_termOf_6b d (f_X12_partOf d))) (dv_bn (dv_lmul_e (Eq.refl (j6_2.toInt)) (Eq.refl (j121_5.toInt)) ey22)))
            refine lv_goto (tgt := 160) hx hb dX12_termOf_136 (by decide) ?_
            exact jn160 locs ls y22 hB (lv_sub hl [1, 2] rfl) hF
        refine tr_icmp_eq (tgt := 121) hx hb dX12_termOf_88 (by decide) (Eq.refl _) (Eq.refl _) (fun c88 => ?_) (fun c88 => ?_)
        · replace hF := hF.trans (congrArg (dv_k (f_X12_termOf_6b d (f_X12_partOf d))) (if_pos c88))
          exact jn121 H76 locs ls y13 hB hR (lv_sub hl [1, 2, 3, 4, 0] rfl) hF (by first | exact Or.inl (by omega) | exact Or.inr (by decide) | exact Or.inr (fun q9 => absurd (gx44.mpr q9) (by omega))) (by omega)
        · replace hF := hF.trans (congrArg (dv_k (f_X12_termOf_6b d (f_X12_partOf d))) (if_neg c88))
          refine lv_lload hx hb dX12_termOf_91 (lv_at hl 0 rfl) ?_
          refine lv_lconst (v := 0) hx hb dX12_termOf_93 rfl ?_
          refine tr_lcmp2 hx hb dX12_termOf_94 (fun x23 fx23 gx23 ix23 => ?_)
          replace hF := hF.trans (congrArg (dv_k (f_X12_termOf_6b d (f_X12_partOf d))) (dv_bn (dv_lcmp_e (Eq.refl (y13.toInt)) (rfl : (0 : Int64).toInt = 0) fx23 ix23)))
          refine tr_if_ne (tgt := 121) hx hb dX12_termOf_95 (by decide) (Eq.refl _) (fun c95 => ?_) (fun c95 => ?_)
          · replace hF := hF.trans (congrArg (dv_k (f_X12_termOf_6b d (f_X12_partOf d))) (if_pos c95))
            exact jn121 H76 locs ls y13 hB hR (lv_sub hl [1, 2, 3, 4, 0] rfl) hF (by first | exact Or.inl (by omega) | exact Or.inr (by decide) | exact Or.inr (fun q9 => absurd (gx23.mpr q9) (by omega))) (by omega)
          · replace hF := hF.trans (congrArg (dv_k (f_X12_termOf_6b d (f_X12_partOf d))) (if_neg (not_not_intro c95)))
            refine lv_aload_n hx hb dX12_termOf_98 rfl (lv_at hl 2 rfl) ?_
            refine lv_aload_n hx hb dX12_termOf_99 rfl (lv_at hl 2 rfl) ?_
            refine th_getI (j := 24) hC cf_X12 hB.1 h0 ro_46 rfl rfl kf_X12_291 dX12_termOf_100 (fun x24 mx24 lx24 ux24 => ?_)
            replace hF := hF.trans (congrArg (dv_k (f_X12_termOf_6b d (f_X12_partOf d))) (dv_bn (dv_getI h0 ro_46 (j := 24) rfl mx24 (by decide))))
            have jn115 : ∀ (locs : List Loc) (ls : Array Slot) (s115_1 : Int32), th_B G Γ Γ [(46, 22), (46, 24)] H0 H76 locs → lv_has ls 7 [(4, .int x9), (0, .ref a0), (1, .int p1), (2, .long j6_2)] → F = dv_k (f_X12_termOf_6b d (f_X12_partOf d)) (f_X12_termOf_115 d (f_X12_partOf d) (dv G Γ H76) (x9.toInt) ((a0 : Int)) (p1.toInt) (j6_2.toInt) (s115_1.toInt)) → 0 ≤ s115_1.toInt → s115_1.toInt ≤ 1 → W p l e ({ frames := 11 + 3 * d, cells := 0, slots := 0, locals := 423 + d * 80 } : Room) s m ([.ref a0, .int p1] : List Value).toArray below meth c H76 locs 0 0 (MQ below (th_Q (fun (v : Option Value) (H1 : Heap) => ∃ r : Int64, v = some (.long r) ∧ th_I G Γ H1 ∧ th_F G Γ [(46, 22), (46, 24)] H0 H1 ∧ th_RC G Γ H1 ∧ (mo_f G H1 a0 22 = B + j) ∧ (f_X12_termOf d (dv G Γ H0) (a0 : Int) p1.toInt = (dv G Γ H1, r.toInt))) G) ([.ref a0, .int p1] : List Value).toArray s 0 0 (fun q => G.2.2 ≤ q)) (F0 m 115 ls [.int s115_1, .ref a0]) := by
              intro locs ls s115_1 hB hl hF g115_0 g115_1
              have ls115_1 := ti_lo s115_1; have us115_1 := ti_hi s115_1
              replace hF := hF.trans (congrArg (dv_k (f_X12_termOf_6b d (f_X12_partOf d))) (f_X12_termOf_115.eq_1 d (f_X12_partOf d) (dv G Γ H76) (x9.toInt) ((a0 : Int)) (p1.toInt) (j6_2.toInt) (s115_1.toInt)))
              refine th_put hC cf_X12 hB h0 (Or.inl h0) ro_46 rfl (j := 24) rfl (th_sI (by omega) (by omega)) (by decide) rfl (th_nb (by omega) (by omega)) (th_fb (by omega) (by omega)) kf_X12_291 dX12_termOf_115 (fun H115 locs hB hf hst115 => ?_)
              have hR := th_RC_F hB.1 hR hf (th_T_s h0 ro_46 hst115) (by decide)
              have fv_H115_22 : mo_f G H115 a0 22 = mo_f G H76 a0 22 := mo_f_F hf h0 (by decide) (by decide)
              have fv_H115_23 : mo_f G H115 a0 23 = mo_f G H76 a0 23 := mo_f_F hf h0 (by decide) (by decide)
              have fv_H115_25 : mo_f G H115 a0 25 = mo_f G H76 a0 25 := mo_f_F hf h0 (by decide) (by decide)
              replace hF := hF.trans (congrArg (dv_k (f_X12_termOf_6b d (f_X12_partOf d))) (dv_bn (dv_putI hB.1 h0 ro_46 (j := 24) rfl (th_apart hC cf_X12) hst115 (Eq.refl _) (by decide))))
              have mm25 := hst115.2.1
              refine lv_lconst (v := 1) hx hb dX12_termOf_118 rfl ?_
              refine lv_lstore (lv' := [(5, .long 1), (4, .int x9), (0, .ref a0), (1, .int p1), (2, .long j6_2)]) hx hb dX12_termOf_119 hl (by decide) rfl (fun ls hl => ?_)
              exact jn121 H115 locs ls 1 hB hR (lv_sub hl [1, 2, 3, 4, 0] rfl) (by rw [show (1 : Int64).toInt = 1 from rfl]; exact hF) (by first | exact Or.inl (by omega) | exact Or.inr (by decide) | exact Or.inr (fun q9 => absurd (gx23.mpr q9) (by omega))) (by omega)
            have jn110 : ∀ (locs : List Loc) (ls : Array Slot) , th_B G Γ Γ [(46, 22), (46, 24)] H0 H76 locs → lv_has ls 7 [(4, .int x9), (0, .ref a0), (1, .int p1), (2, .long j6_2)] → F = dv_k (f_X12_termOf_6b d (f_X12_partOf d)) (f_X12_termOf_110 d (f_X12_partOf d) (dv G Γ H76) (x9.toInt) ((a0 : Int)) (p1.toInt) (j6_2.toInt)) → W p l e ({ frames := 11 + 3 * d, cells := 0, slots := 0, locals := 423 + d * 80 } : Room) s m ([.ref a0, .int p1] : List Value).toArray below meth c H76 locs 0 0 (MQ below (th_Q (fun (v : Option Value) (H1 : Heap) => ∃ r : Int64, v = some (.long r) ∧ th_I G Γ H1 ∧ th_F G Γ [(46, 22), (46, 24)] H0 H1 ∧ th_RC G Γ H1 ∧ (mo_f G H1 a0 22 = B + j) ∧ (f_X12_termOf d (dv G Γ H0) (a0 : Int) p1.toInt = (dv G Γ H1, r.toInt))) G) ([.ref a0, .int p1] : List Value).toArray s 0 0 (fun q => G.2.2 ≤ q)) (F0 m 110 ls [.ref a0]) := by
              intro locs ls hB hl hF
              replace hF := hF.trans (congrArg (dv_k (f_X12_termOf_6b d (f_X12_partOf d))) (f_X12_termOf_110.eq_1 d (f_X12_partOf d) (dv G Γ H76) (x9.toInt) ((a0 : Int)) (p1.toInt) (j6_2.toInt)))
              refine lv_iconst (v := 1) hx hb dX12_termOf_110 (by decide) ?_
              refine lv_goto (tgt := 115) hx hb dX12_termOf_111 (by decide) ?_
              exact jn115 locs ls 1 hB (lv_sub hl [0, 1, 2, 3] rfl) (by rw [tk_1]; exact hF) (by decide) (by decide)
            refine tr_if_ne (tgt := 110) hx hb dX12_termOf_103 (by decide) (Eq.refl _) (fun c103 => ?_) (fun c103 => ?_)
            · replace hF := hF.trans (congrArg (dv_k (f_X12_termOf_6b d (f_X12_partOf d))) (if_pos c103))
              exact jn110 locs ls hB (lv_sub hl [1, 2, 3, 4] rfl) hF
            · replace hF := hF.trans (congrArg (dv_k (f_X12_termOf_6b d (f_X12_partOf d))) (if_neg (not_not_intro c103)))
              refine lv_iload_n hx hb dX12_termOf_106 rfl (lv_at hl 3 rfl) ?_
              refine tr_if_eq (tgt := 114) hx hb dX12_termOf_107 (by decide) (Eq.refl _) (fun c107 => ?_) (fun c107 => ?_)
              · replace hF := hF.trans (congrArg (dv_k (f_X12_termOf_6b d (f_X12_partOf d))) (if_pos c107))
                refine lv_iconst (v := 0) hx hb dX12_termOf_114 (by decide) ?_
                exact jn115 locs ls 0 hB (lv_sub hl [1, 2, 3, 4] rfl) (by rw [tk_0]; exact hF) (by decide) (by decide)
              · replace hF := hF.trans (congrArg (dv_k (f_X12_termOf_6b d (f_X12_partOf d))) (if_neg c107))
                exact jn110 locs ls hB (lv_sub hl [1, 2, 3, 4] rfl) hF
      refine tr_icmp_eq (tgt := 54) hx hb dX12_termOf_19 (by decide) (Eq.refl _) (Eq.refl _) (fun c19 => ?_) (fun c19 => ?_)
      · replace hF := hF.trans (congrArg (dv_k (f_X12_termOf_6b d (f_X12_partOf d))) (if_pos c19))
        exact jn54 locs ls hB (lv_sub hl [0, 1, 2] rfl) hF (by omega)
      · replace hF := hF.trans (congrArg (dv_k (f_X12_termOf_6b d (f_X12_partOf d))) (if_neg c19))
        refine lv_aload_n hx hb dX12_termOf_22 rfl (lv_at hl 0 rfl) ?_
        refine lv_aload_n hx hb dX12_termOf_23 rfl (lv_at hl 0 rfl) ?_
        refine th_getK hC cf_X12 hB.1 h0 ro_46 rfl (j := 22) (by decide) mx4 kf_X12_281 dX12_termOf_24 ?_
        replace hF := hF.trans (congrArg (dv_k (f_X12_termOf_6b d (f_X12_partOf d))) (dv_bn (dv_getI h0 ro_46 (j := 22) rfl mx4 (by decide))))
        have fg26 : mo_f G H6 a0 22 = x4.toInt := mo_fat mx4
        refine th_call (th_runV (As := [.int x4]) (rest := []) hC mf_X12_codeAt km_X12_284 im_X12_codeAt se_X12_codeAt (c_X12_codeAt l G Γ H6 hB.1 hU a0 h0 x4 (by omega) B (by omega) (by omega)) rfl rfl ⟨by dsimp only; omega, by dsimp only; omega⟩ hB.1 h0 ro_46 rfl rfl hl.1 rfl (Nat.le_of_ble_eq_true rfl) dX12_termOf_27 ⟨Nat.le_refl _, Nat.le_refl _⟩) hB.2.1 (fun v27 H27 locs hp hz hS => ?_)
        obtain ⟨x27, rfl, q27_0, q27_1, rfl⟩ := hp
        have hB := th_B_s hB hS
        replace hF := hF.trans (congrArg (dv_k (f_X12_termOf_6b d (f_X12_partOf d))) (dv_bn2 (q27_1)))
        refine W.eq (g2 := F0 m 30 ls [.int x27]) rfl ?_
        have cd27 : mo_ce G H0 a0 B m6 = x27.toInt := by have q9 := q27_0; rw [mo_ce_F hB.1 hB.2.2 h0 (by decide)] at q9; rw [q9]; congr 1; omega
        refine lv_bipush (v := 47) hx hb dX12_termOf_30 (by decide) ?_
        refine th_call (th_runS (As := [.int 47]) (rest := [.int x27]) hC mf_X12_sign km_X12_240 st_X12_sign (c_X12_sign l G Γ H6 hB.1 hU 47 (by decide) (by decide)) rfl rfl ⟨by dsimp only; omega, by dsimp only; omega⟩ rfl hl.1 rfl (Nat.le_of_ble_eq_true rfl) dX12_termOf_32 ⟨Nat.le_refl _, Nat.le_refl _⟩) hB.2.1 (fun v32 H32 locs hp hz hS => ?_)
        obtain ⟨x28, rfl, lx28, ux28, q32_0, q32_1, rfl⟩ := hp
        have hB := th_B_s hB hS
        have w32_0 := tk_47
        have zf32 := q32_1
        rw [tk_47] at zf32
        replace hF := hF.trans (congrArg (dv_k (f_X12_termOf_6b d (f_X12_partOf d))) (dv_bn2 (zf32)))
        refine W.eq (g2 := F0 m 35 ls [.int x28, .int x27]) rfl ?_
        refine tr_icmp_eq (tgt := 54) hx hb dX12_termOf_35 (by decide) (Eq.refl _) (Eq.refl _) (fun c35 => ?_) (fun c35 => ?_)
        · replace hF := hF.trans (congrArg (dv_k (f_X12_termOf_6b d (f_X12_partOf d))) (if_pos c35))
          exact jn54 locs ls hB (lv_sub hl [0, 1, 2] rfl) hF (by omega)
        · replace hF := hF.trans (congrArg (dv_k (f_X12_termOf_6b d (f_X12_partOf d))) (if_neg c35))
          refine lv_aload_n hx hb dX12_termOf_38 rfl (lv_at hl 0 rfl) ?_
          refine lv_aload_n hx hb dX12_termOf_39 rfl (lv_at hl 0 rfl) ?_
          refine th_getK hC cf_X12 hB.1 h0 ro_46 rfl (j := 22) (by decide) mx4 kf_X12_281 dX12_termOf_40 ?_
          replace hF := hF.trans (congrArg (dv_k (f_X12_termOf_6b d (f_X12_partOf d))) (dv_bn (dv_getI h0 ro_46 (j := 22) rfl mx4 (by decide))))
          have fg29 : mo_f G H6 a0 22 = x4.toInt := mo_fat mx4
          refine th_call (th_runV (As := [.int x4]) (rest := []) hC mf_X12_codeAt km_X12_284 im_X12_codeAt se_X12_codeAt (c_X12_codeAt l G Γ H6 hB.1 hU a0 h0 x4 (by omega) B (by omega) (by omega)) rfl rfl ⟨by dsimp only; omega, by dsimp only; omega⟩ hB.1 h0 ro_46 rfl rfl hl.1 rfl (Nat.le_of_ble_eq_true rfl) dX12_termOf_43 ⟨Nat.le_refl _, Nat.le_refl _⟩) hB.2.1 (fun v43 H43 locs hp hz hS => ?_)
          obtain ⟨x30, rfl, q43_0, q43_1, rfl⟩ := hp
          have hB := th_B_s hB hS
          replace hF := hF.trans (congrArg (dv_k (f_X12_termOf_6b d (f_X12_partOf d))) (dv_bn2 (q43_1)))
          refine W.eq (g2 := F0 m 46 ls [.int x30]) rfl ?_
          have cd43 : mo_ce G H0 a0 B m6 = x30.toInt := by have q9 := q43_0; rw [mo_ce_F hB.1 hB.2.2 h0 (by decide)] at q9; rw [q9]; congr 1; omega
          refine lv_bipush (v := 37) hx hb dX12_termOf_46 (by decide) ?_
          refine th_call (th_runS (As := [.int 37]) (rest := [.int x30]) hC mf_X12_sign km_X12_240 st_X12_sign (c_X12_sign l G Γ H6 hB.1 hU 37 (by decide) (by decide)) rfl rfl ⟨by dsimp only; omega, by dsimp only; omega⟩ rfl hl.1 rfl (Nat.le_of_ble_eq_true rfl) dX12_termOf_48 ⟨Nat.le_refl _, Nat.le_refl _⟩) hB.2.1 (fun v48 H48 locs hp hz hS => ?_)
          obtain ⟨x31, rfl, lx31, ux31, q48_0, q48_1, rfl⟩ := hp
          have hB := th_B_s hB hS
          have w48_0 := tk_37
          have zf48 := q48_1
          rw [tk_37] at zf48
          replace hF := hF.trans (congrArg (dv_k (f_X12_termOf_6b d (f_X12_partOf d))) (dv_bn2 (zf48)))
          refine W.eq (g2 := F0 m 51 ls [.int x31, .int x30]) rfl ?_
          refine tr_icmp_ne (tgt := 168) hx hb dX12_termOf_51 (by decide) (Eq.refl _) (Eq.refl _) (fun c51 => ?_) (fun c51 => ?_)
          · replace hF := hF.trans (congrArg (dv_k (f_X12_termOf_6b d (f_X12_partOf d))) (if_pos c51))
            refine lv_lload_n hx hb dX12_termOf_168 rfl (lv_at hl 2 rfl) ?_
            replace hF := hF.trans (dv_kr)
            exact th_lret hC hH hr hlocks hB.2.1 ⟨_, rfl, hB.1, hB.2.2, hR, by rw [← mo_rest_end r6 (show ¬ (mo_ce G H0 a0 B m6 = 142 ∨ mo_ce G H0 a0 B m6 = 147 ∨ mo_ce G H0 a0 B m6 = 137) by omega)]; exact a6, (hF0.symm.trans hF)⟩ dX12_termOf_169
          · replace hF := hF.trans (congrArg (dv_k (f_X12_termOf_6b d (f_X12_partOf d))) (if_neg (not_not_intro c51)))
            exact jn54 locs ls hB (lv_sub hl [0, 1, 2] rfl) hF (by omega)
  exact lp6 ((B + j - mo_f G H2 a0 22) + 1).toNat H2 locs ls y1 hB hR (lv_sub hl [1, 2, 0] rfl) hF ⟨m1, by omega, by omega, r1⟩ (by omega)

set_option maxHeartbeats 4000000 in
set_option maxRecDepth 100000 in
theorem c_X12_sumOf_s (d : Nat) (ihp : s_X12_termOf d) : s_X12_sumOf d := by
  intro l G Γ H0 hI hR hU a0 h0 p1 f1 g1 B i j k1 k2
  refine th_met RX12 (by decide) rfl (Nat.le_of_ble_eq_true rfl) ?_
  intro p e s m below meth c hC hH hr hlocks hnm ls hl
  have hx := hC.1
  have hb := hC.2.1
  have hB : th_B G Γ Γ [(46, 22), (46, 24)] H0 H0 [] := ⟨hI, va_S.rf, th_F_rf⟩
  have hl : lv_has ls 7 [(0, .ref a0), (1, .int p1)] := hl
  have lp1 := ti_lo p1; have up1 := ti_hi p1
  obtain ⟨F, hF0⟩ : ∃ F, F = f_X12_sumOf d (dv G Γ H0) ((a0 : Int)) (p1.toInt) := ⟨_, rfl⟩
  have hF := hF0.trans ((f_X12_sumOf_d d (dv G Γ H0) ((a0 : Int)) (p1.toInt)).trans (f_X12_sumOf_B.eq_1 d (f_X12_termOf d) (dv G Γ H0) ((a0 : Int)) (p1.toInt)))
  refine lv_aload_n hx hb dX12_sumOf_0 rfl (lv_at hl 0 rfl) ?_
  obtain ⟨m1, p1_, r1⟩ := mo_chain_open k2
  have lt1 := mo_term_lt _ _ _ _ _ p1_
  refine lv_iload_n hx hb dX12_sumOf_1 rfl (lv_at hl 1 rfl) ?_
  refine th_call (th_runV (As := [.int p1]) (rest := []) hC mf_X12_termOf km_X12_294 im_X12_termOf se_X12_termOf (ihp l G Γ H0 hB.1 hR hU a0 h0 p1 (by omega) (by omega) B i m1 k1 p1_) rfl rfl ⟨by dsimp only; omega, by dsimp only; omega⟩ hB.1 h0 ro_46 rfl rfl hl.1 rfl (Nat.le_of_ble_eq_true rfl) dX12_sumOf_2 ⟨Nat.le_refl _, Nat.le_refl _⟩) hB.2.1 (fun v2 H2 locs hp hz hS => ?_)
  obtain ⟨y1, rfl, hI1, hf, hR, z2_0, z2_1⟩ := hp
  have hB := th_B_c hB hI1 hS hf (by decide)
  have fv_H2_23 : mo_f G H2 a0 23 = mo_f G H0 a0 23 := mo_f_F hf h0 (by decide) (by decide)
  have fv_H2_25 : mo_f G H2 a0 25 = mo_f G H0 a0 25 := mo_f_F hf h0 (by decide) (by decide)
  replace hF := hF.trans (dv_bn2 (z2_1))
  refine W.eq (g2 := F0 m 5 ls [.long y1]) rfl ?_
  refine lv_lstore_n (lv' := [(2, .long y1), (0, .ref a0), (1, .int p1)]) hx hb dX12_sumOf_5 rfl hl (by decide) rfl (fun ls hl => ?_)
  have lp6 : ∀ (n6 : Nat) (H6 : Heap) (locs : List Loc) (ls : Array Slot) (j6_2 : Int64), th_B G Γ Γ [(46, 22), (46, 24)] H0 H6 locs → th_RC G Γ H6 → lv_has ls 7 [(0, .ref a0), (1, .int p1), (2, .long j6_2)] → F = dv_lp (f_X12_sumOf_6b d (f_X12_termOf d)) (dv G Γ H6, (a0 : Int), p1.toInt, j6_2.toInt) → (∃ m : Int, mo_f G H6 a0 22 = B + m ∧ 0 ≤ m ∧ mo_rest (mo_ce G H0 a0 B) (mo_term (mo_f G H0 a0 25) (mo_ce G H0 a0 B) d) mo_add m j) → (B + j - mo_f G H6 a0 22) + 1 ≤ (n6 : Int) → W p l e ({ frames := 12 + 3 * d, cells := 0, slots := 0, locals := 449 + d * 80 } : Room) s m ([.ref a0, .int p1] : List Value).toArray below meth c H6 locs 0 0 (MQ below (th_Q (fun (v : Option Value) (H1 : Heap) => ∃ r : Int64, v = some (.long r) ∧ th_I G Γ H1 ∧ th_F G Γ [(46, 22), (46, 24)] H0 H1 ∧ th_RC G Γ H1 ∧ (mo_f G H1 a0 22 = B + j) ∧ (f_X12_sumOf d (dv G Γ H0) (a0 : Int) p1.toInt = (dv G Γ H1, r.toInt))) G) ([.ref a0, .int p1] : List Value).toArray s 0 0 (fun q => G.2.2 ≤ q)) (F0 m 6 ls []) := by
    intro n6
    induction n6 with
    | zero => intro H6 locs ls j6_2 hB hR hl hF g6_0 hm6; exact absurd hm6 (by have := mo_lp (mo_term_lt _ _ _) g6_0; omega)
    | succ n6 ih6 =>
      intro H6 locs ls j6_2 hB hR hl hF g6_0 hm6
      have fv2_23 : mo_f G H6 a0 23 = mo_f G H0 a0 23 := mo_f_F hB.2.2 h0 (by decide) (by decide)
      have fv3_25 : mo_f G H6 a0 25 = mo_f G H0 a0 25 := mo_f_F hB.2.2 h0 (by decide) (by decide)
      have hm6 : (B + j - mo_f G H6 a0 22) + 1 ≤ (n6 : Int) + 1 := by omega
      replace hF := hF.trans (dv_lp_eq)
      replace hF := hF.trans (congrArg (dv_k (f_X12_sumOf_6b d (f_X12_termOf d))) (f_X12_sumOf_6c.eq_1 d (f_X12_termOf d) (dv G Γ H6) ((a0 : Int)) (p1.toInt) (j6_2.toInt)))
      refine lv_aload_n hx hb dX12_sumOf_6 rfl (lv_at hl 0 rfl) ?_
      obtain ⟨m6, a6, b6, r6⟩ := g6_0
      refine lv_aload_n hx hb dX12_sumOf_7 rfl (lv_at hl 0 rfl) ?_
      refine th_getI (j := 22) hC cf_X12 hB.1 h0 ro_46 rfl rfl kf_X12_281 dX12_sumOf_8 (fun x4 mx4 lx4 ux4 => ?_)
      replace hF := hF.trans (congrArg (dv_k (f_X12_sumOf_6b d (f_X12_termOf d))) (dv_bn (dv_getI h0 ro_46 (j := 22) rfl mx4 (by decide))))
      have fg5 : mo_f G H6 a0 22 = x4.toInt := mo_fat mx4
      refine th_call (th_runV (As := [.int x4]) (rest := []) hC mf_X12_codeAt km_X12_284 im_X12_codeAt se_X12_codeAt (c_X12_codeAt l G Γ H6 hB.1 hU a0 h0 x4 (by omega) B (by omega) (by omega)) rfl rfl ⟨by dsimp only; omega, by dsimp only; omega⟩ hB.1 h0 ro_46 rfl rfl hl.1 rfl (Nat.le_of_ble_eq_true rfl) dX12_sumOf_11 ⟨Nat.le_refl _, Nat.le_refl _⟩) hB.2.1 (fun v11 H11 locs hp hz hS => ?_)
      obtain ⟨x6, rfl, q11_0, q11_1, rfl⟩ := hp
      have hB := th_B_s hB hS
      replace hF := hF.trans (congrArg (dv_k (f_X12_sumOf_6b d (f_X12_termOf d))) (dv_bn2 (q11_1)))
      refine W.eq (g2 := F0 m 14 ls [.int x6]) rfl ?_
      have cd11 : mo_ce G H0 a0 B m6 = x6.toInt := by have q9 := q11_0; rw [mo_ce_F hB.1 hB.2.2 h0 (by decide)] at q9; rw [q9]; congr 1; omega
      refine lv_bipush (v := 43) hx hb dX12_sumOf_14 (by decide) ?_
      refine th_call (th_runS (As := [.int 43]) (rest := [.int x6]) hC mf_X12_sign km_X12_240 st_X12_sign (c_X12_sign l G Γ H6 hB.1 hU 43 (by decide) (by decide)) rfl rfl ⟨by dsimp only; omega, by dsimp only; omega⟩ rfl hl.1 rfl (Nat.le_of_ble_eq_true rfl) dX12_sumOf_16 ⟨Nat.le_refl _, Nat.le_refl _⟩) hB.2.1 (fun v16 H16 locs hp hz hS => ?_)
      obtain ⟨x7, rfl, lx7, ux7, q16_0, q16_1, rfl⟩ := hp
      have hB := th_B_s hB hS
      have w16_0 := tk_43
      have zf16 := q16_1
      rw [tk_43] at zf16
      replace hF := hF.trans (congrArg (dv_k (f_X12_sumOf_6b d (f_X12_termOf d))) (dv_bn2 (zf16)))
      refine W.eq (g2 := F0 m 19 ls [.int x7, .int x6]) rfl ?_
      have jn38 : ∀ (locs : List Loc) (ls : Array Slot) , th_B G Γ Γ [(46, 22), (46, 24)] H0 H6 locs → lv_has ls 7 [(0, .ref a0), (1, .int p1), (2, .long j6_2)] → F = dv_k (f_X12_sumOf_6b d (f_X12_termOf d)) (f_X12_sumOf_38 d (f_X12_termOf d) (dv G Γ H6) ((a0 : Int)) (p1.toInt) (j6_2.toInt)) → mo_ce G H0 a0 B m6 = 143 ∨ mo_ce G H0 a0 B m6 = 145 → W p l e ({ frames := 12 + 3 * d, cells := 0, slots := 0, locals := 449 + d * 80 } : Room) s m ([.ref a0, .int p1] : List Value).toArray below meth c H6 locs 0 0 (MQ below (th_Q (fun (v : Option Value) (H1 : Heap) => ∃ r : Int64, v = some (.long r) ∧ th_I G Γ H1 ∧ th_F G Γ [(46, 22), (46, 24)] H0 H1 ∧ th_RC G Γ H1 ∧ (mo_f G H1 a0 22 = B + j) ∧ (f_X12_sumOf d (dv G Γ H0) (a0 : Int) p1.toInt = (dv G Γ H1, r.toInt))) G) ([.ref a0, .int p1] : List Value).toArray s 0 0 (fun q => G.2.2 ≤ q)) (F0 m 38 ls []) := by
        intro locs ls hB hl hF g38_0
        replace hF := hF.trans (congrArg (dv_k (f_X12_sumOf_6b d (f_X12_termOf d))) (f_X12_sumOf_38.eq_1 d (f_X12_termOf d) (dv G Γ H6) ((a0 : Int)) (p1.toInt) (j6_2.toInt)))
        refine lv_aload_n hx hb dX12_sumOf_38 rfl (lv_at hl 0 rfl) ?_
        refine lv_aload_n hx hb dX12_sumOf_39 rfl (lv_at hl 0 rfl) ?_
        refine th_getK hC cf_X12 hB.1 h0 ro_46 rfl (j := 22) (by decide) mx4 kf_X12_281 dX12_sumOf_40 ?_
        replace hF := hF.trans (congrArg (dv_k (f_X12_sumOf_6b d (f_X12_termOf d))) (dv_bn (dv_getI h0 ro_46 (j := 22) rfl mx4 (by decide))))
        have fg8 : mo_f G H6 a0 22 = x4.toInt := mo_fat mx4
        refine th_call (th_runV (As := [.int x4]) (rest := []) hC mf_X12_codeAt km_X12_284 im_X12_codeAt se_X12_codeAt (c_X12_codeAt l G Γ H6 hB.1 hU a0 h0 x4 (by omega) B (by omega) (by omega)) rfl rfl ⟨by dsimp only; omega, by dsimp only; omega⟩ hB.1 h0 ro_46 rfl rfl hl.1 rfl (Nat.le_of_ble_eq_true rfl) dX12_sumOf_43 ⟨Nat.le_refl _, Nat.le_refl _⟩) hB.2.1 (fun v43 H43 locs hp hz hS => ?_)
        obtain ⟨x9, rfl, q43_0, q43_1, rfl⟩ := hp
        have hB := th_B_s hB hS
        replace hF := hF.trans (congrArg (dv_k (f_X12_sumOf_6b d (f_X12_termOf d))) (dv_bn2 (q43_1)))
        refine W.eq (g2 := F0 m 46 ls [.int x9]) rfl ?_
        have cd43 : mo_ce G H0 a0 B m6 = x9.toInt := by have q9 := q43_0; rw [mo_ce_F hB.1 hB.2.2 h0 (by decide)] at q9; rw [q9]; congr 1; omega
        refine lv_bipush (v := 43) hx hb dX12_sumOf_46 (by decide) ?_
        refine th_call (th_runS (As := [.int 43]) (rest := [.int x9]) hC mf_X12_sign km_X12_240 st_X12_sign (c_X12_sign l G Γ H6 hB.1 hU 43 (by decide) (by decide)) rfl rfl ⟨by dsimp only; omega, by dsimp only; omega⟩ rfl hl.1 rfl (Nat.le_of_ble_eq_true rfl) dX12_sumOf_48 ⟨Nat.le_refl _, Nat.le_refl _⟩) hB.2.1 (fun v48 H48 locs hp hz hS => ?_)
        obtain ⟨x10, rfl, lx10, ux10, q48_0, q48_1, rfl⟩ := hp
        have hB := th_B_s hB hS
        have w48_0 := tk_43
        have zf48 := q48_1
        rw [tk_43] at zf48
        replace hF := hF.trans (congrArg (dv_k (f_X12_sumOf_6b d (f_X12_termOf d))) (dv_bn2 (zf48)))
        refine W.eq (g2 := F0 m 51 ls [.int x10, .int x9]) rfl ?_
        have jn59 : ∀ (locs : List Loc) (ls : Array Slot) (s59_0 : Int32), th_B G Γ Γ [(46, 22), (46, 24)] H0 H6 locs → lv_has ls 7 [(0, .ref a0), (1, .int p1), (2, .long j6_2)] → F = dv_k (f_X12_sumOf_6b d (f_X12_termOf d)) (f_X12_sumOf_59 d (f_X12_termOf d) (dv G Γ H6) ((a0 : Int)) (p1.toInt) (j6_2.toInt) (s59_0.toInt)) → 0 ≤ s59_0.toInt → s59_0.toInt ≤ 1 → W p l e ({ frames := 12 + 3 * d, cells := 0, slots := 0, locals := 449 + d * 80 } : Room) s m ([.ref a0, .int p1] : List Value).toArray below meth c H6 locs 0 0 (MQ below (th_Q (fun (v : Option Value) (H1 : Heap) => ∃ r : Int64, v = some (.long r) ∧ th_I G Γ H1 ∧ th_F G Γ [(46, 22), (46, 24)] H0 H1 ∧ th_RC G Γ H1 ∧ (mo_f G H1 a0 22 = B + j) ∧ (f_X12_sumOf d (dv G Γ H0) (a0 : Int) p1.toInt = (dv G Γ H1, r.toInt))) G) ([.ref a0, .int p1] : List Value).toArray s 0 0 (fun q => G.2.2 ≤ q)) (F0 m 59 ls [.int s59_0]) := by
          intro locs ls s59_0 hB hl hF g59_0 g59_1
          have ls59_0 := ti_lo s59_0; have us59_0 := ti_hi s59_0
          replace hF := hF.trans (congrArg (dv_k (f_X12_sumOf_6b d (f_X12_termOf d))) (f_X12_sumOf_59.eq_1 d (f_X12_termOf d) (dv G Γ H6) ((a0 : Int)) (p1.toInt) (j6_2.toInt) (s59_0.toInt)))
          refine lv_istore (lv' := [(4, .int s59_0), (0, .ref a0), (1, .int p1), (2, .long j6_2)]) hx hb dX12_sumOf_59 hl (by decide) rfl (fun ls hl => ?_)
          refine lv_aload_n hx hb dX12_sumOf_61 rfl (lv_at hl 1 rfl) ?_
          refine lv_dup hx hb dX12_sumOf_62 rfl ?_
          refine th_getK hC cf_X12 hB.1 h0 ro_46 rfl (j := 22) (by decide) mx4 kf_X12_281 dX12_sumOf_63 ?_
          replace hF := hF.trans (congrArg (dv_k (f_X12_sumOf_6b d (f_X12_termOf d))) (dv_bn (dv_getI h0 ro_46 (j := 22) rfl mx4 (by decide))))
          have fg11 : mo_f G H6 a0 22 = x4.toInt := mo_fat mx4
          have nz63 := mo_ce_nz (show mo_ce G H0 a0 B m6 ≠ 0 by omega)
          refine lv_iconst (v := 1) hx hb dX12_sumOf_66 (by decide) ?_
          refine tr_iadd hx hb dX12_sumOf_67 (Eq.refl _) tk_1 (by omega) (by omega) (fun x12 ex12 => ?_)
          replace hF := hF.trans (congrArg (dv_k (f_X12_sumOf_6b d (f_X12_termOf d))) (dv_bn (ex12.symm)))
          refine th_put hC cf_X12 hB h0 (Or.inl h0) ro_46 rfl (j := 22) rfl th_sIa (by decide) rfl rfl rfl kf_X12_281 dX12_sumOf_68 (fun H68 locs hB hf hst68 => ?_)
          have hR := th_RC_F hB.1 hR hf (th_T_s h0 ro_46 hst68) (by decide)
          have fv_H68_23 : mo_f G H68 a0 23 = mo_f G H6 a0 23 := mo_f_F hf h0 (by decide) (by decide)
          have fv_H68_25 : mo_f G H68 a0 25 = mo_f G H6 a0 25 := mo_f_F hf h0 (by decide) (by decide)
          replace hF := hF.trans (congrArg (dv_k (f_X12_sumOf_6b d (f_X12_termOf d))) (dv_bn (dv_putI hB.1 h0 ro_46 (j := 22) rfl (th_apart hC cf_X12) hst68 (Eq.refl _) (by decide))))
          have fp68 : mo_f G H68 a0 22 = x12.toInt := mo_f_St hst68
          have mm13 := hst68.2.1
          refine lv_aload_n hx hb dX12_sumOf_71 rfl (lv_at hl 1 rfl) ?_
          refine lv_iload_n hx hb dX12_sumOf_72 rfl (lv_at hl 2 rfl) ?_
          obtain ⟨m7, p7, r7⟩ := mo_rest_op r6 (show mo_ce G H0 a0 B m6 = 143 ∨ mo_ce G H0 a0 B m6 = 145 by omega)
          have lt7 := mo_term_lt _ _ _ _ _ p7
          refine th_call (th_runV (As := [.int p1]) (rest := []) hC mf_X12_termOf km_X12_294 im_X12_termOf se_X12_termOf (ihp l G Γ H68 hB.1 hR hU a0 h0 p1 (by omega) (by omega) B (m6 + 1) m7 ⟨by omega, by omega, by omega, by omega⟩ (by rw [mo_f_F hB.2.2 h0 (j := 25) (by decide) (by decide), mo_ce_F hB.1 hB.2.2 h0 (by decide)]; exact p7)) rfl rfl ⟨by dsimp only; omega, by dsimp only; omega⟩ hB.1 h0 ro_46 rfl rfl hl.1 rfl (Nat.le_of_ble_eq_true rfl) dX12_sumOf_73 ⟨Nat.le_refl _, Nat.le_refl _⟩) hB.2.1 (fun v73 H73 locs hp hz hS => ?_)
          obtain ⟨y14, rfl, hI1, hf, hR, z73_0, z73_1⟩ := hp
          have hB := th_B_c hB hI1 hS hf (by decide)
          have fv_H73_23 : mo_f G H73 a0 23 = mo_f G H68 a0 23 := mo_f_F hf h0 (by decide) (by decide)
          have fv_H73_25 : mo_f G H73 a0 25 = mo_f G H68 a0 25 := mo_f_F hf h0 (by decide) (by decide)
          replace hF := hF.trans (congrArg (dv_k (f_X12_sumOf_6b d (f_X12_termOf d))) (dv_bn2 (z73_1)))
          refine W.eq (g2 := F0 m 76 ls [.long y14]) rfl ?_
          refine lv_lstore (lv' := [(5, .long y14), (4, .int s59_0), (0, .ref a0), (1, .int p1), (2, .long j6_2)]) hx hb dX12_sumOf_76 hl (by decide) rfl (fun ls hl => ?_)
          refine lv_aload_n hx hb dX12_sumOf_78 rfl (lv_at hl 2 rfl) ?_
          refine lv_iload hx hb dX12_sumOf_79 (lv_at hl 1 rfl) ?_
          have jn95 : ∀ (locs : List Loc) (ls : Array Slot) (s95_1 : Int64), th_B G Γ Γ [(46, 22), (46, 24)] H0 H73 locs → lv_has ls 7 [(0, .ref a0), (1, .int p1)] → F = dv_k (f_X12_sumOf_6b d (f_X12_termOf d)) (f_X12_sumOf_95 d (f_X12_termOf d) (dv G Γ H73) ((a0 : Int)) (p1.toInt) (s95_1.toInt)) → W p l e ({ frames := 12 + 3 * d, cells := 0, slots := 0, locals := 449 + d * 80 } : Room) s m ([.ref a0, .int p1] : List Value).toArray below meth c H73 locs 0 0 (MQ below (th_Q (fun (v : Option Value) (H1 : Heap) => ∃ r : Int64, v = some (.long r) ∧ th_I G Γ H1 ∧ th_F G Γ [(46, 22), (46, 24)] H0 H1 ∧ th_RC G Γ H1 ∧ (mo_f G H1 a0 22 = B + j) ∧ (f_X12_sumOf d (dv G Γ H0) (a0 : Int) p1.toInt = (dv G Γ H1, r.toInt))) G) ([.ref a0, .int p1] : List Value).toArray s 0 0 (fun q => G.2.2 ≤ q)) (F0 m 95 ls [.long s95_1, .ref a0]) := by
            intro locs ls s95_1 hB hl hF
            replace hF := hF.trans (congrArg (dv_k (f_X12_sumOf_6b d (f_X12_termOf d))) (f_X12_sumOf_95.eq_1 d (f_X12_termOf d) (dv G Γ H73) ((a0 : Int)) (p1.toInt) (s95_1.toInt)))
            refine lv_iload_n hx hb dX12_sumOf_95 rfl (lv_at hl 1 rfl) ?_
            refine th_call (th_runV (As := [.long s95_1, .int p1]) (rest := []) hC mf_X12_bounded km_X12_298 im_X12_bounded se_X12_bounded (c_X12_bounded l G Γ H73 hB.1 hR hU a0 h0 s95_1 p1 (by omega) (by omega)) rfl rfl ⟨by dsimp only; omega, by dsimp only; omega⟩ hB.1 h0 ro_46 rfl rfl hl.1 rfl (Nat.le_of_ble_eq_true rfl) dX12_sumOf_96 ⟨Nat.le_refl _, Nat.le_refl _⟩) hB.2.1 (fun v96 H96 locs hp hz hS => ?_)
            obtain ⟨y15, rfl, hI1, hf, hR, z96_0⟩ := hp
            have hB := th_B_c hB hI1 hS hf (by decide)
            have fv_H96_22 : mo_f G H96 a0 22 = mo_f G H73 a0 22 := mo_f_F hf h0 (by decide) (by decide)
            have fv_H96_23 : mo_f G H96 a0 23 = mo_f G H73 a0 23 := mo_f_F hf h0 (by decide) (by decide)
            have fv_H96_25 : mo_f G H96 a0 25 = mo_f G H73 a0 25 := mo_f_F hf h0 (by decide) (by decide)
            replace hF := hF.trans (congrArg (dv_k (f_X12_sumOf_6b d (f_X12_termOf d))) (dv_bn2 (z96_0)))
            refine W.eq (g2 := F0 m 99 ls [.long y15]) rfl ?_
            refine lv_lstore_n (lv' := [(2, .long y15), (0, .ref a0), (1, .int p1)]) hx hb dX12_sumOf_99 rfl hl (by decide) rfl (fun ls hl => ?_)
            refine lv_goto (tgt := 6) hx hb dX12_sumOf_100 (by decide) ?_
            replace hF := hF.trans (dv_kl)
            exact ih6 H96 locs ls y15 hB hR (lv_sub hl [1, 2, 0] rfl) hF ⟨m7, by omega, by omega, r7⟩ (by omega)
          refine tr_if_eq (tgt := 91) hx hb dX12_sumOf_81 (by decide) (Eq.refl _) (fun c81 => ?_) (fun c81 => ?_)
          · replace hF := hF.trans (congrArg (dv_k (f_X12_sumOf_6b d (f_X12_termOf d))) (if_pos c81))
            refine lv_lload_n hx hb dX12_sumOf_91 rfl (lv_at hl 4 rfl) ?_
            refine lv_lload hx hb dX12_sumOf_92 (lv_at hl 0 rfl) ?_
            refine lv_lsub hx hb dX12_sumOf_94 ?_
            refine lv_topl (fun y16 ey16 => ?_)
            replace hF := hF.trans (congrArg (dv_k (f_X12_sumOf_6b d (f_X12_termOf d))) (dv_bn (dv_lsub_e (Eq.refl (j6_2.toInt)) (Eq.refl (y14.toInt)) ey16)))
            exact jn95 locs ls y16 hB (lv_sub hl [2, 3] rfl) hF
          · replace hF := hF.trans (congrArg (dv_k (f_X12_sumOf_6b d (f_X12_termOf d))) (if_neg c81))
            refine lv_lload_n hx hb dX12_sumOf_84 rfl (lv_at hl 4 rfl) ?_
            refine lv_lload hx hb dX12_sumOf_85 (lv_at hl 0 rfl) ?_
            refine lv_ladd hx hb dX12_sumOf_87 ?_
            refine lv_topl (fun y17 ey17 => ?_)
            replace hF := hF.trans (congrArg (dv_k (f_X12_sumOf_6b d (f_X12_termOf d))) (dv_bn (dv_ladd_e (Eq.refl (j6_2.toInt)) (Eq.refl (y14.toInt)) ey17)))
            refine lv_goto (tgt := 95) hx hb dX12_sumOf_88 (by decide) ?_
            exact jn95 locs ls y17 hB (lv_sub hl [2, 3] rfl) hF
        refine tr_icmp_ne (tgt := 58) hx hb dX12_sumOf_51 (by decide) (Eq.refl _) (Eq.refl _) (fun c51 => ?_) (fun c51 => ?_)
        · replace hF := hF.trans (congrArg (dv_k (f_X12_sumOf_6b d (f_X12_termOf d))) (if_pos c51))
          refine lv_iconst (v := 0) hx hb dX12_sumOf_58 (by decide) ?_
          exact jn59 locs ls 0 hB (lv_sub hl [0, 1, 2] rfl) (by rw [tk_0]; exact hF) (by decide) (by decide)
        · replace hF := hF.trans (congrArg (dv_k (f_X12_sumOf_6b d (f_X12_termOf d))) (if_neg (not_not_intro c51)))
          refine lv_iconst (v := 1) hx hb dX12_sumOf_54 (by decide) ?_
          refine lv_goto (tgt := 59) hx hb dX12_sumOf_55 (by decide) ?_
          exact jn59 locs ls 1 hB (lv_sub hl [0, 1, 2] rfl) (by rw [tk_1]; exact hF) (by decide) (by decide)
      refine tr_icmp_eq (tgt := 38) hx hb dX12_sumOf_19 (by decide) (Eq.refl _) (Eq.refl _) (fun c19 => ?_) (fun c19 => ?_)
      · replace hF := hF.trans (congrArg (dv_k (f_X12_sumOf_6b d (f_X12_termOf d))) (if_pos c19))
        exact jn38 locs ls hB (lv_sub hl [0, 1, 2] rfl) hF (by omega)
      · replace hF := hF.trans (congrArg (dv_k (f_X12_sumOf_6b d (f_X12_termOf d))) (if_neg c19))
        refine lv_aload_n hx hb dX12_sumOf_22 rfl (lv_at hl 0 rfl) ?_
        refine lv_aload_n hx hb dX12_sumOf_23 rfl (lv_at hl 0 rfl) ?_
        refine th_getK hC cf_X12 hB.1 h0 ro_46 rfl (j := 22) (by decide) mx4 kf_X12_281 dX12_sumOf_24 ?_
        replace hF := hF.trans (congrArg (dv_k (f_X12_sumOf_6b d (f_X12_termOf d))) (dv_bn (dv_getI h0 ro_46 (j := 22) rfl mx4 (by decide))))
        have fg18 : mo_f G H6 a0 22 = x4.toInt := mo_fat mx4
        refine th_call (th_runV (As := [.int x4]) (rest := []) hC mf_X12_codeAt km_X12_284 im_X12_codeAt se_X12_codeAt (c_X12_codeAt l G Γ H6 hB.1 hU a0 h0 x4 (by omega) B (by omega) (by omega)) rfl rfl ⟨by dsimp only; omega, by dsimp only; omega⟩ hB.1 h0 ro_46 rfl rfl hl.1 rfl (Nat.le_of_ble_eq_true rfl) dX12_sumOf_27 ⟨Nat.le_refl _, Nat.le_refl _⟩) hB.2.1 (fun v27 H27 locs hp hz hS => ?_)
        obtain ⟨x19, rfl, q27_0, q27_1, rfl⟩ := hp
        have hB := th_B_s hB hS
        replace hF := hF.trans (congrArg (dv_k (f_X12_sumOf_6b d (f_X12_termOf d))) (dv_bn2 (q27_1)))
        refine W.eq (g2 := F0 m 30 ls [.int x19]) rfl ?_
        have cd27 : mo_ce G H0 a0 B m6 = x19.toInt := by have q9 := q27_0; rw [mo_ce_F hB.1 hB.2.2 h0 (by decide)] at q9; rw [q9]; congr 1; omega
        refine lv_bipush (v := 45) hx hb dX12_sumOf_30 (by decide) ?_
        refine th_call (th_runS (As := [.int 45]) (rest := [.int x19]) hC mf_X12_sign km_X12_240 st_X12_sign (c_X12_sign l G Γ H6 hB.1 hU 45 (by decide) (by decide)) rfl rfl ⟨by dsimp only; omega, by dsimp only; omega⟩ rfl hl.1 rfl (Nat.le_of_ble_eq_true rfl) dX12_sumOf_32 ⟨Nat.le_refl _, Nat.le_refl _⟩) hB.2.1 (fun v32 H32 locs hp hz hS => ?_)
        obtain ⟨x20, rfl, lx20, ux20, q32_0, q32_1, rfl⟩ := hp
        have hB := th_B_s hB hS
        have w32_0 := tk_45
        have zf32 := q32_1
        rw [tk_45] at zf32
        replace hF := hF.trans (congrArg (dv_k (f_X12_sumOf_6b d (f_X12_termOf d))) (dv_bn2 (zf32)))
        refine W.eq (g2 := F0 m 35 ls [.int x20, .int x19]) rfl ?_
        refine tr_icmp_ne (tgt := 103) hx hb dX12_sumOf_35 (by decide) (Eq.refl _) (Eq.refl _) (fun c35 => ?_) (fun c35 => ?_)
        · replace hF := hF.trans (congrArg (dv_k (f_X12_sumOf_6b d (f_X12_termOf d))) (if_pos c35))
          refine lv_lload_n hx hb dX12_sumOf_103 rfl (lv_at hl 2 rfl) ?_
          replace hF := hF.trans (dv_kr)
          exact th_lret hC hH hr hlocks hB.2.1 ⟨_, rfl, hB.1, hB.2.2, hR, by rw [← mo_rest_end r6 (show ¬ (mo_ce G H0 a0 B m6 = 143 ∨ mo_ce G H0 a0 B m6 = 145) by omega)]; exact a6, (hF0.symm.trans hF)⟩ dX12_sumOf_104
        · replace hF := hF.trans (congrArg (dv_k (f_X12_sumOf_6b d (f_X12_termOf d))) (if_neg (not_not_intro c35)))
          exact jn38 locs ls hB (lv_sub hl [0, 1, 2] rfl) hF (by omega)
  exact lp6 ((B + j - mo_f G H2 a0 22) + 1).toNat H2 locs ls y1 hB hR (lv_sub hl [1, 2, 0] rfl) hF ⟨m1, by omega, by omega, r1⟩ (by omega)

theorem c_X12_sumOf_d (d : Nat) : s_X12_sumOf d := by
  induction d with
  | zero => exact (c_X12_sumOf_s 0 (c_X12_termOf_s 0 (c_X12_partOf_s 0 (fun d' h => absurd h (by omega)))))
  | succ d ih => exact (c_X12_sumOf_s (d + 1) (c_X12_termOf_s (d + 1) (c_X12_partOf_s (d + 1) (fun d' h => by cases h; exact ih))))
theorem c_X12_partOf_d (d : Nat) : s_X12_partOf d := c_X12_partOf_s d (fun d' _ => c_X12_sumOf_d d')
theorem c_X12_termOf_d (d : Nat) : s_X12_termOf d := c_X12_termOf_s d (c_X12_partOf_d d)
