def s_X12_positiveOf (d : Nat) : Prop := ∀ (l : Launch) (G : th_G) (Γ : th_Ga) (H0 : Heap) (hI : th_I G Γ H0) (hR : th_RC G Γ H0) (hU : dv_U Γ) (a0 : Nat) (h0 : Γ a0 = (46, 0)) (p1 : Int32) (f1 : 0 ≤ p1.toInt) (g1 : p1.toInt ≤ 1) (B i j : Int) (k1 : 0 ≤ B ∧ 0 ≤ i ∧ mo_f G H0 a0 22 = B + i ∧ mo_f G H0 a0 23 ≤ 2800) (k2 : mo_pos (mo_f G H0 a0 25) (mo_ce G H0 a0 B) d i j), Met l yX12_positiveOf (.code yX12_positiveOf cX12_positiveOf 7 (some FieldType.boolean) :: th_tb) ({ frames := 14 + 4 * d, cells := 0, slots := 0, locals := 700 + d * 100 } : Room) (th_P [.ref a0, .int p1] G H0) (th_Q (fun (v : Option Value) (H1 : Heap) => ∃ r : Int32, v = some (.int r) ∧ 0 ≤ r.toInt ∧ r.toInt ≤ 1 ∧ th_I G Γ H1 ∧ th_F G Γ [(46, 22), (46, 24)] H0 H1 ∧ th_RC G Γ H1 ∧ (mo_f G H1 a0 22 = B + j) ∧ (f_X12_positiveOf d (dv G Γ H0) (a0 : Int) p1.toInt = (dv G Γ H1, r.toInt))) G) 0 0 (fun q => G.2.2 ≤ q)

def s_X12_plainOf (d : Nat) : Prop := ∀ (l : Launch) (G : th_G) (Γ : th_Ga) (H0 : Heap) (hI : th_I G Γ H0) (hR : th_RC G Γ H0) (hU : dv_U Γ) (a0 : Nat) (h0 : Γ a0 = (46, 0)) (p1 : Int32) (f1 : 0 ≤ p1.toInt) (g1 : p1.toInt ≤ 1) (B i j : Int) (k1 : 0 ≤ B ∧ 0 ≤ i ∧ mo_f G H0 a0 22 = B + i ∧ mo_f G H0 a0 23 ≤ 2800) (k2 : mo_plain (mo_f G H0 a0 25) (mo_ce G H0 a0 B) d i j), Met l yX12_plainOf (.code yX12_plainOf cX12_plainOf 3 (some FieldType.boolean) :: th_tb) ({ frames := 15 + 4 * d, cells := 0, slots := 0, locals := 726 + d * 100 } : Room) (th_P [.ref a0, .int p1] G H0) (th_Q (fun (v : Option Value) (H1 : Heap) => ∃ r : Int32, v = some (.int r) ∧ 0 ≤ r.toInt ∧ r.toInt ≤ 1 ∧ th_I G Γ H1 ∧ th_F G Γ [(46, 22), (46, 24)] H0 H1 ∧ th_RC G Γ H1 ∧ (mo_f G H1 a0 22 = B + j) ∧ (f_X12_plainOf d (dv G Γ H0) (a0 : Int) p1.toInt = (dv G Γ H1, r.toInt))) G) 0 0 (fun q => G.2.2 ≤ q)

def s_X12_bothOf (d : Nat) : Prop := ∀ (l : Launch) (G : th_G) (Γ : th_Ga) (H0 : Heap) (hI : th_I G Γ H0) (hR : th_RC G Γ H0) (hU : dv_U Γ) (a0 : Nat) (h0 : Γ a0 = (46, 0)) (p1 : Int32) (f1 : 0 ≤ p1.toInt) (g1 : p1.toInt ≤ 1) (B i j : Int) (k1 : 0 ≤ B ∧ 0 ≤ i ∧ mo_f G H0 a0 22 = B + i ∧ mo_f G H0 a0 23 ≤ 2800) (k2 : mo_both (mo_f G H0 a0 25) (mo_ce G H0 a0 B) d i j), Met l yX12_bothOf (.code yX12_bothOf cX12_bothOf 4 (some FieldType.boolean) :: th_tb) ({ frames := 16 + 4 * d, cells := 0, slots := 0, locals := 748 + d * 100 } : Room) (th_P [.ref a0, .int p1] G H0) (th_Q (fun (v : Option Value) (H1 : Heap) => ∃ r : Int32, v = some (.int r) ∧ 0 ≤ r.toInt ∧ r.toInt ≤ 1 ∧ th_I G Γ H1 ∧ th_F G Γ [(46, 22), (46, 24)] H0 H1 ∧ th_RC G Γ H1 ∧ (mo_f G H1 a0 22 = B + j) ∧ (f_X12_bothOf d (dv G Γ H0) (a0 : Int) p1.toInt = (dv G Γ H1, r.toInt))) G) 0 0 (fun q => G.2.2 ≤ q)

def s_X12_testOf (d : Nat) : Prop := ∀ (l : Launch) (G : th_G) (Γ : th_Ga) (H0 : Heap) (hI : th_I G Γ H0) (hR : th_RC G Γ H0) (hU : dv_U Γ) (a0 : Nat) (h0 : Γ a0 = (46, 0)) (p1 : Int32) (f1 : 0 ≤ p1.toInt) (g1 : p1.toInt ≤ 1) (B i j : Int) (k1 : 0 ≤ B ∧ 0 ≤ i ∧ mo_f G H0 a0 22 = B + i ∧ mo_f G H0 a0 23 ≤ 2800) (k2 : mo_test (mo_f G H0 a0 25) (mo_ce G H0 a0 B) d i j), Met l yX12_testOf (.code yX12_testOf cX12_testOf 4 (some FieldType.boolean) :: th_tb) ({ frames := 17 + 4 * d, cells := 0, slots := 0, locals := 771 + d * 100 } : Room) (th_P [.ref a0, .int p1] G H0) (th_Q (fun (v : Option Value) (H1 : Heap) => ∃ r : Int32, v = some (.int r) ∧ 0 ≤ r.toInt ∧ r.toInt ≤ 1 ∧ th_I G Γ H1 ∧ th_F G Γ [(46, 22), (46, 24)] H0 H1 ∧ th_RC G Γ H1 ∧ (mo_f G H1 a0 22 = B + j) ∧ (f_X12_testOf d (dv G Γ H0) (a0 : Int) p1.toInt = (dv G Γ H1, r.toInt))) G) 0 0 (fun q => G.2.2 ≤ q)

set_option maxHeartbeats 4000000 in
set_option maxRecDepth 100000 in
theorem c_X12_positiveOf_s (d : Nat) (ihd : ∀ d', d = d' + 1 → s_X12_testOf d') : s_X12_positiveOf d := by
  intro l G Γ H0 hI hR hU a0 h0 p1 f1 g1 B i j k1 k2
  refine th_met RX12 (by decide) rfl (Nat.le_of_ble_eq_true rfl) ?_
  intro p e s m below meth c hC hH hr hlocks hnm ls hl
  have hx := hC.1
  have hb := hC.2.1
  have hB : th_B G Γ Γ [(46, 22), (46, 24)] H0 H0 [] := ⟨hI, va_S.rf, th_F_rf⟩
  have hl : lv_has ls 7 [(0, .ref a0), (1, .int p1)] := hl
  have lp1 := ti_lo p1; have up1 := ti_hi p1
  obtain ⟨F, hF0⟩ : ∃ F, F = f_X12_positiveOf d (dv G Γ H0) ((a0 : Int)) (p1.toInt) := ⟨_, rfl⟩
  have hF := hF0.trans ((f_X12_positiveOf_d d (dv G Γ H0) ((a0 : Int)) (p1.toInt)).trans (f_X12_positiveOf_B.eq_1 d (dv_pre (fun _ _ _ => dv_z) f_X12_testOf d) (dv G Γ H0) ((a0 : Int)) (p1.toInt)))
  refine lv_aload_n hx hb dX12_positiveOf_0 rfl (lv_at hl 0 rfl) ?_
  have po := mo_pos_o k2
  refine lv_bipush (v := 40) hx hb dX12_positiveOf_1 (by decide) ?_
  refine th_call (th_runS (As := [.int 40]) (rest := [.ref a0]) hC mf_X12_sign km_X12_240 st_X12_sign (c_X12_sign l G Γ H0 hB.1 hU 40 (by decide) (by decide)) rfl rfl ⟨by dsimp only; omega, by dsimp only; omega⟩ rfl hl.1 rfl (Nat.le_of_ble_eq_true rfl) dX12_positiveOf_3 ⟨Nat.le_refl _, Nat.le_refl _⟩) hB.2.1 (fun v3 H3 locs hp hz hS => ?_)
  obtain ⟨x1, rfl, lx1, ux1, q3_0, q3_1, rfl⟩ := hp
  have hB := th_B_s hB hS
  have w3_0 := tk_40
  have zf3 := q3_1
  rw [tk_40] at zf3
  replace hF := hF.trans (dv_bn2 (zf3))
  refine W.eq (g2 := F0 m 6 ls [.int x1, .ref a0]) rfl ?_
  refine th_call (th_runV (As := [.int x1]) (rest := []) hC mf_X12_passes0 km_X12_305 im_X12_passes0 se_X12_passes0 (c_X12_passes0 l G Γ H0 hB.1 hR hU a0 h0 x1 (by omega) B i k1) rfl rfl ⟨by dsimp only; omega, by dsimp only; omega⟩ hB.1 h0 ro_46 rfl rfl hl.1 rfl (Nat.le_of_ble_eq_true rfl) dX12_positiveOf_6 ⟨Nat.le_refl _, Nat.le_refl _⟩) hB.2.1 (fun v6 H6 locs hp hz hS => ?_)
  obtain ⟨x2, rfl, lx2, ux2, hI1, hf, hR, z6_0, z6_1, z6_2⟩ := hp
  have hB := th_B_c hB hI1 hS hf (by decide)
  have fv_H6_23 : mo_f G H6 a0 23 = mo_f G H0 a0 23 := mo_f_F hf h0 (by decide) (by decide)
  have fv_H6_25 : mo_f G H6 a0 25 = mo_f G H0 a0 25 := mo_f_F hf h0 (by decide) (by decide)
  replace hF := hF.trans (dv_bn2 (z6_2))
  refine W.eq (g2 := F0 m 9 ls [.int x2]) rfl ?_
  refine tr_if_eq (tgt := 30) hx hb dX12_positiveOf_9 (by decide) (Eq.refl _) (fun c9 => ?_) (fun c9 => ?_)
  · replace hF := hF.trans (if_pos c9)
    refine lv_aload_n hx hb dX12_positiveOf_30 rfl (lv_at hl 0 rfl) ?_
    have w6 := z6_1 (by omega)
    refine lv_iload_n hx hb dX12_positiveOf_31 rfl (lv_at hl 1 rfl) ?_
    obtain ⟨m1, p1_, c1_, p2_⟩ := (po.resolve_right (fun q => (z6_1 (by omega)).2 (by rw [q.1]; omega))).2
    have lt1 := mo_sum_lt _ _ _ _ _ p1_
    have lt2 := mo_sum_lt _ _ _ _ _ p2_
    refine th_call (th_runV (As := [.int p1]) (rest := []) hC mf_X12_sumOf km_X12_308 im_X12_sumOf se_X12_sumOf (c_X12_sumOf_d d l G Γ H6 hB.1 hR hU a0 h0 p1 (by omega) (by omega) B i m1 ⟨by omega, by omega, by omega, by omega⟩ (by rw [mo_f_F hB.2.2 h0 (j := 25) (by decide) (by decide), mo_ce_F hB.1 hB.2.2 h0 (by decide)]; exact p1_)) rfl rfl ⟨by dsimp only; omega, by dsimp only; omega⟩ hB.1 h0 ro_46 rfl rfl hl.1 rfl (Nat.le_of_ble_eq_true rfl) dX12_positiveOf_32 ⟨Nat.le_refl _, Nat.le_refl _⟩) hB.2.1 (fun v32 H32 locs hp hz hS => ?_)
    obtain ⟨y3, rfl, hI1, hf, hR, z32_0, z32_1⟩ := hp
    have hB := th_B_c hB hI1 hS hf (by decide)
    have fv_H32_23 : mo_f G H32 a0 23 = mo_f G H6 a0 23 := mo_f_F hf h0 (by decide) (by decide)
    have fv_H32_25 : mo_f G H32 a0 25 = mo_f G H6 a0 25 := mo_f_F hf h0 (by decide) (by decide)
    replace hF := hF.trans (dv_bn2 (z32_1))
    refine W.eq (g2 := F0 m 35 ls [.long y3]) rfl ?_
    refine lv_lstore_n (lv' := [(2, .long y3), (0, .ref a0), (1, .int p1)]) hx hb dX12_positiveOf_35 rfl hl (by decide) rfl (fun ls hl => ?_)
    refine lv_aload_n hx hb dX12_positiveOf_36 rfl (lv_at hl 1 rfl) ?_
    refine lv_aload_n hx hb dX12_positiveOf_37 rfl (lv_at hl 1 rfl) ?_
    refine th_getI (j := 22) hC cf_X12 hB.1 h0 ro_46 rfl rfl kf_X12_281 dX12_positiveOf_38 (fun x4 mx4 lx4 ux4 => ?_)
    replace hF := hF.trans (dv_bn (dv_getI h0 ro_46 (j := 22) rfl mx4 (by decide)))
    have fg5 : mo_f G H32 a0 22 = x4.toInt := mo_fat mx4
    refine th_call (th_runV (As := [.int x4]) (rest := []) hC mf_X12_codeAt km_X12_284 im_X12_codeAt se_X12_codeAt (c_X12_codeAt l G Γ H32 hB.1 hU a0 h0 x4 (by omega) B (by omega) (by omega)) rfl rfl ⟨by dsimp only; omega, by dsimp only; omega⟩ hB.1 h0 ro_46 rfl rfl hl.1 rfl (Nat.le_of_ble_eq_true rfl) dX12_positiveOf_41 ⟨Nat.le_refl _, Nat.le_refl _⟩) hB.2.1 (fun v41 H41 locs hp hz hS => ?_)
    obtain ⟨x6, rfl, q41_0, q41_1, rfl⟩ := hp
    have hB := th_B_s hB hS
    replace hF := hF.trans (dv_bn2 (q41_1))
    refine W.eq (g2 := F0 m 44 ls [.int x6]) rfl ?_
    have cd41 : mo_ce G H0 a0 B m1 = x6.toInt := by have q9 := q41_0; rw [mo_ce_F hB.1 hB.2.2 h0 (by decide)] at q9; rw [q9]; congr 1; omega
    refine lv_istore (lv' := [(4, .int x6), (2, .long y3), (0, .ref a0), (1, .int p1)]) hx hb dX12_positiveOf_44 hl (by decide) rfl (fun ls hl => ?_)
    refine lv_aload_n hx hb dX12_positiveOf_46 rfl (lv_at hl 2 rfl) ?_
    refine lv_dup hx hb dX12_positiveOf_47 rfl ?_
    refine th_getK hC cf_X12 hB.1 h0 ro_46 rfl (j := 22) (by decide) mx4 kf_X12_281 dX12_positiveOf_48 ?_
    replace hF := hF.trans (dv_bn (dv_getI h0 ro_46 (j := 22) rfl mx4 (by decide)))
    have fg7 : mo_f G H32 a0 22 = x4.toInt := mo_fat mx4
    have nz48 := mo_ce_nz (show mo_ce G H0 a0 B m1 ≠ 0 by omega)
    refine lv_iconst (v := 1) hx hb dX12_positiveOf_51 (by decide) ?_
    refine tr_iadd hx hb dX12_positiveOf_52 (Eq.refl _) tk_1 (by omega) (by omega) (fun x8 ex8 => ?_)
    replace hF := hF.trans (dv_bn (ex8.symm))
    refine th_put hC cf_X12 hB h0 (Or.inl h0) ro_46 rfl (j := 22) rfl th_sIa (by decide) rfl rfl rfl kf_X12_281 dX12_positiveOf_53 (fun H53 locs hB hf hst53 => ?_)
    have hR := th_RC_F hB.1 hR hf (th_T_s h0 ro_46 hst53) (by decide)
    have fv_H53_23 : mo_f G H53 a0 23 = mo_f G H32 a0 23 := mo_f_F hf h0 (by decide) (by decide)
    have fv_H53_25 : mo_f G H53 a0 25 = mo_f G H32 a0 25 := mo_f_F hf h0 (by decide) (by decide)
    replace hF := hF.trans (dv_bn (dv_putI hB.1 h0 ro_46 (j := 22) rfl (th_apart hC cf_X12) hst53 (Eq.refl _) (by decide)))
    have fp53 : mo_f G H53 a0 22 = x8.toInt := mo_f_St hst53
    refine lv_aload_n hx hb dX12_positiveOf_56 rfl (lv_at hl 2 rfl) ?_
    refine lv_iload_n hx hb dX12_positiveOf_57 rfl (lv_at hl 3 rfl) ?_
    refine th_call (th_runV (As := [.int p1]) (rest := []) hC mf_X12_sumOf km_X12_308 im_X12_sumOf se_X12_sumOf (c_X12_sumOf_d d l G Γ H53 hB.1 hR hU a0 h0 p1 (by omega) (by omega) B (m1 + 1) j ⟨by omega, by omega, by omega, by omega⟩ (by rw [mo_f_F hB.2.2 h0 (j := 25) (by decide) (by decide), mo_ce_F hB.1 hB.2.2 h0 (by decide)]; exact p2_)) rfl rfl ⟨by dsimp only; omega, by dsimp only; omega⟩ hB.1 h0 ro_46 rfl rfl hl.1 rfl (Nat.le_of_ble_eq_true rfl) dX12_positiveOf_58 ⟨Nat.le_refl _, Nat.le_refl _⟩) hB.2.1 (fun v58 H58 locs hp hz hS => ?_)
    obtain ⟨y9, rfl, hI1, hf, hR, z58_0, z58_1⟩ := hp
    have hB := th_B_c hB hI1 hS hf (by decide)
    have fv_H58_23 : mo_f G H58 a0 23 = mo_f G H53 a0 23 := mo_f_F hf h0 (by decide) (by decide)
    have fv_H58_25 : mo_f G H58 a0 25 = mo_f G H53 a0 25 := mo_f_F hf h0 (by decide) (by decide)
    replace hF := hF.trans (dv_bn2 (z58_1))
    refine W.eq (g2 := F0 m 61 ls [.long y9]) rfl ?_
    refine lv_lstore (lv' := [(5, .long y9), (4, .int x6), (2, .long y3), (0, .ref a0), (1, .int p1)]) hx hb dX12_positiveOf_61 hl (by decide) rfl (fun ls hl => ?_)
    refine lv_iload_n hx hb dX12_positiveOf_63 rfl (lv_at hl 4 rfl) ?_
    refine tr_if_eq (tgt := 125) hx hb dX12_positiveOf_64 (by decide) (Eq.refl _) (fun c64 => ?_) (fun c64 => ?_)
    · replace hF := hF.trans (if_pos c64)
      refine lv_iconst (v := 0) hx hb dX12_positiveOf_125 (by decide) ?_
      exact th_iret hC hH hr hlocks narrow_b0 hB.2.1 ⟨_, rfl, by decide, by decide, hB.1, hB.2.2, hR, by omega, (hF0.symm.trans (hF.trans (by rw [tk_0])))⟩ dX12_positiveOf_126
    · replace hF := hF.trans (if_neg c64)
      refine lv_aload_n hx hb dX12_positiveOf_67 rfl (lv_at hl 3 rfl) ?_
      refine th_getI (j := 24) hC cf_X12 hB.1 h0 ro_46 rfl rfl kf_X12_291 dX12_positiveOf_68 (fun x10 mx10 lx10 ux10 => ?_)
      replace hF := hF.trans (dv_bn (dv_getI h0 ro_46 (j := 24) rfl mx10 (by decide)))
      refine tr_if_ne (tgt := 125) hx hb dX12_positiveOf_71 (by decide) (Eq.refl _) (fun c71 => ?_) (fun c71 => ?_)
      · replace hF := hF.trans (if_pos c71)
        refine lv_iconst (v := 0) hx hb dX12_positiveOf_125 (by decide) ?_
        exact th_iret hC hH hr hlocks narrow_b0 hB.2.1 ⟨_, rfl, by decide, by decide, hB.1, hB.2.2, hR, by omega, (hF0.symm.trans (hF.trans (by rw [tk_0])))⟩ dX12_positiveOf_126
      · replace hF := hF.trans (if_neg (not_not_intro c71))
        refine lv_iload hx hb dX12_positiveOf_74 (lv_at hl 1 rfl) ?_
        refine lv_bipush (v := 60) hx hb dX12_positiveOf_76 (by decide) ?_
        refine th_call (th_runS (As := [.int 60]) (rest := [.int x6]) hC mf_X12_sign km_X12_240 st_X12_sign (c_X12_sign l G Γ H58 hB.1 hU 60 (by decide) (by decide)) rfl rfl ⟨by dsimp only; omega, by dsimp only; omega⟩ rfl hl.1 rfl (Nat.le_of_ble_eq_true rfl) dX12_positiveOf_78 ⟨Nat.le_refl _, Nat.le_refl _⟩) hB.2.1 (fun v78 H78 locs hp hz hS => ?_)
        obtain ⟨x11, rfl, lx11, ux11, q78_0, q78_1, rfl⟩ := hp
        have hB := th_B_s hB hS
        have w78_0 := tk_60
        have zf78 := q78_1
        rw [tk_60] at zf78
        replace hF := hF.trans (dv_bn2 (zf78))
        refine W.eq (g2 := F0 m 81 ls [.int x11, .int x6]) rfl ?_
        refine tr_icmp_ne (tgt := 94) hx hb dX12_positiveOf_81 (by decide) (Eq.refl _) (Eq.refl _) (fun c81 => ?_) (fun c81 => ?_)
        · replace hF := hF.trans (if_pos c81)
          refine lv_iload hx hb dX12_positiveOf_94 (lv_at hl 1 rfl) ?_
          refine lv_bipush (v := 62) hx hb dX12_positiveOf_96 (by decide) ?_
          refine th_call (th_runS (As := [.int 62]) (rest := [.int x6]) hC mf_X12_sign km_X12_240 st_X12_sign (c_X12_sign l G Γ H58 hB.1 hU 62 (by decide) (by decide)) rfl rfl ⟨by dsimp only; omega, by dsimp only; omega⟩ rfl hl.1 rfl (Nat.le_of_ble_eq_true rfl) dX12_positiveOf_98 ⟨Nat.le_refl _, Nat.le_refl _⟩) hB.2.1 (fun v98 H98 locs hp hz hS => ?_)
          obtain ⟨x12, rfl, lx12, ux12, q98_0, q98_1, rfl⟩ := hp
          have hB := th_B_s hB hS
          have w98_0 := tk_62
          have zf98 := q98_1
          rw [tk_62] at zf98
          replace hF := hF.trans (dv_bn2 (zf98))
          refine W.eq (g2 := F0 m 101 ls [.int x12, .int x6]) rfl ?_
          refine tr_icmp_ne (tgt := 114) hx hb dX12_positiveOf_101 (by decide) (Eq.refl _) (Eq.refl _) (fun c101 => ?_) (fun c101 => ?_)
          · replace hF := hF.trans (if_pos c101)
            refine lv_lload_n hx hb dX12_positiveOf_114 rfl (lv_at hl 2 rfl) ?_
            refine lv_lload hx hb dX12_positiveOf_115 (lv_at hl 0 rfl) ?_
            refine tr_lcmp2 hx hb dX12_positiveOf_117 (fun x13 fx13 gx13 ix13 => ?_)
            replace hF := hF.trans (dv_bn (dv_lcmp_e (Eq.refl (y3.toInt)) (Eq.refl (y9.toInt)) fx13 ix13))
            refine tr_if_ne (tgt := 125) hx hb dX12_positiveOf_118 (by decide) (Eq.refl _) (fun c118 => ?_) (fun c118 => ?_)
            · replace hF := hF.trans (if_pos c118)
              refine lv_iconst (v := 0) hx hb dX12_positiveOf_125 (by decide) ?_
              exact th_iret hC hH hr hlocks narrow_b0 hB.2.1 ⟨_, rfl, by decide, by decide, hB.1, hB.2.2, hR, by omega, (hF0.symm.trans (hF.trans (by rw [tk_0])))⟩ dX12_positiveOf_126
            · replace hF := hF.trans (if_neg (not_not_intro c118))
              refine lv_iconst (v := 1) hx hb dX12_positiveOf_121 (by decide) ?_
              refine lv_goto (tgt := 126) hx hb dX12_positiveOf_122 (by decide) ?_
              exact th_iret hC hH hr hlocks narrow_b1 hB.2.1 ⟨_, rfl, by decide, by decide, hB.1, hB.2.2, hR, by omega, (hF0.symm.trans (hF.trans (by rw [tk_1])))⟩ dX12_positiveOf_126
          · replace hF := hF.trans (if_neg (not_not_intro c101))
            refine lv_lload_n hx hb dX12_positiveOf_104 rfl (lv_at hl 2 rfl) ?_
            refine lv_lload hx hb dX12_positiveOf_105 (lv_at hl 0 rfl) ?_
            refine tr_lcmp2 hx hb dX12_positiveOf_107 (fun x14 fx14 gx14 ix14 => ?_)
            replace hF := hF.trans (dv_bn (dv_lcmp_e (Eq.refl (y3.toInt)) (Eq.refl (y9.toInt)) fx14 ix14))
            refine tr_if_le (tgt := 125) hx hb dX12_positiveOf_108 (by decide) (Eq.refl _) (fun c108 => ?_) (fun c108 => ?_)
            · replace hF := hF.trans (if_pos c108)
              refine lv_iconst (v := 0) hx hb dX12_positiveOf_125 (by decide) ?_
              exact th_iret hC hH hr hlocks narrow_b0 hB.2.1 ⟨_, rfl, by decide, by decide, hB.1, hB.2.2, hR, by omega, (hF0.symm.trans (hF.trans (by rw [tk_0])))⟩ dX12_positiveOf_126
            · replace hF := hF.trans (if_neg (Int.not_le.mpr c108))
              refine lv_goto (tgt := 121) hx hb dX12_positiveOf_111 (by decide) ?_
              refine lv_iconst (v := 1) hx hb dX12_positiveOf_121 (by decide) ?_
              refine lv_goto (tgt := 126) hx hb dX12_positiveOf_122 (by decide) ?_
              exact th_iret hC hH hr hlocks narrow_b1 hB.2.1 ⟨_, rfl, by decide, by decide, hB.1, hB.2.2, hR, by omega, (hF0.symm.trans (hF.trans (by rw [tk_1])))⟩ dX12_positiveOf_126
        · replace hF := hF.trans (if_neg (not_not_intro c81))
          refine lv_lload_n hx hb dX12_positiveOf_84 rfl (lv_at hl 2 rfl) ?_
          refine lv_lload hx hb dX12_positiveOf_85 (lv_at hl 0 rfl) ?_
          refine tr_lcmp2 hx hb dX12_positiveOf_87 (fun x15 fx15 gx15 ix15 => ?_)
          replace hF := hF.trans (dv_bn (dv_lcmp_e (Eq.refl (y3.toInt)) (Eq.refl (y9.toInt)) fx15 ix15))
          refine tr_if_ge (tgt := 125) hx hb dX12_positiveOf_88 (by decide) (Eq.refl _) (fun c88 => ?_) (fun c88 => ?_)
          · replace hF := hF.trans (if_pos c88)
            refine lv_iconst (v := 0) hx hb dX12_positiveOf_125 (by decide) ?_
            exact th_iret hC hH hr hlocks narrow_b0 hB.2.1 ⟨_, rfl, by decide, by decide, hB.1, hB.2.2, hR, by omega, (hF0.symm.trans (hF.trans (by rw [tk_0])))⟩ dX12_positiveOf_126
          · replace hF := hF.trans (if_neg (Int.not_le.mpr c88))
            refine lv_goto (tgt := 121) hx hb dX12_positiveOf_91 (by decide) ?_
            refine lv_iconst (v := 1) hx hb dX12_positiveOf_121 (by decide) ?_
            refine lv_goto (tgt := 126) hx hb dX12_positiveOf_122 (by decide) ?_
            exact th_iret hC hH hr hlocks narrow_b1 hB.2.1 ⟨_, rfl, by decide, by decide, hB.1, hB.2.2, hR, by omega, (hF0.symm.trans (hF.trans (by rw [tk_1])))⟩ dX12_positiveOf_126
  · replace hF := hF.trans (if_neg c9)
    refine lv_aload_n hx hb dX12_positiveOf_12 rfl (lv_at hl 0 rfl) ?_
    refine lv_iload_n hx hb dX12_positiveOf_13 rfl (lv_at hl 1 rfl) ?_
    obtain ⟨d', j1, hd', s1, e1, e2⟩ := (po.resolve_left (fun q => q.1 (by have w9 := (z6_0 (by omega)).2; omega))).2
    refine th_call (th_runV (As := [.int p1]) (rest := []) hC mf_X12_testOf km_X12_335 im_X12_testOf se_X12_testOf (ihd d' hd' l G Γ H6 hB.1 hR hU a0 h0 p1 (by omega) (by omega) B (i + 1) j1 (by have w9 := z6_0 (by omega); exact ⟨by omega, by omega, by omega, by omega⟩) (by rw [mo_f_F hB.2.2 h0 (j := 25) (by decide) (by decide), mo_ce_F hB.1 hB.2.2 h0 (by decide)]; exact s1)) rfl rfl ⟨by dsimp only; omega, by dsimp only; omega⟩ hB.1 h0 ro_46 rfl rfl hl.1 rfl (Nat.le_of_ble_eq_true rfl) dX12_positiveOf_14 ⟨Nat.le_refl _, Nat.le_refl _⟩) hB.2.1 (fun v14 H14 locs hp hz hS => ?_)
    obtain ⟨x16, rfl, lx16, ux16, hI1, hf, hR, z14_0, z14_1⟩ := hp
    have hB := th_B_c hB hI1 hS hf (by decide)
    have fv_H14_23 : mo_f G H14 a0 23 = mo_f G H6 a0 23 := mo_f_F hf h0 (by decide) (by decide)
    have fv_H14_25 : mo_f G H14 a0 25 = mo_f G H6 a0 25 := mo_f_F hf h0 (by decide) (by decide)
    have zf14 := z14_1
    rw [← dv_pre_s (z := (fun _ _ _ => dv_z)) (f := f_X12_testOf) hd'] at zf14
    replace hF := hF.trans (dv_bn2 (zf14))
    refine W.eq (g2 := F0 m 17 ls [.int x16]) rfl ?_
    refine lv_istore_n (lv' := [(2, .int x16), (0, .ref a0), (1, .int p1)]) hx hb dX12_positiveOf_17 rfl hl (by decide) rfl (fun ls hl => ?_)
    refine lv_aload_n hx hb dX12_positiveOf_18 rfl (lv_at hl 1 rfl) ?_
    refine lv_dup hx hb dX12_positiveOf_19 rfl ?_
    refine th_getI (j := 22) hC cf_X12 hB.1 h0 ro_46 rfl rfl kf_X12_281 dX12_positiveOf_20 (fun x17 mx17 lx17 ux17 => ?_)
    replace hF := hF.trans (dv_bn (dv_getI h0 ro_46 (j := 22) rfl mx17 (by decide)))
    have fg18 : mo_f G H14 a0 22 = x17.toInt := mo_fat mx17
    have nz20 := mo_ce_nz (show mo_ce G H0 a0 B j1 ≠ 0 by omega)
    refine lv_iconst (v := 1) hx hb dX12_positiveOf_23 (by decide) ?_
    refine tr_iadd hx hb dX12_positiveOf_24 (Eq.refl _) tk_1 (by omega) (by omega) (fun x19 ex19 => ?_)
    replace hF := hF.trans (dv_bn (ex19.symm))
    refine th_put hC cf_X12 hB h0 (Or.inl h0) ro_46 rfl (j := 22) rfl th_sIa (by decide) rfl rfl rfl kf_X12_281 dX12_positiveOf_25 (fun H25 locs hB hf hst25 => ?_)
    have hR := th_RC_F hB.1 hR hf (th_T_s h0 ro_46 hst25) (by decide)
    have fv_H25_23 : mo_f G H25 a0 23 = mo_f G H14 a0 23 := mo_f_F hf h0 (by decide) (by decide)
    have fv_H25_25 : mo_f G H25 a0 25 = mo_f G H14 a0 25 := mo_f_F hf h0 (by decide) (by decide)
    replace hF := hF.trans (dv_bn (dv_putI hB.1 h0 ro_46 (j := 22) rfl (th_apart hC cf_X12) hst25 (Eq.refl _) (by decide)))
    have fp25 : mo_f G H25 a0 22 = x19.toInt := mo_f_St hst25
    refine lv_iload_n hx hb dX12_positiveOf_28 rfl (lv_at hl 0 rfl) ?_
    exact th_iret hC hH hr hlocks (th_nb (by omega) (by omega)) hB.2.1 ⟨_, rfl, by omega, by omega, hB.1, hB.2.2, hR, by omega, (hF0.symm.trans hF)⟩ dX12_positiveOf_29

set_option maxHeartbeats 4000000 in
set_option maxRecDepth 100000 in
theorem c_X12_plainOf_s (d : Nat) (ihp : s_X12_positiveOf d) : s_X12_plainOf d := by
  intro l G Γ H0 hI hR hU a0 h0 p1 f1 g1 B i j k1 k2
  refine th_met RX12 (by decide) rfl (Nat.le_of_ble_eq_true rfl) ?_
  intro p e s m below meth c hC hH hr hlocks hnm ls hl
  have hx := hC.1
  have hb := hC.2.1
  have hB : th_B G Γ Γ [(46, 22), (46, 24)] H0 H0 [] := ⟨hI, va_S.rf, th_F_rf⟩
  have hl : lv_has ls 3 [(0, .ref a0), (1, .int p1)] := hl
  have lp1 := ti_lo p1; have up1 := ti_hi p1
  obtain ⟨F, hF0⟩ : ∃ F, F = f_X12_plainOf d (dv G Γ H0) ((a0 : Int)) (p1.toInt) := ⟨_, rfl⟩
  have hF := hF0.trans ((f_X12_plainOf_d d (dv G Γ H0) ((a0 : Int)) (p1.toInt)).trans (f_X12_plainOf_B.eq_1 d (f_X12_positiveOf d) (dv G Γ H0) ((a0 : Int)) (p1.toInt)))
  refine lv_iconst (v := 0) hx hb dX12_plainOf_0 (by decide) ?_
  refine lv_istore_n (lv' := [(2, .int 0), (0, .ref a0), (1, .int p1)]) hx hb dX12_plainOf_1 rfl hl (by decide) rfl (fun ls hl => ?_)
  have lp2 : ∀ (n2 : Nat) (H2 : Heap) (locs : List Loc) (ls : Array Slot) (j2_2 : Int32), th_B G Γ Γ [(46, 22), (46, 24)] H0 H2 locs → th_RC G Γ H2 → lv_has ls 3 [(0, .ref a0), (1, .int p1), (2, .int j2_2)] → F = dv_lp (f_X12_plainOf_2b d (f_X12_positiveOf d)) (dv G Γ H2, (a0 : Int), p1.toInt, j2_2.toInt) → 0 ≤ j2_2.toInt → j2_2.toInt ≤ 1 → (∃ m : Int, mo_f G H2 a0 22 = B + m ∧ 0 ≤ m ∧ mo_nots (mo_ce G H0 a0 B) (mo_pos (mo_f G H0 a0 25) (mo_ce G H0 a0 B) d) m j) → (B + j - mo_f G H2 a0 22) + 1 ≤ (n2 : Int) → W p l e ({ frames := 15 + 4 * d, cells := 0, slots := 0, locals := 726 + d * 100 } : Room) s m ([.ref a0, .int p1] : List Value).toArray below meth c H2 locs 0 0 (MQ below (th_Q (fun (v : Option Value) (H1 : Heap) => ∃ r : Int32, v = some (.int r) ∧ 0 ≤ r.toInt ∧ r.toInt ≤ 1 ∧ th_I G Γ H1 ∧ th_F G Γ [(46, 22), (46, 24)] H0 H1 ∧ th_RC G Γ H1 ∧ (mo_f G H1 a0 22 = B + j) ∧ (f_X12_plainOf d (dv G Γ H0) (a0 : Int) p1.toInt = (dv G Γ H1, r.toInt))) G) ([.ref a0, .int p1] : List Value).toArray s 0 0 (fun q => G.2.2 ≤ q)) (F0 m 2 ls []) := by
    intro n2
    induction n2 with
    | zero => intro H2 locs ls j2_2 hB hR hl hF g2_0 g2_1 g2_2 hm2; exact absurd hm2 (by have := mo_lpn (mo_pos_lt _ _ _) g2_2; omega)
    | succ n2 ih2 =>
      intro H2 locs ls j2_2 hB hR hl hF g2_0 g2_1 g2_2 hm2
      have lj2_2 := ti_lo j2_2; have uj2_2 := ti_hi j2_2
      have fv1_23 : mo_f G H2 a0 23 = mo_f G H0 a0 23 := mo_f_F hB.2.2 h0 (by decide) (by decide)
      have fv2_25 : mo_f G H2 a0 25 = mo_f G H0 a0 25 := mo_f_F hB.2.2 h0 (by decide) (by decide)
      have hm2 : (B + j - mo_f G H2 a0 22) + 1 ≤ (n2 : Int) + 1 := by omega
      replace hF := hF.trans (dv_lp_eq)
      replace hF := hF.trans (congrArg (dv_k (f_X12_plainOf_2b d (f_X12_positiveOf d))) (f_X12_plainOf_2c.eq_1 d (f_X12_positiveOf d) (dv G Γ H2) ((a0 : Int)) (p1.toInt) (j2_2.toInt)))
      refine lv_aload_n hx hb dX12_plainOf_2 rfl (lv_at hl 0 rfl) ?_
      obtain ⟨m6, a6, b6, r6⟩ := g2_2
      have ce6 : mo_ce G H2 a0 B m6 = mo_ce G H0 a0 B m6 := by rw [mo_ce_F hB.1 hB.2.2 h0 (by decide)]
      refine lv_bipush (v := 7) hx hb dX12_plainOf_3 (by decide) ?_
      refine th_call (th_runV (As := [.int 7]) (rest := []) hC mf_X12_passes0 km_X12_305 im_X12_passes0 se_X12_passes0 (c_X12_passes0 l G Γ H2 hB.1 hR hU a0 h0 7 (by decide) B m6 ⟨by omega, by omega, by omega, by omega⟩) rfl rfl ⟨by dsimp only; omega, by dsimp only; omega⟩ hB.1 h0 ro_46 rfl rfl hl.1 rfl (Nat.le_of_ble_eq_true rfl) dX12_plainOf_5 ⟨Nat.le_refl _, Nat.le_refl _⟩) hB.2.1 (fun v5 H5 locs hp hz hS => ?_)
      obtain ⟨x3, rfl, lx3, ux3, hI1, hf, hR, z5_0, z5_1, z5_2⟩ := hp
      have hB := th_B_c hB hI1 hS hf (by decide)
      have fv_H5_23 : mo_f G H5 a0 23 = mo_f G H2 a0 23 := mo_f_F hf h0 (by decide) (by decide)
      have fv_H5_25 : mo_f G H5 a0 25 = mo_f G H2 a0 25 := mo_f_F hf h0 (by decide) (by decide)
      have zf5 := z5_2
      rw [tk_7] at zf5
      replace hF := hF.trans (congrArg (dv_k (f_X12_plainOf_2b d (f_X12_positiveOf d))) (dv_bn2 (zf5)))
      refine W.eq (g2 := F0 m 8 ls [.int x3]) rfl ?_
      have tk7 := tk_7
      refine tr_if_eq (tgt := 24) hx hb dX12_plainOf_8 (by decide) (Eq.refl _) (fun c8 => ?_) (fun c8 => ?_)
      · replace hF := hF.trans (congrArg (dv_k (f_X12_plainOf_2b d (f_X12_positiveOf d))) (if_pos c8))
        refine lv_aload_n hx hb dX12_plainOf_24 rfl (lv_at hl 0 rfl) ?_
        refine lv_iload_n hx hb dX12_plainOf_25 rfl (lv_at hl 1 rfl) ?_
        have p7 := mo_nots_e r6 (by omega)
        refine th_call (th_runV (As := [.int p1]) (rest := []) hC mf_X12_positiveOf km_X12_332 im_X12_positiveOf se_X12_positiveOf (ihp l G Γ H5 hB.1 hR hU a0 h0 p1 (by omega) (by omega) B m6 j ⟨by omega, by omega, by omega, by omega⟩ (by rw [mo_f_F hB.2.2 h0 (j := 25) (by decide) (by decide), mo_ce_F hB.1 hB.2.2 h0 (by decide)]; exact p7)) rfl rfl ⟨by dsimp only; omega, by dsimp only; omega⟩ hB.1 h0 ro_46 rfl rfl hl.1 rfl (Nat.le_of_ble_eq_true rfl) dX12_plainOf_26 ⟨Nat.le_refl _, Nat.le_refl _⟩) hB.2.1 (fun v26 H26 locs hp hz hS => ?_)
        obtain ⟨x4, rfl, lx4, ux4, hI1, hf, hR, z26_0, z26_1⟩ := hp
        have hB := th_B_c hB hI1 hS hf (by decide)
        have fv_H26_23 : mo_f G H26 a0 23 = mo_f G H5 a0 23 := mo_f_F hf h0 (by decide) (by decide)
        have fv_H26_25 : mo_f G H26 a0 25 = mo_f G H5 a0 25 := mo_f_F hf h0 (by decide) (by decide)
        replace hF := hF.trans (congrArg (dv_k (f_X12_plainOf_2b d (f_X12_positiveOf d))) (dv_bn2 (z26_1)))
        refine W.eq (g2 := F0 m 29 ls [.int x4]) rfl ?_
        refine lv_iload_n hx hb dX12_plainOf_29 rfl (lv_at hl 2 rfl) ?_
        refine tr_icmp_eq (tgt := 37) hx hb dX12_plainOf_30 (by decide) (Eq.refl _) (Eq.refl _) (fun c30 => ?_) (fun c30 => ?_)
        · replace hF := hF.trans (congrArg (dv_k (f_X12_plainOf_2b d (f_X12_positiveOf d))) (if_pos c30))
          refine lv_iconst (v := 0) hx hb dX12_plainOf_37 (by decide) ?_
          replace hF := hF.trans (dv_kr)
          exact th_iret hC hH hr hlocks narrow_b0 hB.2.1 ⟨_, rfl, by decide, by decide, hB.1, hB.2.2, hR, by omega, (hF0.symm.trans (hF.trans (by rw [tk_0])))⟩ dX12_plainOf_38
        · replace hF := hF.trans (congrArg (dv_k (f_X12_plainOf_2b d (f_X12_positiveOf d))) (if_neg c30))
          refine lv_iconst (v := 1) hx hb dX12_plainOf_33 (by decide) ?_
          refine lv_goto (tgt := 38) hx hb dX12_plainOf_34 (by decide) ?_
          replace hF := hF.trans (dv_kr)
          exact th_iret hC hH hr hlocks narrow_b1 hB.2.1 ⟨_, rfl, by decide, by decide, hB.1, hB.2.2, hR, by omega, (hF0.symm.trans (hF.trans (by rw [tk_1])))⟩ dX12_plainOf_38
      · replace hF := hF.trans (congrArg (dv_k (f_X12_plainOf_2b d (f_X12_positiveOf d))) (if_neg c8))
        refine lv_iload_n hx hb dX12_plainOf_11 rfl (lv_at hl 2 rfl) ?_
        have jn20 : ∀ (locs : List Loc) (ls : Array Slot) (s20_0 : Int32), th_B G Γ Γ [(46, 22), (46, 24)] H0 H5 locs → lv_has ls 3 [(0, .ref a0), (1, .int p1)] → F = dv_k (f_X12_plainOf_2b d (f_X12_positiveOf d)) (f_X12_plainOf_20 d (f_X12_positiveOf d) (dv G Γ H5) ((a0 : Int)) (p1.toInt) (s20_0.toInt)) → 0 ≤ s20_0.toInt → s20_0.toInt ≤ 1 → W p l e ({ frames := 15 + 4 * d, cells := 0, slots := 0, locals := 726 + d * 100 } : Room) s m ([.ref a0, .int p1] : List Value).toArray below meth c H5 locs 0 0 (MQ below (th_Q (fun (v : Option Value) (H1 : Heap) => ∃ r : Int32, v = some (.int r) ∧ 0 ≤ r.toInt ∧ r.toInt ≤ 1 ∧ th_I G Γ H1 ∧ th_F G Γ [(46, 22), (46, 24)] H0 H1 ∧ th_RC G Γ H1 ∧ (mo_f G H1 a0 22 = B + j) ∧ (f_X12_plainOf d (dv G Γ H0) (a0 : Int) p1.toInt = (dv G Γ H1, r.toInt))) G) ([.ref a0, .int p1] : List Value).toArray s 0 0 (fun q => G.2.2 ≤ q)) (F0 m 20 ls [.int s20_0]) := by
          intro locs ls s20_0 hB hl hF g20_0 g20_1
          have ls20_0 := ti_lo s20_0; have us20_0 := ti_hi s20_0
          replace hF := hF.trans (congrArg (dv_k (f_X12_plainOf_2b d (f_X12_positiveOf d))) (f_X12_plainOf_20.eq_1 d (f_X12_positiveOf d) (dv G Γ H5) ((a0 : Int)) (p1.toInt) (s20_0.toInt)))
          refine lv_istore_n (lv' := [(2, .int s20_0), (0, .ref a0), (1, .int p1)]) hx hb dX12_plainOf_20 rfl hl (by decide) rfl (fun ls hl => ?_)
          refine lv_goto (tgt := 2) hx hb dX12_plainOf_21 (by decide) ?_
          replace hF := hF.trans (dv_kl)
          exact ih2 H5 locs ls s20_0 hB hR (lv_sub hl [1, 2, 0] rfl) hF (by omega) (by omega) ⟨m6 + 1, by omega, by omega, mo_nots_s r6 (by omega)⟩ (by omega)
        refine tr_if_ne (tgt := 19) hx hb dX12_plainOf_12 (by decide) (Eq.refl _) (fun c12 => ?_) (fun c12 => ?_)
        · replace hF := hF.trans (congrArg (dv_k (f_X12_plainOf_2b d (f_X12_positiveOf d))) (if_pos c12))
          refine lv_iconst (v := 0) hx hb dX12_plainOf_19 (by decide) ?_
          exact jn20 locs ls 0 hB (lv_sub hl [0, 1] rfl) (by rw [tk_0]; exact hF) (by decide) (by decide)
        · replace hF := hF.trans (congrArg (dv_k (f_X12_plainOf_2b d (f_X12_positiveOf d))) (if_neg (not_not_intro c12)))
          refine lv_iconst (v := 1) hx hb dX12_plainOf_15 (by decide) ?_
          refine lv_goto (tgt := 20) hx hb dX12_plainOf_16 (by decide) ?_
          exact jn20 locs ls 1 hB (lv_sub hl [0, 1] rfl) (by rw [tk_1]; exact hF) (by decide) (by decide)
  exact lp2 ((B + j - mo_f G H0 a0 22) + 1).toNat H0 [] ls 0 hB hR (lv_sub hl [1, 2, 0] rfl) (by rw [tk_0]; exact hF) (by decide) (by decide) ⟨i, by omega, by omega, k2⟩ (by have w0 := tk_0; omega)

set_option maxHeartbeats 4000000 in
set_option maxRecDepth 100000 in
theorem c_X12_bothOf_s (d : Nat) (ihp : s_X12_plainOf d) : s_X12_bothOf d := by
  intro l G Γ H0 hI hR hU a0 h0 p1 f1 g1 B i j k1 k2
  refine th_met RX12 (by decide) rfl (Nat.le_of_ble_eq_true rfl) ?_
  intro p e s m below meth c hC hH hr hlocks hnm ls hl
  have hx := hC.1
  have hb := hC.2.1
  have hB : th_B G Γ Γ [(46, 22), (46, 24)] H0 H0 [] := ⟨hI, va_S.rf, th_F_rf⟩
  have hl : lv_has ls 4 [(0, .ref a0), (1, .int p1)] := hl
  have lp1 := ti_lo p1; have up1 := ti_hi p1
  obtain ⟨F, hF0⟩ : ∃ F, F = f_X12_bothOf d (dv G Γ H0) ((a0 : Int)) (p1.toInt) := ⟨_, rfl⟩
  have hF := hF0.trans ((f_X12_bothOf_d d (dv G Γ H0) ((a0 : Int)) (p1.toInt)).trans (f_X12_bothOf_B.eq_1 d (f_X12_plainOf d) (dv G Γ H0) ((a0 : Int)) (p1.toInt)))
  refine lv_aload_n hx hb dX12_bothOf_0 rfl (lv_at hl 0 rfl) ?_
  obtain ⟨m1, p1_, r1⟩ := mo_chain_open k2
  have lt1 := mo_plain_lt _ _ _ _ _ p1_
  refine lv_iload_n hx hb dX12_bothOf_1 rfl (lv_at hl 1 rfl) ?_
  refine th_call (th_runV (As := [.int p1]) (rest := []) hC mf_X12_plainOf km_X12_329 im_X12_plainOf se_X12_plainOf (ihp l G Γ H0 hB.1 hR hU a0 h0 p1 (by omega) (by omega) B i m1 k1 p1_) rfl rfl ⟨by dsimp only; omega, by dsimp only; omega⟩ hB.1 h0 ro_46 rfl rfl hl.1 rfl (Nat.le_of_ble_eq_true rfl) dX12_bothOf_2 ⟨Nat.le_refl _, Nat.le_refl _⟩) hB.2.1 (fun v2 H2 locs hp hz hS => ?_)
  obtain ⟨x1, rfl, lx1, ux1, hI1, hf, hR, z2_0, z2_1⟩ := hp
  have hB := th_B_c hB hI1 hS hf (by decide)
  have fv_H2_23 : mo_f G H2 a0 23 = mo_f G H0 a0 23 := mo_f_F hf h0 (by decide) (by decide)
  have fv_H2_25 : mo_f G H2 a0 25 = mo_f G H0 a0 25 := mo_f_F hf h0 (by decide) (by decide)
  replace hF := hF.trans (dv_bn2 (z2_1))
  refine W.eq (g2 := F0 m 5 ls [.int x1]) rfl ?_
  refine lv_istore_n (lv' := [(2, .int x1), (0, .ref a0), (1, .int p1)]) hx hb dX12_bothOf_5 rfl hl (by decide) rfl (fun ls hl => ?_)
  have lp6 : ∀ (n6 : Nat) (H6 : Heap) (locs : List Loc) (ls : Array Slot) (j6_2 : Int32), th_B G Γ Γ [(46, 22), (46, 24)] H0 H6 locs → th_RC G Γ H6 → lv_has ls 4 [(0, .ref a0), (1, .int p1), (2, .int j6_2)] → F = dv_lp (f_X12_bothOf_6b d (f_X12_plainOf d)) (dv G Γ H6, (a0 : Int), p1.toInt, j6_2.toInt) → 0 ≤ j6_2.toInt → j6_2.toInt ≤ 1 → (∃ m : Int, mo_f G H6 a0 22 = B + m ∧ 0 ≤ m ∧ mo_rest (mo_ce G H0 a0 B) (mo_plain (mo_f G H0 a0 25) (mo_ce G H0 a0 B) d) (mo_is 6) m j) → (B + j - mo_f G H6 a0 22) + 1 ≤ (n6 : Int) → W p l e ({ frames := 16 + 4 * d, cells := 0, slots := 0, locals := 748 + d * 100 } : Room) s m ([.ref a0, .int p1] : List Value).toArray below meth c H6 locs 0 0 (MQ below (th_Q (fun (v : Option Value) (H1 : Heap) => ∃ r : Int32, v = some (.int r) ∧ 0 ≤ r.toInt ∧ r.toInt ≤ 1 ∧ th_I G Γ H1 ∧ th_F G Γ [(46, 22), (46, 24)] H0 H1 ∧ th_RC G Γ H1 ∧ (mo_f G H1 a0 22 = B + j) ∧ (f_X12_bothOf d (dv G Γ H0) (a0 : Int) p1.toInt = (dv G Γ H1, r.toInt))) G) ([.ref a0, .int p1] : List Value).toArray s 0 0 (fun q => G.2.2 ≤ q)) (F0 m 6 ls []) := by
    intro n6
    induction n6 with
    | zero => intro H6 locs ls j6_2 hB hR hl hF g6_0 g6_1 g6_2 hm6; exact absurd hm6 (by have := mo_lp (mo_plain_lt _ _ _) g6_2; omega)
    | succ n6 ih6 =>
      intro H6 locs ls j6_2 hB hR hl hF g6_0 g6_1 g6_2 hm6
      have lj6_2 := ti_lo j6_2; have uj6_2 := ti_hi j6_2
      have fv2_23 : mo_f G H6 a0 23 = mo_f G H0 a0 23 := mo_f_F hB.2.2 h0 (by decide) (by decide)
      have fv3_25 : mo_f G H6 a0 25 = mo_f G H0 a0 25 := mo_f_F hB.2.2 h0 (by decide) (by decide)
      have hm6 : (B + j - mo_f G H6 a0 22) + 1 ≤ (n6 : Int) + 1 := by omega
      replace hF := hF.trans (dv_lp_eq)
      replace hF := hF.trans (congrArg (dv_k (f_X12_bothOf_6b d (f_X12_plainOf d))) (f_X12_bothOf_6c.eq_1 d (f_X12_plainOf d) (dv G Γ H6) ((a0 : Int)) (p1.toInt) (j6_2.toInt)))
      refine lv_aload_n hx hb dX12_bothOf_6 rfl (lv_at hl 0 rfl) ?_
      obtain ⟨m6, a6, b6, r6⟩ := g6_2
      have ce6 : mo_ce G H6 a0 B m6 = mo_ce G H0 a0 B m6 := by rw [mo_ce_F hB.1 hB.2.2 h0 (by decide)]
      refine lv_bipush (v := 6) hx hb dX12_bothOf_7 (by decide) ?_
      refine th_call (th_runV (As := [.int 6]) (rest := []) hC mf_X12_passes0 km_X12_305 im_X12_passes0 se_X12_passes0 (c_X12_passes0 l G Γ H6 hB.1 hR hU a0 h0 6 (by decide) B m6 ⟨by omega, by omega, by omega, by omega⟩) rfl rfl ⟨by dsimp only; omega, by dsimp only; omega⟩ hB.1 h0 ro_46 rfl rfl hl.1 rfl (Nat.le_of_ble_eq_true rfl) dX12_bothOf_9 ⟨Nat.le_refl _, Nat.le_refl _⟩) hB.2.1 (fun v9 H9 locs hp hz hS => ?_)
      obtain ⟨x4, rfl, lx4, ux4, hI1, hf, hR, z9_0, z9_1, z9_2⟩ := hp
      have hB := th_B_c hB hI1 hS hf (by decide)
      have fv_H9_23 : mo_f G H9 a0 23 = mo_f G H6 a0 23 := mo_f_F hf h0 (by decide) (by decide)
      have fv_H9_25 : mo_f G H9 a0 25 = mo_f G H6 a0 25 := mo_f_F hf h0 (by decide) (by decide)
      have zf9 := z9_2
      rw [tk_6] at zf9
      replace hF := hF.trans (congrArg (dv_k (f_X12_bothOf_6b d (f_X12_plainOf d))) (dv_bn2 (zf9)))
      refine W.eq (g2 := F0 m 12 ls [.int x4]) rfl ?_
      have tkw := tk_6
      refine tr_if_eq (tgt := 50) hx hb dX12_bothOf_12 (by decide) (Eq.refl _) (fun c12 => ?_) (fun c12 => ?_)
      · replace hF := hF.trans (congrArg (dv_k (f_X12_bothOf_6b d (f_X12_plainOf d))) (if_pos c12))
        refine lv_iload_n hx hb dX12_bothOf_50 rfl (lv_at hl 2 rfl) ?_
        replace hF := hF.trans (dv_kr)
        exact th_iret hC hH hr hlocks (th_nb (by omega) (by omega)) hB.2.1 ⟨_, rfl, by omega, by omega, hB.1, hB.2.2, hR, by have w9 := z9_1 (by omega); rw [← mo_rest_end r6 (show ¬ (mo_ce G H0 a0 B m6 = 6) by omega)]; omega, (hF0.symm.trans hF)⟩ dX12_bothOf_51
      · replace hF := hF.trans (congrArg (dv_k (f_X12_bothOf_6b d (f_X12_plainOf d))) (if_neg c12))
        refine lv_aload_n hx hb dX12_bothOf_15 rfl (lv_at hl 0 rfl) ?_
        obtain ⟨m7, p7, r7⟩ := mo_rest_op r6 (show mo_ce G H0 a0 B m6 = 6 by have w9 := z9_0 (by omega); omega)
        have lt7 := mo_plain_lt _ _ _ _ _ p7
        have w7 := z9_0 (by omega)
        refine lv_iload_n hx hb dX12_bothOf_16 rfl (lv_at hl 1 rfl) ?_
        have jn29 : ∀ (locs : List Loc) (ls : Array Slot) (s29_1 : Int32), th_B G Γ Γ [(46, 22), (46, 24)] H0 H9 locs → lv_has ls 4 [(0, .ref a0), (1, .int p1), (2, .int j6_2)] → F = dv_k (f_X12_bothOf_6b d (f_X12_plainOf d)) (f_X12_bothOf_29 d (f_X12_plainOf d) (dv G Γ H9) ((a0 : Int)) (p1.toInt) (j6_2.toInt) (s29_1.toInt)) → 0 ≤ s29_1.toInt → s29_1.toInt ≤ 1 → W p l e ({ frames := 16 + 4 * d, cells := 0, slots := 0, locals := 748 + d * 100 } : Room) s m ([.ref a0, .int p1] : List Value).toArray below meth c H9 locs 0 0 (MQ below (th_Q (fun (v : Option Value) (H1 : Heap) => ∃ r : Int32, v = some (.int r) ∧ 0 ≤ r.toInt ∧ r.toInt ≤ 1 ∧ th_I G Γ H1 ∧ th_F G Γ [(46, 22), (46, 24)] H0 H1 ∧ th_RC G Γ H1 ∧ (mo_f G H1 a0 22 = B + j) ∧ (f_X12_bothOf d (dv G Γ H0) (a0 : Int) p1.toInt = (dv G Γ H1, r.toInt))) G) ([.ref a0, .int p1] : List Value).toArray s 0 0 (fun q => G.2.2 ≤ q)) (F0 m 29 ls [.int s29_1, .ref a0]) := by
          intro locs ls s29_1 hB hl hF g29_0 g29_1
          have ls29_1 := ti_lo s29_1; have us29_1 := ti_hi s29_1
          replace hF := hF.trans (congrArg (dv_k (f_X12_bothOf_6b d (f_X12_plainOf d))) (f_X12_bothOf_29.eq_1 d (f_X12_plainOf d) (dv G Γ H9) ((a0 : Int)) (p1.toInt) (j6_2.toInt) (s29_1.toInt)))
          refine th_call (th_runV (As := [.int s29_1]) (rest := []) hC mf_X12_plainOf km_X12_329 im_X12_plainOf se_X12_plainOf (ihp l G Γ H9 hB.1 hR hU a0 h0 s29_1 (by omega) (by omega) B (m6 + 1) m7 ⟨by omega, by omega, by omega, by omega⟩ (by rw [mo_f_F hB.2.2 h0 (j := 25) (by decide) (by decide), mo_ce_F hB.1 hB.2.2 h0 (by decide)]; exact p7)) rfl rfl ⟨by dsimp only; omega, by dsimp only; omega⟩ hB.1 h0 ro_46 rfl rfl hl.1 rfl (Nat.le_of_ble_eq_true rfl) dX12_bothOf_29 ⟨Nat.le_refl _, Nat.le_refl _⟩) hB.2.1 (fun v29 H29 locs hp hz hS => ?_)
          obtain ⟨x5, rfl, lx5, ux5, hI1, hf, hR, z29_0, z29_1⟩ := hp
          have hB := th_B_c hB hI1 hS hf (by decide)
          have fv_H29_23 : mo_f G H29 a0 23 = mo_f G H9 a0 23 := mo_f_F hf h0 (by decide) (by decide)
          have fv_H29_25 : mo_f G H29 a0 25 = mo_f G H9 a0 25 := mo_f_F hf h0 (by decide) (by decide)
          replace hF := hF.trans (congrArg (dv_k (f_X12_bothOf_6b d (f_X12_plainOf d))) (dv_bn2 (z29_1)))
          refine W.eq (g2 := F0 m 32 ls [.int x5]) rfl ?_
          refine lv_istore_n (lv' := [(3, .int x5), (0, .ref a0), (1, .int p1), (2, .int j6_2)]) hx hb dX12_bothOf_32 rfl hl (by decide) rfl (fun ls hl => ?_)
          refine lv_iload_n hx hb dX12_bothOf_33 rfl (lv_at hl 3 rfl) ?_
          have jn46 : ∀ (locs : List Loc) (ls : Array Slot) (s46_0 : Int32), th_B G Γ Γ [(46, 22), (46, 24)] H0 H29 locs → lv_has ls 4 [(0, .ref a0), (1, .int p1)] → F = dv_k (f_X12_bothOf_6b d (f_X12_plainOf d)) (f_X12_bothOf_46 d (f_X12_plainOf d) (dv G Γ H29) ((a0 : Int)) (p1.toInt) (s46_0.toInt)) → 0 ≤ s46_0.toInt → s46_0.toInt ≤ 1 → W p l e ({ frames := 16 + 4 * d, cells := 0, slots := 0, locals := 748 + d * 100 } : Room) s m ([.ref a0, .int p1] : List Value).toArray below meth c H29 locs 0 0 (MQ below (th_Q (fun (v : Option Value) (H1 : Heap) => ∃ r : Int32, v = some (.int r) ∧ 0 ≤ r.toInt ∧ r.toInt ≤ 1 ∧ th_I G Γ H1 ∧ th_F G Γ [(46, 22), (46, 24)] H0 H1 ∧ th_RC G Γ H1 ∧ (mo_f G H1 a0 22 = B + j) ∧ (f_X12_bothOf d (dv G Γ H0) (a0 : Int) p1.toInt = (dv G Γ H1, r.toInt))) G) ([.ref a0, .int p1] : List Value).toArray s 0 0 (fun q => G.2.2 ≤ q)) (F0 m 46 ls [.int s46_0]) := by
            intro locs ls s46_0 hB hl hF g46_0 g46_1
            have ls46_0 := ti_lo s46_0; have us46_0 := ti_hi s46_0
            replace hF := hF.trans (congrArg (dv_k (f_X12_bothOf_6b d (f_X12_plainOf d))) (f_X12_bothOf_46.eq_1 d (f_X12_plainOf d) (dv G Γ H29) ((a0 : Int)) (p1.toInt) (s46_0.toInt)))
            refine lv_istore_n (lv' := [(2, .int s46_0), (0, .ref a0), (1, .int p1)]) hx hb dX12_bothOf_46 rfl hl (by decide) rfl (fun ls hl => ?_)
            refine lv_goto (tgt := 6) hx hb dX12_bothOf_47 (by decide) ?_
            replace hF := hF.trans (dv_kl)
            exact ih6 H29 locs ls s46_0 hB hR (lv_sub hl [1, 2, 0] rfl) hF (by omega) (by omega) ⟨m7, by omega, by omega, r7⟩ (by omega)
          have jn45 : ∀ (locs : List Loc) (ls : Array Slot) , th_B G Γ Γ [(46, 22), (46, 24)] H0 H29 locs → lv_has ls 4 [(0, .ref a0), (1, .int p1)] → F = dv_k (f_X12_bothOf_6b d (f_X12_plainOf d)) (f_X12_bothOf_45 d (f_X12_plainOf d) (dv G Γ H29) ((a0 : Int)) (p1.toInt)) → W p l e ({ frames := 16 + 4 * d, cells := 0, slots := 0, locals := 748 + d * 100 } : Room) s m ([.ref a0, .int p1] : List Value).toArray below meth c H29 locs 0 0 (MQ below (th_Q (fun (v : Option Value) (H1 : Heap) => ∃ r : Int32, v = some (.int r) ∧ 0 ≤ r.toInt ∧ r.toInt ≤ 1 ∧ th_I G Γ H1 ∧ th_F G Γ [(46, 22), (46, 24)] H0 H1 ∧ th_RC G Γ H1 ∧ (mo_f G H1 a0 22 = B + j) ∧ (f_X12_bothOf d (dv G Γ H0) (a0 : Int) p1.toInt = (dv G Γ H1, r.toInt))) G) ([.ref a0, .int p1] : List Value).toArray s 0 0 (fun q => G.2.2 ≤ q)) (F0 m 45 ls []) := by
            intro locs ls hB hl hF
            replace hF := hF.trans (congrArg (dv_k (f_X12_bothOf_6b d (f_X12_plainOf d))) (f_X12_bothOf_45.eq_1 d (f_X12_plainOf d) (dv G Γ H29) ((a0 : Int)) (p1.toInt)))
            refine lv_iconst (v := 0) hx hb dX12_bothOf_45 (by decide) ?_
            exact jn46 locs ls 0 hB (lv_sub hl [0, 1] rfl) (by rw [tk_0]; exact hF) (by decide) (by decide)
          refine tr_if_eq (tgt := 45) hx hb dX12_bothOf_34 (by decide) (Eq.refl _) (fun c34 => ?_) (fun c34 => ?_)
          · replace hF := hF.trans (congrArg (dv_k (f_X12_bothOf_6b d (f_X12_plainOf d))) (if_pos c34))
            exact jn45 locs ls hB (lv_sub hl [1, 2] rfl) hF
          · replace hF := hF.trans (congrArg (dv_k (f_X12_bothOf_6b d (f_X12_plainOf d))) (if_neg c34))
            refine lv_iload_n hx hb dX12_bothOf_37 rfl (lv_at hl 0 rfl) ?_
            refine tr_if_eq (tgt := 45) hx hb dX12_bothOf_38 (by decide) (Eq.refl _) (fun c38 => ?_) (fun c38 => ?_)
            · replace hF := hF.trans (congrArg (dv_k (f_X12_bothOf_6b d (f_X12_plainOf d))) (if_pos c38))
              exact jn45 locs ls hB (lv_sub hl [1, 2] rfl) hF
            · replace hF := hF.trans (congrArg (dv_k (f_X12_bothOf_6b d (f_X12_plainOf d))) (if_neg c38))
              refine lv_iconst (v := 1) hx hb dX12_bothOf_41 (by decide) ?_
              refine lv_goto (tgt := 46) hx hb dX12_bothOf_42 (by decide) ?_
              exact jn46 locs ls 1 hB (lv_sub hl [1, 2] rfl) (by rw [tk_1]; exact hF) (by decide) (by decide)
        have jn28 : ∀ (locs : List Loc) (ls : Array Slot) , th_B G Γ Γ [(46, 22), (46, 24)] H0 H9 locs → lv_has ls 4 [(0, .ref a0), (1, .int p1), (2, .int j6_2)] → F = dv_k (f_X12_bothOf_6b d (f_X12_plainOf d)) (f_X12_bothOf_28 d (f_X12_plainOf d) (dv G Γ H9) ((a0 : Int)) (p1.toInt) (j6_2.toInt)) → W p l e ({ frames := 16 + 4 * d, cells := 0, slots := 0, locals := 748 + d * 100 } : Room) s m ([.ref a0, .int p1] : List Value).toArray below meth c H9 locs 0 0 (MQ below (th_Q (fun (v : Option Value) (H1 : Heap) => ∃ r : Int32, v = some (.int r) ∧ 0 ≤ r.toInt ∧ r.toInt ≤ 1 ∧ th_I G Γ H1 ∧ th_F G Γ [(46, 22), (46, 24)] H0 H1 ∧ th_RC G Γ H1 ∧ (mo_f G H1 a0 22 = B + j) ∧ (f_X12_bothOf d (dv G Γ H0) (a0 : Int) p1.toInt = (dv G Γ H1, r.toInt))) G) ([.ref a0, .int p1] : List Value).toArray s 0 0 (fun q => G.2.2 ≤ q)) (F0 m 28 ls [.ref a0]) := by
          intro locs ls hB hl hF
          replace hF := hF.trans (congrArg (dv_k (f_X12_bothOf_6b d (f_X12_plainOf d))) (f_X12_bothOf_28.eq_1 d (f_X12_plainOf d) (dv G Γ H9) ((a0 : Int)) (p1.toInt) (j6_2.toInt)))
          refine lv_iconst (v := 0) hx hb dX12_bothOf_28 (by decide) ?_
          exact jn29 locs ls 0 hB (lv_sub hl [0, 1, 2] rfl) (by rw [tk_0]; exact hF) (by decide) (by decide)
        refine tr_if_eq (tgt := 28) hx hb dX12_bothOf_17 (by decide) (Eq.refl _) (fun c17 => ?_) (fun c17 => ?_)
        · replace hF := hF.trans (congrArg (dv_k (f_X12_bothOf_6b d (f_X12_plainOf d))) (if_pos c17))
          exact jn28 locs ls hB (lv_sub hl [0, 1, 2] rfl) hF
        · replace hF := hF.trans (congrArg (dv_k (f_X12_bothOf_6b d (f_X12_plainOf d))) (if_neg c17))
          refine lv_iload_n hx hb dX12_bothOf_20 rfl (lv_at hl 2 rfl) ?_
          refine tr_if_eq (tgt := 28) hx hb dX12_bothOf_21 (by decide) (Eq.refl _) (fun c21 => ?_) (fun c21 => ?_)
          · replace hF := hF.trans (congrArg (dv_k (f_X12_bothOf_6b d (f_X12_plainOf d))) (if_pos c21))
            exact jn28 locs ls hB (lv_sub hl [0, 1, 2] rfl) hF
          · replace hF := hF.trans (congrArg (dv_k (f_X12_bothOf_6b d (f_X12_plainOf d))) (if_neg c21))
            refine lv_iconst (v := 1) hx hb dX12_bothOf_24 (by decide) ?_
            refine lv_goto (tgt := 29) hx hb dX12_bothOf_25 (by decide) ?_
            exact jn29 locs ls 1 hB (lv_sub hl [0, 1, 2] rfl) (by rw [tk_1]; exact hF) (by decide) (by decide)
  exact lp6 ((B + j - mo_f G H2 a0 22) + 1).toNat H2 locs ls x1 hB hR (lv_sub hl [1, 2, 0] rfl) hF (by omega) (by omega) ⟨m1, by omega, by omega, r1⟩ (by omega)

set_option maxHeartbeats 4000000 in
set_option maxRecDepth 100000 in
theorem c_X12_testOf_s (d : Nat) (ihp : s_X12_bothOf d) : s_X12_testOf d := by
  intro l G Γ H0 hI hR hU a0 h0 p1 f1 g1 B i j k1 k2
  refine th_met RX12 (by decide) rfl (Nat.le_of_ble_eq_true rfl) ?_
  intro p e s m below meth c hC hH hr hlocks hnm ls hl
  have hx := hC.1
  have hb := hC.2.1
  have hB : th_B G Γ Γ [(46, 22), (46, 24)] H0 H0 [] := ⟨hI, va_S.rf, th_F_rf⟩
  have hl : lv_has ls 4 [(0, .ref a0), (1, .int p1)] := hl
  have lp1 := ti_lo p1; have up1 := ti_hi p1
  obtain ⟨F, hF0⟩ : ∃ F, F = f_X12_testOf d (dv G Γ H0) ((a0 : Int)) (p1.toInt) := ⟨_, rfl⟩
  have hF := hF0.trans ((f_X12_testOf_d d (dv G Γ H0) ((a0 : Int)) (p1.toInt)).trans (f_X12_testOf_B.eq_1 d (f_X12_bothOf d) (dv G Γ H0) ((a0 : Int)) (p1.toInt)))
  refine lv_aload_n hx hb dX12_testOf_0 rfl (lv_at hl 0 rfl) ?_
  obtain ⟨m1, p1_, r1⟩ := mo_chain_open k2
  have lt1 := mo_both_lt _ _ _ _ _ p1_
  refine lv_iload_n hx hb dX12_testOf_1 rfl (lv_at hl 1 rfl) ?_
  refine th_call (th_runV (As := [.int p1]) (rest := []) hC mf_X12_bothOf km_X12_326 im_X12_bothOf se_X12_bothOf (ihp l G Γ H0 hB.1 hR hU a0 h0 p1 (by omega) (by omega) B i m1 k1 p1_) rfl rfl ⟨by dsimp only; omega, by dsimp only; omega⟩ hB.1 h0 ro_46 rfl rfl hl.1 rfl (Nat.le_of_ble_eq_true rfl) dX12_testOf_2 ⟨Nat.le_refl _, Nat.le_refl _⟩) hB.2.1 (fun v2 H2 locs hp hz hS => ?_)
  obtain ⟨x1, rfl, lx1, ux1, hI1, hf, hR, z2_0, z2_1⟩ := hp
  have hB := th_B_c hB hI1 hS hf (by decide)
  have fv_H2_23 : mo_f G H2 a0 23 = mo_f G H0 a0 23 := mo_f_F hf h0 (by decide) (by decide)
  have fv_H2_25 : mo_f G H2 a0 25 = mo_f G H0 a0 25 := mo_f_F hf h0 (by decide) (by decide)
  replace hF := hF.trans (dv_bn2 (z2_1))
  refine W.eq (g2 := F0 m 5 ls [.int x1]) rfl ?_
  refine lv_istore_n (lv' := [(2, .int x1), (0, .ref a0), (1, .int p1)]) hx hb dX12_testOf_5 rfl hl (by decide) rfl (fun ls hl => ?_)
  have lp6 : ∀ (n6 : Nat) (H6 : Heap) (locs : List Loc) (ls : Array Slot) (j6_2 : Int32), th_B G Γ Γ [(46, 22), (46, 24)] H0 H6 locs → th_RC G Γ H6 → lv_has ls 4 [(0, .ref a0), (1, .int p1), (2, .int j6_2)] → F = dv_lp (f_X12_testOf_6b d (f_X12_bothOf d)) (dv G Γ H6, (a0 : Int), p1.toInt, j6_2.toInt) → 0 ≤ j6_2.toInt → j6_2.toInt ≤ 1 → (∃ m : Int, mo_f G H6 a0 22 = B + m ∧ 0 ≤ m ∧ mo_rest (mo_ce G H0 a0 B) (mo_both (mo_f G H0 a0 25) (mo_ce G H0 a0 B) d) (mo_is 5) m j) → (B + j - mo_f G H6 a0 22) + 1 ≤ (n6 : Int) → W p l e ({ frames := 17 + 4 * d, cells := 0, slots := 0, locals := 771 + d * 100 } : Room) s m ([.ref a0, .int p1] : List Value).toArray below meth c H6 locs 0 0 (MQ below (th_Q (fun (v : Option Value) (H1 : Heap) => ∃ r : Int32, v = some (.int r) ∧ 0 ≤ r.toInt ∧ r.toInt ≤ 1 ∧ th_I G Γ H1 ∧ th_F G Γ [(46, 22), (46, 24)] H0 H1 ∧ th_RC G Γ H1 ∧ (mo_f G H1 a0 22 = B + j) ∧ (f_X12_testOf d (dv G Γ H0) (a0 : Int) p1.toInt = (dv G Γ H1, r.toInt))) G) ([.ref a0, .int p1] : List Value).toArray s 0 0 (fun q => G.2.2 ≤ q)) (F0 m 6 ls []) := by
    intro n6
    induction n6 with
    | zero => intro H6 locs ls j6_2 hB hR hl hF g6_0 g6_1 g6_2 hm6; exact absurd hm6 (by have := mo_lp (mo_both_lt _ _ _) g6_2; omega)
    | succ n6 ih6 =>
      intro H6 locs ls j6_2 hB hR hl hF g6_0 g6_1 g6_2 hm6
      have lj6_2 := ti_lo j6_2; have uj6_2 := ti_hi j6_2
      have fv2_23 : mo_f G H6 a0 23 = mo_f G H0 a0 23 := mo_f_F hB.2.2 h0 (by decide) (by decide)
      have fv3_25 : mo_f G H6 a0 25 = mo_f G H0 a0 25 := mo_f_F hB.2.2 h0 (by decide) (by decide)
      have hm6 : (B + j - mo_f G H6 a0 22) + 1 ≤ (n6 : Int) + 1 := by omega
      replace hF := hF.trans (dv_lp_eq)
      replace hF := hF.trans (congrArg (dv_k (f_X12_testOf_6b d (f_X12_bothOf d))) (f_X12_testOf_6c.eq_1 d (f_X12_bothOf d) (dv G Γ H6) ((a0 : Int)) (p1.toInt) (j6_2.toInt)))
      refine lv_aload_n hx hb dX12_testOf_6 rfl (lv_at hl 0 rfl) ?_
      obtain ⟨m6, a6, b6, r6⟩ := g6_2
      have ce6 : mo_ce G H6 a0 B m6 = mo_ce G H0 a0 B m6 := by rw [mo_ce_F hB.1 hB.2.2 h0 (by decide)]
      refine lv_iconst (v := 5) hx hb dX12_testOf_7 (by decide) ?_
      refine th_call (th_runV (As := [.int 5]) (rest := []) hC mf_X12_passes0 km_X12_305 im_X12_passes0 se_X12_passes0 (c_X12_passes0 l G Γ H6 hB.1 hR hU a0 h0 5 (by decide) B m6 ⟨by omega, by omega, by omega, by omega⟩) rfl rfl ⟨by dsimp only; omega, by dsimp only; omega⟩ hB.1 h0 ro_46 rfl rfl hl.1 rfl (Nat.le_of_ble_eq_true rfl) dX12_testOf_8 ⟨Nat.le_refl _, Nat.le_refl _⟩) hB.2.1 (fun v8 H8 locs hp hz hS => ?_)
      obtain ⟨x4, rfl, lx4, ux4, hI1, hf, hR, z8_0, z8_1, z8_2⟩ := hp
      have hB := th_B_c hB hI1 hS hf (by decide)
      have fv_H8_23 : mo_f G H8 a0 23 = mo_f G H6 a0 23 := mo_f_F hf h0 (by decide) (by decide)
      have fv_H8_25 : mo_f G H8 a0 25 = mo_f G H6 a0 25 := mo_f_F hf h0 (by decide) (by decide)
      have zf8 := z8_2
      rw [tk_5] at zf8
      replace hF := hF.trans (congrArg (dv_k (f_X12_testOf_6b d (f_X12_bothOf d))) (dv_bn2 (zf8)))
      refine W.eq (g2 := F0 m 11 ls [.int x4]) rfl ?_
      have tkw := tk_5
      refine tr_if_eq (tgt := 49) hx hb dX12_testOf_11 (by decide) (Eq.refl _) (fun c11 => ?_) (fun c11 => ?_)
      · replace hF := hF.trans (congrArg (dv_k (f_X12_testOf_6b d (f_X12_bothOf d))) (if_pos c11))
        refine lv_iload_n hx hb dX12_testOf_49 rfl (lv_at hl 2 rfl) ?_
        replace hF := hF.trans (dv_kr)
        exact th_iret hC hH hr hlocks (th_nb (by omega) (by omega)) hB.2.1 ⟨_, rfl, by omega, by omega, hB.1, hB.2.2, hR, by have w9 := z8_1 (by omega); rw [← mo_rest_end r6 (show ¬ (mo_ce G H0 a0 B m6 = 5) by omega)]; omega, (hF0.symm.trans hF)⟩ dX12_testOf_50
      · replace hF := hF.trans (congrArg (dv_k (f_X12_testOf_6b d (f_X12_bothOf d))) (if_neg c11))
        refine lv_aload_n hx hb dX12_testOf_14 rfl (lv_at hl 0 rfl) ?_
        obtain ⟨m7, p7, r7⟩ := mo_rest_op r6 (show mo_ce G H0 a0 B m6 = 5 by have w9 := z8_0 (by omega); omega)
        have lt7 := mo_both_lt _ _ _ _ _ p7
        have w7 := z8_0 (by omega)
        refine lv_iload_n hx hb dX12_testOf_15 rfl (lv_at hl 1 rfl) ?_
        have jn28 : ∀ (locs : List Loc) (ls : Array Slot) (s28_1 : Int32), th_B G Γ Γ [(46, 22), (46, 24)] H0 H8 locs → lv_has ls 4 [(0, .ref a0), (1, .int p1), (2, .int j6_2)] → F = dv_k (f_X12_testOf_6b d (f_X12_bothOf d)) (f_X12_testOf_28 d (f_X12_bothOf d) (dv G Γ H8) ((a0 : Int)) (p1.toInt) (j6_2.toInt) (s28_1.toInt)) → 0 ≤ s28_1.toInt → s28_1.toInt ≤ 1 → W p l e ({ frames := 17 + 4 * d, cells := 0, slots := 0, locals := 771 + d * 100 } : Room) s m ([.ref a0, .int p1] : List Value).toArray below meth c H8 locs 0 0 (MQ below (th_Q (fun (v : Option Value) (H1 : Heap) => ∃ r : Int32, v = some (.int r) ∧ 0 ≤ r.toInt ∧ r.toInt ≤ 1 ∧ th_I G Γ H1 ∧ th_F G Γ [(46, 22), (46, 24)] H0 H1 ∧ th_RC G Γ H1 ∧ (mo_f G H1 a0 22 = B + j) ∧ (f_X12_testOf d (dv G Γ H0) (a0 : Int) p1.toInt = (dv G Γ H1, r.toInt))) G) ([.ref a0, .int p1] : List Value).toArray s 0 0 (fun q => G.2.2 ≤ q)) (F0 m 28 ls [.int s28_1, .ref a0]) := by
          intro locs ls s28_1 hB hl hF g28_0 g28_1
          have ls28_1 := ti_lo s28_1; have us28_1 := ti_hi s28_1
          replace hF := hF.trans (congrArg (dv_k (f_X12_testOf_6b d (f_X12_bothOf d))) (f_X12_testOf_28.eq_1 d (f_X12_bothOf d) (dv G Γ H8) ((a0 : Int)) (p1.toInt) (j6_2.toInt) (s28_1.toInt)))
          refine th_call (th_runV (As := [.int s28_1]) (rest := []) hC mf_X12_bothOf km_X12_326 im_X12_bothOf se_X12_bothOf (ihp l G Γ H8 hB.1 hR hU a0 h0 s28_1 (by omega) (by omega) B (m6 + 1) m7 ⟨by omega, by omega, by omega, by omega⟩ (by rw [mo_f_F hB.2.2 h0 (j := 25) (by decide) (by decide), mo_ce_F hB.1 hB.2.2 h0 (by decide)]; exact p7)) rfl rfl ⟨by dsimp only; omega, by dsimp only; omega⟩ hB.1 h0 ro_46 rfl rfl hl.1 rfl (Nat.le_of_ble_eq_true rfl) dX12_testOf_28 ⟨Nat.le_refl _, Nat.le_refl _⟩) hB.2.1 (fun v28 H28 locs hp hz hS => ?_)
          obtain ⟨x5, rfl, lx5, ux5, hI1, hf, hR, z28_0, z28_1⟩ := hp
          have hB := th_B_c hB hI1 hS hf (by decide)
          have fv_H28_23 : mo_f G H28 a0 23 = mo_f G H8 a0 23 := mo_f_F hf h0 (by decide) (by decide)
          have fv_H28_25 : mo_f G H28 a0 25 = mo_f G H8 a0 25 := mo_f_F hf h0 (by decide) (by decide)
          replace hF := hF.trans (congrArg (dv_k (f_X12_testOf_6b d (f_X12_bothOf d))) (dv_bn2 (z28_1)))
          refine W.eq (g2 := F0 m 31 ls [.int x5]) rfl ?_
          refine lv_istore_n (lv' := [(3, .int x5), (0, .ref a0), (1, .int p1), (2, .int j6_2)]) hx hb dX12_testOf_31 rfl hl (by decide) rfl (fun ls hl => ?_)
          refine lv_iload_n hx hb dX12_testOf_32 rfl (lv_at hl 3 rfl) ?_
          have jn45 : ∀ (locs : List Loc) (ls : Array Slot) (s45_0 : Int32), th_B G Γ Γ [(46, 22), (46, 24)] H0 H28 locs → lv_has ls 4 [(0, .ref a0), (1, .int p1)] → F = dv_k (f_X12_testOf_6b d (f_X12_bothOf d)) (f_X12_testOf_45 d (f_X12_bothOf d) (dv G Γ H28) ((a0 : Int)) (p1.toInt) (s45_0.toInt)) → 0 ≤ s45_0.toInt → s45_0.toInt ≤ 1 → W p l e ({ frames := 17 + 4 * d, cells := 0, slots := 0, locals := 771 + d * 100 } : Room) s m ([.ref a0, .int p1] : List Value).toArray below meth c H28 locs 0 0 (MQ below (th_Q (fun (v : Option Value) (H1 : Heap) => ∃ r : Int32, v = some (.int r) ∧ 0 ≤ r.toInt ∧ r.toInt ≤ 1 ∧ th_I G Γ H1 ∧ th_F G Γ [(46, 22), (46, 24)] H0 H1 ∧ th_RC G Γ H1 ∧ (mo_f G H1 a0 22 = B + j) ∧ (f_X12_testOf d (dv G Γ H0) (a0 : Int) p1.toInt = (dv G Γ H1, r.toInt))) G) ([.ref a0, .int p1] : List Value).toArray s 0 0 (fun q => G.2.2 ≤ q)) (F0 m 45 ls [.int s45_0]) := by
            intro locs ls s45_0 hB hl hF g45_0 g45_1
            have ls45_0 := ti_lo s45_0; have us45_0 := ti_hi s45_0
            replace hF := hF.trans (congrArg (dv_k (f_X12_testOf_6b d (f_X12_bothOf d))) (f_X12_testOf_45.eq_1 d (f_X12_bothOf d) (dv G Γ H28) ((a0 : Int)) (p1.toInt) (s45_0.toInt)))
            refine lv_istore_n (lv' := [(2, .int s45_0), (0, .ref a0), (1, .int p1)]) hx hb dX12_testOf_45 rfl hl (by decide) rfl (fun ls hl => ?_)
            refine lv_goto (tgt := 6) hx hb dX12_testOf_46 (by decide) ?_
            replace hF := hF.trans (dv_kl)
            exact ih6 H28 locs ls s45_0 hB hR (lv_sub hl [1, 2, 0] rfl) hF (by omega) (by omega) ⟨m7, by omega, by omega, r7⟩ (by omega)
          have jn40 : ∀ (locs : List Loc) (ls : Array Slot) , th_B G Γ Γ [(46, 22), (46, 24)] H0 H28 locs → lv_has ls 4 [(0, .ref a0), (1, .int p1)] → F = dv_k (f_X12_testOf_6b d (f_X12_bothOf d)) (f_X12_testOf_40 d (f_X12_bothOf d) (dv G Γ H28) ((a0 : Int)) (p1.toInt)) → W p l e ({ frames := 17 + 4 * d, cells := 0, slots := 0, locals := 771 + d * 100 } : Room) s m ([.ref a0, .int p1] : List Value).toArray below meth c H28 locs 0 0 (MQ below (th_Q (fun (v : Option Value) (H1 : Heap) => ∃ r : Int32, v = some (.int r) ∧ 0 ≤ r.toInt ∧ r.toInt ≤ 1 ∧ th_I G Γ H1 ∧ th_F G Γ [(46, 22), (46, 24)] H0 H1 ∧ th_RC G Γ H1 ∧ (mo_f G H1 a0 22 = B + j) ∧ (f_X12_testOf d (dv G Γ H0) (a0 : Int) p1.toInt = (dv G Γ H1, r.toInt))) G) ([.ref a0, .int p1] : List Value).toArray s 0 0 (fun q => G.2.2 ≤ q)) (F0 m 40 ls []) := by
            intro locs ls hB hl hF
            replace hF := hF.trans (congrArg (dv_k (f_X12_testOf_6b d (f_X12_bothOf d))) (f_X12_testOf_40.eq_1 d (f_X12_bothOf d) (dv G Γ H28) ((a0 : Int)) (p1.toInt)))
            refine lv_iconst (v := 1) hx hb dX12_testOf_40 (by decide) ?_
            refine lv_goto (tgt := 45) hx hb dX12_testOf_41 (by decide) ?_
            exact jn45 locs ls 1 hB (lv_sub hl [0, 1] rfl) (by rw [tk_1]; exact hF) (by decide) (by decide)
          refine tr_if_ne (tgt := 40) hx hb dX12_testOf_33 (by decide) (Eq.refl _) (fun c33 => ?_) (fun c33 => ?_)
          · replace hF := hF.trans (congrArg (dv_k (f_X12_testOf_6b d (f_X12_bothOf d))) (if_pos c33))
            exact jn40 locs ls hB (lv_sub hl [1, 2] rfl) hF
          · replace hF := hF.trans (congrArg (dv_k (f_X12_testOf_6b d (f_X12_bothOf d))) (if_neg (not_not_intro c33)))
            refine lv_iload_n hx hb dX12_testOf_36 rfl (lv_at hl 0 rfl) ?_
            refine tr_if_eq (tgt := 44) hx hb dX12_testOf_37 (by decide) (Eq.refl _) (fun c37 => ?_) (fun c37 => ?_)
            · replace hF := hF.trans (congrArg (dv_k (f_X12_testOf_6b d (f_X12_bothOf d))) (if_pos c37))
              refine lv_iconst (v := 0) hx hb dX12_testOf_44 (by decide) ?_
              exact jn45 locs ls 0 hB (lv_sub hl [1, 2] rfl) (by rw [tk_0]; exact hF) (by decide) (by decide)
            · replace hF := hF.trans (congrArg (dv_k (f_X12_testOf_6b d (f_X12_bothOf d))) (if_neg c37))
              exact jn40 locs ls hB (lv_sub hl [1, 2] rfl) hF
        have jn27 : ∀ (locs : List Loc) (ls : Array Slot) , th_B G Γ Γ [(46, 22), (46, 24)] H0 H8 locs → lv_has ls 4 [(0, .ref a0), (1, .int p1), (2, .int j6_2)] → F = dv_k (f_X12_testOf_6b d (f_X12_bothOf d)) (f_X12_testOf_27 d (f_X12_bothOf d) (dv G Γ H8) ((a0 : Int)) (p1.toInt) (j6_2.toInt)) → W p l e ({ frames := 17 + 4 * d, cells := 0, slots := 0, locals := 771 + d * 100 } : Room) s m ([.ref a0, .int p1] : List Value).toArray below meth c H8 locs 0 0 (MQ below (th_Q (fun (v : Option Value) (H1 : Heap) => ∃ r : Int32, v = some (.int r) ∧ 0 ≤ r.toInt ∧ r.toInt ≤ 1 ∧ th_I G Γ H1 ∧ th_F G Γ [(46, 22), (46, 24)] H0 H1 ∧ th_RC G Γ H1 ∧ (mo_f G H1 a0 22 = B + j) ∧ (f_X12_testOf d (dv G Γ H0) (a0 : Int) p1.toInt = (dv G Γ H1, r.toInt))) G) ([.ref a0, .int p1] : List Value).toArray s 0 0 (fun q => G.2.2 ≤ q)) (F0 m 27 ls [.ref a0]) := by
          intro locs ls hB hl hF
          replace hF := hF.trans (congrArg (dv_k (f_X12_testOf_6b d (f_X12_bothOf d))) (f_X12_testOf_27.eq_1 d (f_X12_bothOf d) (dv G Γ H8) ((a0 : Int)) (p1.toInt) (j6_2.toInt)))
          refine lv_iconst (v := 0) hx hb dX12_testOf_27 (by decide) ?_
          exact jn28 locs ls 0 hB (lv_sub hl [0, 1, 2] rfl) (by rw [tk_0]; exact hF) (by decide) (by decide)
        refine tr_if_eq (tgt := 27) hx hb dX12_testOf_16 (by decide) (Eq.refl _) (fun c16 => ?_) (fun c16 => ?_)
        · replace hF := hF.trans (congrArg (dv_k (f_X12_testOf_6b d (f_X12_bothOf d))) (if_pos c16))
          exact jn27 locs ls hB (lv_sub hl [0, 1, 2] rfl) hF
        · replace hF := hF.trans (congrArg (dv_k (f_X12_testOf_6b d (f_X12_bothOf d))) (if_neg c16))
          refine lv_iload_n hx hb dX12_testOf_19 rfl (lv_at hl 2 rfl) ?_
          refine tr_if_ne (tgt := 27) hx hb dX12_testOf_20 (by decide) (Eq.refl _) (fun c20 => ?_) (fun c20 => ?_)
          · replace hF := hF.trans (congrArg (dv_k (f_X12_testOf_6b d (f_X12_bothOf d))) (if_pos c20))
            exact jn27 locs ls hB (lv_sub hl [0, 1, 2] rfl) hF
          · replace hF := hF.trans (congrArg (dv_k (f_X12_testOf_6b d (f_X12_bothOf d))) (if_neg (not_not_intro c20)))
            refine lv_iconst (v := 1) hx hb dX12_testOf_23 (by decide) ?_
            refine lv_goto (tgt := 28) hx hb dX12_testOf_24 (by decide) ?_
            exact jn28 locs ls 1 hB (lv_sub hl [0, 1, 2] rfl) (by rw [tk_1]; exact hF) (by decide) (by decide)
  exact lp6 ((B + j - mo_f G H2 a0 22) + 1).toNat H2 locs ls x1 hB hR (lv_sub hl [1, 2, 0] rfl) hF (by omega) (by omega) ⟨m1, by omega, by omega, r1⟩ (by omega)

theorem c_X12_testOf_d (d : Nat) : s_X12_testOf d := by
  induction d with
  | zero => exact (c_X12_testOf_s 0 (c_X12_bothOf_s 0 (c_X12_plainOf_s 0 (c_X12_positiveOf_s 0 (fun d' h => absurd h (by omega))))))
  | succ d ih => exact (c_X12_testOf_s (d + 1) (c_X12_bothOf_s (d + 1) (c_X12_plainOf_s (d + 1) (c_X12_positiveOf_s (d + 1) (fun d' h => by cases h; exact ih)))))
theorem c_X12_positiveOf_d (d : Nat) : s_X12_positiveOf d := c_X12_positiveOf_s d (fun d' _ => c_X12_testOf_d d')
theorem c_X12_plainOf_d (d : Nat) : s_X12_plainOf d := c_X12_plainOf_s d (c_X12_positiveOf_d d)
theorem c_X12_bothOf_d (d : Nat) : s_X12_bothOf d := c_X12_bothOf_s d (c_X12_plainOf_d d)
