set_option maxHeartbeats 4000000 in
set_option maxRecDepth 100000 in
theorem c_X12_readsAs (l : Launch) (G : th_G) (Γ : th_Ga) (H0 : Heap) (hI : th_I G Γ H0) (hR : th_RC G Γ H0) (hU : dv_U Γ) (a0 : Nat) (h0 : Γ a0 = (46, 0)) (p1 : Int32) (f1 : 0 ≤ p1.toInt) (g1 : p1.toInt ≤ 1) : Met l yX12_readsAs (.code yX12_readsAs cX12_readsAs 2 (some FieldType.boolean) :: th_tb) ({ frames := 74, cells := 0, slots := 0, locals := 2226 } : Room) (th_P [.ref a0, .int p1] G H0) (th_Q (fun (v : Option Value) (H1 : Heap) => ∃ r : Int32, v = some (.int r) ∧ 0 ≤ r.toInt ∧ r.toInt ≤ 1 ∧ th_I G Γ H1 ∧ th_F G Γ [(46, 19), (46, 20), (46, 21), (46, 18), (57, 0), (56, 0), (55, 0), (46, 13), (46, 14), (46, 8), (46, 9), (46, 10)] H0 H1 ∧ th_RC G Γ H1 ∧ (r.toInt = 1 → mo_text p1.toInt (mo_cr G H1 a0) (mo_f G H1 a0 18)) ∧ (f_X12_readsAs (dv G Γ H0) (a0 : Int) p1.toInt = (dv G Γ H1, r.toInt))) G) 0 0 (fun q => G.2.2 ≤ q) := by
  refine th_met RX12 (by decide) rfl (Nat.le_of_ble_eq_true rfl) ?_
  intro p e s m below meth c hC hH hr hlocks hnm ls hl
  have hx := hC.1
  have hb := hC.2.1
  have hB : th_B G Γ Γ [(46, 19), (46, 20), (46, 21), (46, 18), (57, 0), (56, 0), (55, 0), (46, 13), (46, 14), (46, 8), (46, 9), (46, 10)] H0 H0 [] := ⟨hI, va_S.rf, th_F_rf⟩
  have hl : lv_has ls 2 [(0, .ref a0), (1, .int p1)] := hl
  have lp1 := ti_lo p1; have up1 := ti_hi p1
  obtain ⟨F, hF0⟩ : ∃ F, F = f_X12_readsAs (dv G Γ H0) ((a0 : Int)) (p1.toInt) := ⟨_, rfl⟩
  have hF := hF0.trans (f_X12_readsAs.eq_1 (dv G Γ H0) ((a0 : Int)) (p1.toInt))
  refine lv_aload_n hx hb dX12_readsAs_0 rfl (lv_at hl 0 rfl) ?_
  refine lv_iload_n hx hb dX12_readsAs_1 rfl (lv_at hl 1 rfl) ?_
  refine th_put hC cf_X12 hB h0 (Or.inl h0) ro_46 rfl (j := 10) rfl (th_sI (by omega) (by omega)) (by decide) rfl (th_nb (by omega) (by omega)) (th_fb (by omega) (by omega)) kf_X12_224 dX12_readsAs_2 (fun H2 locs hB hf hst2 => ?_)
  have hR := th_RC_F hB.1 hR hf (th_T_s h0 ro_46 hst2) (by decide)
  have fv_H2_8 : mo_f G H2 a0 8 = mo_f G H0 a0 8 := mo_f_F hf h0 (by decide) (by decide)
  have fv_H2_9 : mo_f G H2 a0 9 = mo_f G H0 a0 9 := mo_f_F hf h0 (by decide) (by decide)
  replace hF := hF.trans (dv_bn (dv_putI hB.1 h0 ro_46 (j := 10) rfl (th_apart hC cf_X12) hst2 (Eq.refl _) (by decide)))
  have fp2 : mo_f G H2 a0 10 = p1.toInt := mo_f_St hst2
  refine lv_aload_n hx hb dX12_readsAs_5 rfl (lv_at hl 0 rfl) ?_
  refine lv_iload_n hx hb dX12_readsAs_6 rfl (lv_at hl 1 rfl) ?_
  refine tr_if_eq (tgt := 15) hx hb dX12_readsAs_7 (by decide) (Eq.refl _) (fun c7 => ?_) (fun c7 => ?_)
  · replace hF := hF.trans (if_pos c7)
    refine lv_bipush (v := 8) hx hb dX12_readsAs_15 (by decide) ?_
    refine th_put hC cf_X12 hB h0 (Or.inl h0) ro_46 rfl (j := 8) rfl th_sIa (by decide) rfl rfl rfl kf_X12_250 dX12_readsAs_17 (fun H17 locs hB hf hst17 => ?_)
    have hR := th_RC_F hB.1 hR hf (th_T_s h0 ro_46 hst17) (by decide)
    have fv_H17_9 : mo_f G H17 a0 9 = mo_f G H2 a0 9 := mo_f_F hf h0 (by decide) (by decide)
    have fv_H17_10 : mo_f G H17 a0 10 = mo_f G H2 a0 10 := mo_f_F hf h0 (by decide) (by decide)
    replace hF := hF.trans (dv_bn (dv_putI hB.1 h0 ro_46 (j := 8) rfl (th_apart hC cf_X12) hst17 tk_8 (by decide)))
    have fp17 : mo_f G H17 a0 8 = 8 := (mo_f_St hst17).trans tk_8
    refine lv_aload_n hx hb dX12_readsAs_20 rfl (lv_at hl 0 rfl) ?_
    refine lv_iload_n hx hb dX12_readsAs_21 rfl (lv_at hl 1 rfl) ?_
    refine tr_if_eq (tgt := 30) hx hb dX12_readsAs_22 (by decide) (Eq.refl _) (fun c22 => ?_) (fun c22 => ?_)
    · replace hF := hF.trans (if_pos c22)
      refine lv_bipush (v := 15) hx hb dX12_readsAs_30 (by decide) ?_
      refine th_put hC cf_X12 hB h0 (Or.inl h0) ro_46 rfl (j := 9) rfl th_sIa (by decide) rfl rfl rfl kf_X12_253 dX12_readsAs_32 (fun H32 locs hB hf hst32 => ?_)
      have hR := th_RC_F hB.1 hR hf (th_T_s h0 ro_46 hst32) (by decide)
      have fv_H32_8 : mo_f G H32 a0 8 = mo_f G H17 a0 8 := mo_f_F hf h0 (by decide) (by decide)
      have fv_H32_10 : mo_f G H32 a0 10 = mo_f G H17 a0 10 := mo_f_F hf h0 (by decide) (by decide)
      replace hF := hF.trans (dv_bn (dv_putI hB.1 h0 ro_46 (j := 9) rfl (th_apart hC cf_X12) hst32 tk_15 (by decide)))
      have fp32 : mo_f G H32 a0 9 = 15 := (mo_f_St hst32).trans tk_15
      refine lv_aload_n hx hb dX12_readsAs_35 rfl (lv_at hl 0 rfl) ?_
      refine th_call (th_runV (As := []) (rest := []) hC mf_X12_reads km_X12_265 im_X12_reads se_X12_reads (c_X12_reads l G Γ H32 hB.1 hR hU a0 h0 p1.toInt (show mo_wd G H32 a0 p1.toInt from ⟨by omega, by omega⟩)) rfl rfl ⟨Nat.le_of_ble_eq_true rfl, Nat.le_of_ble_eq_true rfl⟩ hB.1 h0 ro_46 rfl rfl hl.1 rfl (Nat.le_of_ble_eq_true rfl) dX12_readsAs_36 ⟨Nat.le_refl _, Nat.le_refl _⟩) hB.2.1 (fun v36 H36 locs hp hz hS => ?_)
      obtain ⟨x1, rfl, lx1, ux1, hI1, hf, hR, z36_0, z36_1⟩ := hp
      have hB := th_B_c hB hI1 hS hf (by decide)
      have fv_H36_8 : mo_f G H36 a0 8 = mo_f G H32 a0 8 := mo_f_F hf h0 (by decide) (by decide)
      have fv_H36_9 : mo_f G H36 a0 9 = mo_f G H32 a0 9 := mo_f_F hf h0 (by decide) (by decide)
      have fv_H36_10 : mo_f G H36 a0 10 = mo_f G H32 a0 10 := mo_f_F hf h0 (by decide) (by decide)
      replace hF := hF.trans (dv_bn2 (z36_1))
      refine W.eq (g2 := F0 m 39 ls [.int x1]) rfl ?_
      exact th_iret hC hH hr hlocks (th_nb (by omega) (by omega)) hB.2.1 ⟨_, rfl, by omega, by omega, hB.1, hB.2.2, hR, z36_0, (hF0.symm.trans hF)⟩ dX12_readsAs_39
    · exfalso; omega
  · replace hF := hF.trans (if_neg c7)
    refine lv_bipush (v := 14) hx hb dX12_readsAs_10 (by decide) ?_
    refine lv_goto (tgt := 17) hx hb dX12_readsAs_12 (by decide) ?_
    refine th_put hC cf_X12 hB h0 (Or.inl h0) ro_46 rfl (j := 8) rfl th_sIa (by decide) rfl rfl rfl kf_X12_250 dX12_readsAs_17 (fun H17 locs hB hf hst17 => ?_)
    have hR := th_RC_F hB.1 hR hf (th_T_s h0 ro_46 hst17) (by decide)
    have fv_H17_9 : mo_f G H17 a0 9 = mo_f G H2 a0 9 := mo_f_F hf h0 (by decide) (by decide)
    have fv_H17_10 : mo_f G H17 a0 10 = mo_f G H2 a0 10 := mo_f_F hf h0 (by decide) (by decide)
    replace hF := hF.trans (dv_bn (dv_putI hB.1 h0 ro_46 (j := 8) rfl (th_apart hC cf_X12) hst17 tk_14 (by decide)))
    have fp17 : mo_f G H17 a0 8 = 14 := (mo_f_St hst17).trans tk_14
    refine lv_aload_n hx hb dX12_readsAs_20 rfl (lv_at hl 0 rfl) ?_
    refine lv_iload_n hx hb dX12_readsAs_21 rfl (lv_at hl 1 rfl) ?_
    refine tr_if_eq (tgt := 30) hx hb dX12_readsAs_22 (by decide) (Eq.refl _) (fun c22 => ?_) (fun c22 => ?_)
    · exfalso; omega
    · replace hF := hF.trans (if_neg c22)
      refine lv_bipush (v := 20) hx hb dX12_readsAs_25 (by decide) ?_
      refine lv_goto (tgt := 32) hx hb dX12_readsAs_27 (by decide) ?_
      refine th_put hC cf_X12 hB h0 (Or.inl h0) ro_46 rfl (j := 9) rfl th_sIa (by decide) rfl rfl rfl kf_X12_253 dX12_readsAs_32 (fun H32 locs hB hf hst32 => ?_)
      have hR := th_RC_F hB.1 hR hf (th_T_s h0 ro_46 hst32) (by decide)
      have fv_H32_8 : mo_f G H32 a0 8 = mo_f G H17 a0 8 := mo_f_F hf h0 (by decide) (by decide)
      have fv_H32_10 : mo_f G H32 a0 10 = mo_f G H17 a0 10 := mo_f_F hf h0 (by decide) (by decide)
      replace hF := hF.trans (dv_bn (dv_putI hB.1 h0 ro_46 (j := 9) rfl (th_apart hC cf_X12) hst32 tk_20 (by decide)))
      have fp32 : mo_f G H32 a0 9 = 20 := (mo_f_St hst32).trans tk_20
      refine lv_aload_n hx hb dX12_readsAs_35 rfl (lv_at hl 0 rfl) ?_
      refine th_call (th_runV (As := []) (rest := []) hC mf_X12_reads km_X12_265 im_X12_reads se_X12_reads (c_X12_reads l G Γ H32 hB.1 hR hU a0 h0 p1.toInt (show mo_wd G H32 a0 p1.toInt from ⟨by omega, by omega⟩)) rfl rfl ⟨Nat.le_of_ble_eq_true rfl, Nat.le_of_ble_eq_true rfl⟩ hB.1 h0 ro_46 rfl rfl hl.1 rfl (Nat.le_of_ble_eq_true rfl) dX12_readsAs_36 ⟨Nat.le_refl _, Nat.le_refl _⟩) hB.2.1 (fun v36 H36 locs hp hz hS => ?_)
      obtain ⟨x2, rfl, lx2, ux2, hI1, hf, hR, z36_0, z36_1⟩ := hp
      have hB := th_B_c hB hI1 hS hf (by decide)
      have fv_H36_8 : mo_f G H36 a0 8 = mo_f G H32 a0 8 := mo_f_F hf h0 (by decide) (by decide)
      have fv_H36_9 : mo_f G H36 a0 9 = mo_f G H32 a0 9 := mo_f_F hf h0 (by decide) (by decide)
      have fv_H36_10 : mo_f G H36 a0 10 = mo_f G H32 a0 10 := mo_f_F hf h0 (by decide) (by decide)
      replace hF := hF.trans (dv_bn2 (z36_1))
      refine W.eq (g2 := F0 m 39 ls [.int x2]) rfl ?_
      exact th_iret hC hH hr hlocks (th_nb (by omega) (by omega)) hB.2.1 ⟨_, rfl, by omega, by omega, hB.1, hB.2.2, hR, z36_0, (hF0.symm.trans hF)⟩ dX12_readsAs_39

set_option maxHeartbeats 4000000 in
set_option maxRecDepth 100000 in
theorem c_X12_lays (l : Launch) (G : th_G) (Γ : th_Ga) (H0 : Heap) (hI : th_I G Γ H0) (hR : th_RC G Γ H0) (hU : dv_U Γ) (a0 : Nat) (h0 : Γ a0 = (46, 0)) (p1 : Int32) (f1 : 0 ≤ p1.toInt) (g1 : p1.toInt ≤ 6) : Met l yX12_lays (.code yX12_lays cX12_lays 3 (none) :: th_tb) ({ frames := 0, cells := 0, slots := 0, locals := 0 } : Room) (th_P [.ref a0, .int p1] G H0) (th_Q (fun (v : Option Value) (H1 : Heap) => v = none ∧ th_I G Γ H1 ∧ th_F G Γ [(48, 0)] H0 H1 ∧ th_RC G Γ H1 ∧ (∀ z : Int, z < 2880 → mo_v G H1 a0 2 z = mo_ly (mo_v G H0 a0 2) (mo_v G H0 a0 15) p1.toInt (mo_f G H0 a0 18) (mo_f G H0 a0 18) z) ∧ (f_X12_lays (dv G Γ H0) (a0 : Int) p1.toInt = (dv G Γ H1, 0))) G) 0 0 (fun q => G.2.2 ≤ q) := by
  refine th_met RX12 (by decide) rfl (Nat.le_of_ble_eq_true rfl) ?_
  intro p e s m below meth c hC hH hr hlocks hnm ls hl
  have hx := hC.1
  have hb := hC.2.1
  have hB : th_B G Γ Γ [(48, 0)] H0 H0 [] := ⟨hI, va_S.rf, th_F_rf⟩
  have hl : lv_has ls 3 [(0, .ref a0), (1, .int p1)] := hl
  have lp1 := ti_lo p1; have up1 := ti_hi p1
  obtain ⟨F, hF0⟩ : ∃ F, F = f_X12_lays (dv G Γ H0) ((a0 : Int)) (p1.toInt) := ⟨_, rfl⟩
  have hF := hF0.trans (f_X12_lays.eq_1 (dv G Γ H0) ((a0 : Int)) (p1.toInt))
  refine lv_aload_n hx hb dX12_lays_0 rfl (lv_at hl 0 rfl) ?_
  refine th_getO (j := 2) (r2 := 48) hC cf_X12 hB.1 h0 ro_46 rfl rfl kf_X12_28 dX12_lays_1 (fun b1 mb1 hb1 => ?_)
  refine lv_bipush (v := 73) hx hb dX12_lays_4 (by decide) ?_
  refine lv_iload_n hx hb dX12_lays_6 rfl (lv_at hl 1 rfl) ?_
  refine tr_iadd hx hb dX12_lays_7 tk_73 (Eq.refl _) (by omega) (by omega) (fun x2 ex2 => ?_)
  replace hF := hF.trans (dv_bn (ex2.symm))
  refine lv_aload_n hx hb dX12_lays_8 rfl (lv_at hl 0 rfl) ?_
  refine th_getI (j := 18) hC cf_X12 hB.1 h0 ro_46 rfl rfl kf_X12_175 dX12_lays_9 (fun x3 mx3 lx3 ux3 => ?_)
  replace hF := hF.trans (dv_bn (dv_getI h0 ro_46 (j := 18) rfl mx3 (by decide)))
  have fg4 : mo_f G H0 a0 18 = x3.toInt := mo_fat mx3
  have hIo := hB.1
  refine th_iastF hC hB hb1 (Or.inl hb1) ro_48 rfl (by decide) (Eq.refl _) (by omega) (by omega) (by rw [(ek_size (by omega) (by omega))]; exact (th_sI (by omega) (by omega))) dX12_lays_12 (fun H12 locs hB hf12 hst12 => ?_)
  have hf := hf12
  have mm5 := (th_F_o hf h0 ro_46 (j := 2) (by decide) (by decide)).trans mb1
  have mm6 := (th_F_o hf h0 ro_46 (j := 18) (by decide) (by decide)).trans mx3
  have hR := th_RC_F hB.1 hR hf (th_T_s hb1 ro_48 hst12) (by decide)
  have fv_H12_18 : mo_f G H12 a0 18 = mo_f G H0 a0 18 := mo_f_F hf h0 (by decide) (by decide)
  have vv_H12_15 : mo_v G H12 a0 15 = mo_v G H0 a0 15 := mo_v_F (r := 55) hB.1 hf h0 rfl ro_55 (by decide) (by decide)
  replace hF := hF.trans (dv_bn (dv_stoI hIo hB.1 hU hb1 ow_48 (i := x2.toInt) hst12 (Eq.refl _) (by omega)))
  have vs12 : mo_v G H12 a0 2 = mo_u (mo_v G H0 a0 2) (73 + p1.toInt) x3.toInt := by rw [show ((73 + p1.toInt) : Int) = x2.toInt by omega]; exact mo_v_st h0 hb1 (by decide) mb1 hst12 (by omega)
  refine lv_iconst (v := 0) hx hb dX12_lays_13 (by decide) ?_
  refine lv_istore_n (lv' := [(2, .int 0), (0, .ref a0), (1, .int p1)]) hx hb dX12_lays_14 rfl hl (by decide) rfl (fun ls hl => ?_)
  have lp15 : ∀ (n15 : Nat) (H15 : Heap) (locs : List Loc) (ls : Array Slot) (j15_2 : Int32), th_B G Γ Γ [(48, 0)] H0 H15 locs → th_RC G Γ H15 → lv_has ls 3 [(0, .ref a0), (1, .int p1), (2, .int j15_2)] → F = dv_lp f_X12_lays_15b (dv G Γ H15, (a0 : Int), p1.toInt, j15_2.toInt) → 0 ≤ j15_2.toInt → j15_2.toInt ≤ 400 → (∀ z : Int, z < 2880 → mo_v G H15 a0 2 z = mo_ly (mo_v G H0 a0 2) (mo_v G H0 a0 15) p1.toInt (mo_f G H0 a0 18) j15_2.toInt z) → j15_2.toInt ≤ mo_f G H0 a0 18 → (2147483648 : Int) - j15_2.toInt ≤ (n15 : Int) → W p l e ({ frames := 0, cells := 0, slots := 0, locals := 0 } : Room) s m ([.ref a0, .int p1] : List Value).toArray below meth c H15 locs 0 0 (MQ below (th_Q (fun (v : Option Value) (H1 : Heap) => v = none ∧ th_I G Γ H1 ∧ th_F G Γ [(48, 0)] H0 H1 ∧ th_RC G Γ H1 ∧ (∀ z : Int, z < 2880 → mo_v G H1 a0 2 z = mo_ly (mo_v G H0 a0 2) (mo_v G H0 a0 15) p1.toInt (mo_f G H0 a0 18) (mo_f G H0 a0 18) z) ∧ (f_X12_lays (dv G Γ H0) (a0 : Int) p1.toInt = (dv G Γ H1, 0))) G) ([.ref a0, .int p1] : List Value).toArray s 0 0 (fun q => G.2.2 ≤ q)) (F0 m 15 ls []) := by
    intro n15
    induction n15 with
    | zero => intro H15 locs ls j15_2 hB hR hl hF g15_0 g15_1 g15_2 g15_3 hm15; exact absurd hm15 (by have := ti_hi j15_2; omega)
    | succ n15 ih15 =>
      intro H15 locs ls j15_2 hB hR hl hF g15_0 g15_1 g15_2 g15_3 hm15
      have lj15_2 := ti_lo j15_2; have uj15_2 := ti_hi j15_2
      have mm7 := (th_F_o hB.2.2 h0 ro_46 (j := 2) (by decide) (by decide)).trans mb1
      have mm8 := (th_F_o hB.2.2 h0 ro_46 (j := 18) (by decide) (by decide)).trans mx3
      have fv9_18 : mo_f G H15 a0 18 = mo_f G H0 a0 18 := mo_f_F hB.2.2 h0 (by decide) (by decide)
      have vw_H15_15 : mo_v G H15 a0 15 = mo_v G H0 a0 15 := mo_v_F (r := 55) hB.1 hB.2.2 h0 rfl ro_55 (by decide) (by decide)
      have hm15 : (2147483648 : Int) - j15_2.toInt ≤ (n15 : Int) + 1 := by omega
      replace hF := hF.trans (dv_lp_eq)
      replace hF := hF.trans (congrArg (dv_k f_X12_lays_15b) (f_X12_lays_15c.eq_1 (dv G Γ H15) ((a0 : Int)) (p1.toInt) (j15_2.toInt)))
      refine lv_iload_n hx hb dX12_lays_15 rfl (lv_at hl 2 rfl) ?_
      refine lv_aload_n hx hb dX12_lays_16 rfl (lv_at hl 0 rfl) ?_
      refine th_getK hC cf_X12 hB.1 h0 ro_46 rfl (j := 18) (by decide) mm8 kf_X12_175 dX12_lays_17 ?_
      replace hF := hF.trans (congrArg (dv_k f_X12_lays_15b) (dv_bn (dv_getI h0 ro_46 (j := 18) rfl mm8 (by decide))))
      have fg10 : mo_f G H15 a0 18 = x3.toInt := mo_fat mm8
      refine tr_icmp_ge (tgt := 72) hx hb dX12_lays_20 (by decide) (Eq.refl _) (Eq.refl _) (fun c20 => ?_) (fun c20 => ?_)
      · replace hF := hF.trans (congrArg (dv_k f_X12_lays_15b) (if_pos c20))
        replace hF := hF.trans (dv_kr)
        exact th_vret hC hH hr hlocks hB.2.1 ⟨rfl, hB.1, hB.2.2, hR, fun z z1 => by rw [g15_2 z z1, show j15_2.toInt = mo_f G H0 a0 18 by omega], (hF0.symm.trans hF)⟩ dX12_lays_72
      · replace hF := hF.trans (congrArg (dv_k f_X12_lays_15b) (if_neg (Int.not_le.mpr c20)))
        refine lv_aload_n hx hb dX12_lays_23 rfl (lv_at hl 0 rfl) ?_
        refine th_getK hC cf_X12 hB.1 h0 ro_46 rfl (j := 2) (by decide) mm7 kf_X12_28 dX12_lays_24 ?_
        refine lv_bipush (v := 80) hx hb dX12_lays_27 (by decide) ?_
        refine lv_sipush (v := 400) hx hb dX12_lays_29 (by decide) ?_
        refine lv_iload_n hx hb dX12_lays_32 rfl (lv_at hl 1 rfl) ?_
        refine tr_imul hx hb dX12_lays_33 tk_400 (Eq.refl _) (by omega) (by omega) (fun x11 ex11 => ?_)
        replace hF := hF.trans (congrArg (dv_k f_X12_lays_15b) (dv_bn (ex11.symm)))
        refine tr_iadd hx hb dX12_lays_34 tk_80 (Eq.refl _) (by omega) (by omega) (fun x12 ex12 => ?_)
        replace hF := hF.trans (congrArg (dv_k f_X12_lays_15b) (dv_bn (ex12.symm)))
        refine lv_iload_n hx hb dX12_lays_35 rfl (lv_at hl 2 rfl) ?_
        refine tr_iadd hx hb dX12_lays_36 (Eq.refl _) (Eq.refl _) (by omega) (by omega) (fun x13 ex13 => ?_)
        replace hF := hF.trans (congrArg (dv_k f_X12_lays_15b) (dv_bn (ex13.symm)))
        refine lv_aload_n hx hb dX12_lays_37 rfl (lv_at hl 0 rfl) ?_
        refine th_getO (j := 15) (r2 := 55) hC cf_X12 hB.1 h0 ro_46 rfl rfl kf_X12_54 dX12_lays_38 (fun b14 mb14 hb14 => ?_)
        have sb14 := (th_F_o hB.2.2 h0 ro_46 (j := 15) (by decide) (by decide)).symm.trans mb14
        refine lv_iload_n hx hb dX12_lays_41 rfl (lv_at hl 2 rfl) ?_
        refine th_ialdF hC hB.1 hb14 ro_55 rfl (Eq.refl _) (by omega) (by omega) rfl dX12_lays_42 (fun x15 mx15 lx15 ux15 => ?_)
        replace hF := hF.trans (congrArg (dv_k f_X12_lays_15b) (dv_bn (dv_aldI hB.1 hU hb14 ow_55 (z := j15_2.toInt) mx15 (by omega))))
        have vgx15 : mo_v G H0 a0 15 j15_2.toInt = x15.toInt := by rw [← (mo_v_F (r := 55) hB.1 hB.2.2 h0 rfl ro_55 (by decide) (by decide) : mo_v G H15 a0 15 = _)]; rw [show (j15_2.toInt : Int) = j15_2.toInt by omega]; exact mo_vat mb14 mx15 (by omega)
        have hIo := hB.1
        refine th_iastF hC hB hb1 (Or.inl hb1) ro_48 rfl (by decide) (Eq.refl _) (by omega) (by omega) (by rw [(ek_c (by omega) (by omega))]; exact th_sIa) dX12_lays_43 (fun H43 locs hB hf43 hst43 => ?_)
        have hf := hf43
        have mm16 := (th_F_o hf h0 ro_46 (j := 2) (by decide) (by decide)).trans mm7
        have mm17 := (th_F_o hf h0 ro_46 (j := 18) (by decide) (by decide)).trans mm8
        have mm18 := (th_F_o hf h0 ro_46 (j := 15) (by decide) (by decide)).trans mb14
        have hR := th_RC_F hB.1 hR hf (th_T_s hb1 ro_48 hst43) (by decide)
        have fv_H43_18 : mo_f G H43 a0 18 = mo_f G H15 a0 18 := mo_f_F hf h0 (by decide) (by decide)
        have vv_H43_15 : mo_v G H43 a0 15 = mo_v G H15 a0 15 := mo_v_F (r := 55) hB.1 hf h0 rfl ro_55 (by decide) (by decide)
        replace hF := hF.trans (congrArg (dv_k f_X12_lays_15b) (dv_bn (dv_stoI hIo hB.1 hU hb1 ow_48 (i := x13.toInt) hst43 (Eq.refl _) (by omega))))
        have vs43 : mo_v G H43 a0 2 = mo_u (mo_v G H15 a0 2) ((80 + (400 * p1.toInt)) + j15_2.toInt) x15.toInt := by rw [show (((80 + (400 * p1.toInt)) + j15_2.toInt) : Int) = x13.toInt by omega]; exact mo_v_st h0 hb1 (by decide) mm7 hst43 (by omega)
        refine lv_aload_n hx hb dX12_lays_44 rfl (lv_at hl 0 rfl) ?_
        refine th_getK hC cf_X12 hB.1 h0 ro_46 rfl (j := 2) (by decide) mm16 kf_X12_28 dX12_lays_45 ?_
        refine lv_sipush (v := 2880) hx hb dX12_lays_48 (by decide) ?_
        refine lv_sipush (v := 400) hx hb dX12_lays_51 (by decide) ?_
        refine lv_iload_n hx hb dX12_lays_54 rfl (lv_at hl 1 rfl) ?_
        refine tr_imul hx hb dX12_lays_55 tk_400 (Eq.refl _) (by omega) (by omega) (fun x19 ex19 => ?_)
        replace hF := hF.trans (congrArg (dv_k f_X12_lays_15b) (dv_bn (ex19.symm)))
        refine tr_iadd hx hb dX12_lays_56 tk_2880 (Eq.refl _) (by omega) (by omega) (fun x20 ex20 => ?_)
        replace hF := hF.trans (congrArg (dv_k f_X12_lays_15b) (dv_bn (ex20.symm)))
        refine lv_iload_n hx hb dX12_lays_57 rfl (lv_at hl 2 rfl) ?_
        refine tr_iadd hx hb dX12_lays_58 (Eq.refl _) (Eq.refl _) (by omega) (by omega) (fun x21 ex21 => ?_)
        replace hF := hF.trans (congrArg (dv_k f_X12_lays_15b) (dv_bn (ex21.symm)))
        refine lv_aload_n hx hb dX12_lays_59 rfl (lv_at hl 0 rfl) ?_
        refine th_getO (j := 16) (r2 := 56) hC cf_X12 hB.1 h0 ro_46 rfl rfl kf_X12_57 dX12_lays_60 (fun b22 mb22 hb22 => ?_)
        have sb22 := (th_F_o hB.2.2 h0 ro_46 (j := 16) (by decide) (by decide)).symm.trans mb22
        refine lv_iload_n hx hb dX12_lays_63 rfl (lv_at hl 2 rfl) ?_
        refine th_ialdF hC hB.1 hb22 ro_56 rfl (Eq.refl _) (by omega) (by omega) rfl dX12_lays_64 (fun x23 mx23 lx23 ux23 => ?_)
        replace hF := hF.trans (congrArg (dv_k f_X12_lays_15b) (dv_bn (dv_aldI hB.1 hU hb22 ow_56 (z := j15_2.toInt) mx23 (by omega))))
        have hIo := hB.1
        refine th_iastF hC hB hb1 (Or.inl hb1) ro_48 rfl (by decide) (Eq.refl _) (by omega) (by omega) (by rw [(ek_c (by omega) (by omega))]; exact th_sIa) dX12_lays_65 (fun H65 locs hB hf65 hst65 => ?_)
        have hf := hf65
        have mm24 := (th_F_o hf h0 ro_46 (j := 2) (by decide) (by decide)).trans mm16
        have mm25 := (th_F_o hf h0 ro_46 (j := 18) (by decide) (by decide)).trans mm17
        have mm26 := (th_F_o hf h0 ro_46 (j := 15) (by decide) (by decide)).trans mm18
        have mm27 := (th_F_o hf h0 ro_46 (j := 16) (by decide) (by decide)).trans mb22
        have hR := th_RC_F hB.1 hR hf (th_T_s hb1 ro_48 hst65) (by decide)
        have fv_H65_18 : mo_f G H65 a0 18 = mo_f G H43 a0 18 := mo_f_F hf h0 (by decide) (by decide)
        have vv_H65_15 : mo_v G H65 a0 15 = mo_v G H43 a0 15 := mo_v_F (r := 55) hB.1 hf h0 rfl ro_55 (by decide) (by decide)
        replace hF := hF.trans (congrArg (dv_k f_X12_lays_15b) (dv_bn (dv_stoI hIo hB.1 hU hb1 ow_48 (i := x21.toInt) hst65 (Eq.refl _) (by omega))))
        have vs65 : mo_v G H65 a0 2 = mo_u (mo_v G H43 a0 2) ((2880 + (400 * p1.toInt)) + j15_2.toInt) x23.toInt := by rw [show (((2880 + (400 * p1.toInt)) + j15_2.toInt) : Int) = x21.toInt by omega]; exact mo_v_st h0 hb1 (by decide) mm16 hst65 (by omega)
        refine tr_iinc (fun x28 => [(2, .int x28), (0, .ref a0), (1, .int p1)]) hx hb dX12_lays_66 hl (k := 2) rfl (Eq.refl _) tk_1 (by omega) (by omega) (by decide) (fun _ => rfl) (fun x28 ls ex28 hl => ?_)
        replace hF := hF.trans (congrArg (dv_k f_X12_lays_15b) (dv_bn (ex28.symm)))
        refine lv_goto (tgt := 15) hx hb dX12_lays_69 (by decide) ?_
        replace hF := hF.trans (dv_kl)
        exact ih15 H65 locs ls x28 hB hR (lv_sub hl [1, 2, 0] rfl) hF (by omega) (by omega) (fun z z1 => by rw [vs65, mo_un (by omega), vs43]; by_cases q9 : z = ((80 + (400 * p1.toInt)) + j15_2.toInt); rw [mo_us q9]; unfold mo_ly; rw [if_neg (by omega), if_pos (by omega), ← vgx15]; congr 1; omega; rw [mo_un q9, g15_2 z z1]; unfold mo_ly; (repeat' split) <;> first | rfl | omega) (by omega) (by omega)
  exact lp15 ((2147483648 : Int) - (0)).toNat H12 locs ls 0 hB hR (lv_sub hl [1, 2, 0] rfl) (by rw [tk_0]; exact hF) (by decide) (by decide) (fun z z1 => by have w0 := tk_0; rw [vs12]; unfold mo_ly mo_u; (repeat' split) <;> first | rfl | omega) (by have w0 := tk_0; omega) (by have w0 := tk_0; omega)

set_option maxHeartbeats 4000000 in
set_option maxRecDepth 100000 in
theorem c_X12_law (l : Launch) (G : th_G) (Γ : th_Ga) (H0 : Heap) (hI : th_I G Γ H0) (hU : dv_U Γ) (a0 : Nat) (h0 : Γ a0 = (46, 0)) (hR : th_RN a0 G Γ H0) : Met l yX12_law (.code yX12_law cX12_law 1 (some FieldType.int) :: th_tb) ({ frames := 75, cells := 0, slots := 0, locals := 2247 } : Room) (th_P [.ref a0] G H0) (th_Q (fun (v : Option Value) (H1 : Heap) => ∃ r : Int32, v = some (.int r) ∧ th_I G Γ H1 ∧ th_F G Γ [(47, 0), (46, 0), (48, 0), (46, 19), (46, 20), (46, 21), (46, 18), (57, 0), (56, 0), (55, 0), (46, 13), (46, 14), (46, 8), (46, 9), (46, 10)] H0 H1 ∧ th_RN a0 G Γ H1 ∧ (f_X12_law (dv G Γ H0) (a0 : Int) = (dv G Γ H1, r.toInt))) G) 0 0 (fun q => G.2.2 ≤ q) := by
  refine th_met RX12 (by decide) rfl (Nat.le_of_ble_eq_true rfl) ?_
  intro p e s m below meth c hC hH hr hlocks hnm ls hl
  have hx := hC.1
  have hb := hC.2.1
  have hB : th_B G Γ Γ [(47, 0), (46, 0), (48, 0), (46, 19), (46, 20), (46, 21), (46, 18), (57, 0), (56, 0), (55, 0), (46, 13), (46, 14), (46, 8), (46, 9), (46, 10)] H0 H0 [] := ⟨hI, va_S.rf, th_F_rf⟩
  have hl : lv_has ls 1 [(0, .ref a0)] := hl
  obtain ⟨F, hF0⟩ : ∃ F, F = f_X12_law (dv G Γ H0) ((a0 : Int)) := ⟨_, rfl⟩
  have hF := hF0.trans (f_X12_law.eq_1 (dv G Γ H0) ((a0 : Int)))
  refine lv_aload_n hx hb dX12_law_0 rfl (lv_at hl 0 rfl) ?_
  refine th_getO (j := 2) (r2 := 48) hC cf_X12 hB.1 h0 ro_46 rfl rfl kf_X12_28 dX12_law_1 (fun b1 mb1 hb1 => ?_)
  refine lv_bipush (v := 71) hx hb dX12_law_4 (by decide) ?_
  refine th_ialdF hC hB.1 hb1 ro_48 rfl tk_71 (by omega) (by omega) (ek_told (by omega) (by omega)) dX12_law_6 (fun x2 mx2 lx2 ux2 => ?_)
  replace hF := hF.trans (dv_bn (dv_aldI hB.1 hU hb1 ow_48 (z := 71) mx2 (by omega)))
  have vgx2 : mo_v G H0 a0 2 71 = x2.toInt := by rw [show (71 : Int) = 71 by omega]; exact mo_vat mb1 mx2 (by omega)
  refine lv_bipush (v := 6) hx hb dX12_law_7 (by decide) ?_
  refine tr_icmp_ne (tgt := 24) hx hb dX12_law_9 (by decide) (Eq.refl _) tk_6 (fun c9 => ?_) (fun c9 => ?_)
  · replace hF := hF.trans (if_pos c9)
    refine lv_aload_n hx hb dX12_law_24 rfl (lv_at hl 0 rfl) ?_
    refine lv_iconst (v := 0) hx hb dX12_law_25 (by decide) ?_
    refine th_call (th_runV (As := [.int 0]) (rest := []) hC mf_X12_readsAs km_X12_268 im_X12_readsAs se_X12_readsAs (c_X12_readsAs l G Γ H0 hB.1 hR.1 hU a0 h0 0 (by decide) (by decide)) rfl rfl ⟨Nat.le_of_ble_eq_true rfl, Nat.le_of_ble_eq_true rfl⟩ hB.1 h0 ro_46 rfl rfl hl.1 rfl (Nat.le_of_ble_eq_true rfl) dX12_law_26 ⟨Nat.le_refl _, Nat.le_refl _⟩) hB.2.1 (fun v26 H26 locs hp hz hS => ?_)
    have hRD := hR
    obtain ⟨x3, rfl, lx3, ux3, hI1, hf, hR, z26_0, z26_1⟩ := hp
    have hR := th_RN_c hR hRD hI1 h0 hf (by decide)
    have hB := th_B_c hB hI1 hS hf (by decide)
    have mm4 := (th_F_o hf h0 ro_46 (j := 2) (by decide) (by decide)).trans mb1
    have fv_H26_33 : mo_f G H26 a0 33 = mo_f G H0 a0 33 := mo_f_F hf h0 (by decide) (by decide)
    have vv_H26_2 : mo_v G H26 a0 2 = mo_v G H0 a0 2 := mo_v_F (r := 48) hB.1 hf h0 rfl ro_48 (by decide) (by decide)
    have vv_H26_3 : mo_v G H26 a0 3 = mo_v G H0 a0 3 := mo_v_F (r := 49) hB.1 hf h0 rfl ro_49 (by decide) (by decide)
    have vv_H26_4 : mo_v G H26 a0 4 = mo_v G H0 a0 4 := mo_v_F (r := 50) hB.1 hf h0 rfl ro_50 (by decide) (by decide)
    have vv_H26_31 : mo_v G H26 a0 31 = mo_v G H0 a0 31 := mo_v_F (r := 61) hB.1 hf h0 rfl ro_61 (by decide) (by decide)
    have zf26 := z26_1
    rw [tk_0] at zf26
    replace hF := hF.trans (dv_bn2 (zf26))
    refine W.eq (g2 := F0 m 29 ls [.int x3]) rfl ?_
    have hB26 := hB
    refine tr_if_ne (tgt := 39) hx hb dX12_law_29 (by decide) (Eq.refl _) (fun c29 => ?_) (fun c29 => ?_)
    · replace hF := hF.trans (if_pos c29)
      refine lv_aload_n hx hb dX12_law_39 rfl (lv_at hl 0 rfl) ?_
      refine lv_aload_n hx hb dX12_law_40 rfl (lv_at hl 0 rfl) ?_
      refine th_getK hC cf_X12 hB.1 h0 ro_46 rfl (j := 2) (by decide) mm4 kf_X12_28 dX12_law_41 ?_
      refine lv_bipush (v := 71) hx hb dX12_law_44 (by decide) ?_
      refine th_ialdF hC hB.1 hb1 ro_48 rfl tk_71 (by omega) (by omega) (ek_told (by omega) (by omega)) dX12_law_46 (fun x5 mx5 lx5 ux5 => ?_)
      replace hF := hF.trans (dv_bn (dv_aldI hB.1 hU hb1 ow_48 (z := 71) mx5 (by omega)))
      have vgx5 : mo_v G H26 a0 2 71 = x5.toInt := by rw [show (71 : Int) = 71 by omega]; exact mo_vat mm4 mx5 (by omega)
      have e46 : mo_v G H26 a0 2 71 = mo_v G H0 a0 2 71 := by rw [vv_H26_2]
      refine th_call (th_runV (As := [.int x5]) (rest := []) hC mf_X12_lays km_X12_272 im_X12_lays se_X12_lays (c_X12_lays l G Γ H26 hB.1 hR.1 hU a0 h0 x5 (by omega) (by omega)) rfl rfl ⟨Nat.le_of_ble_eq_true rfl, Nat.le_of_ble_eq_true rfl⟩ hB.1 h0 ro_46 rfl rfl hl.1 rfl (Nat.le_of_ble_eq_true rfl) dX12_law_47 ⟨Nat.le_refl _, Nat.le_refl _⟩) hB.2.1 (fun v47 H47 locs hp hz hS => ?_)
      have hRD := hR
      obtain ⟨rfl, hI1, hf, hR, z47_0, z47_1⟩ := hp
      have hRc47 := hR
      have hR := hRD
      have hRC := hRc47
      have hB := th_B_c hB hI1 hS hf (by decide)
      have mm6 := (th_F_o hf h0 ro_46 (j := 2) (by decide) (by decide)).trans mm4
      have fv_H47_33 : mo_f G H47 a0 33 = mo_f G H26 a0 33 := mo_f_F hf h0 (by decide) (by decide)
      have vv_H47_3 : mo_v G H47 a0 3 = mo_v G H26 a0 3 := mo_v_F (r := 49) hB.1 hf h0 rfl ro_49 (by decide) (by decide)
      have vv_H47_4 : mo_v G H47 a0 4 = mo_v G H26 a0 4 := mo_v_F (r := 50) hB.1 hf h0 rfl ro_50 (by decide) (by decide)
      have vv_H47_31 : mo_v G H47 a0 31 = mo_v G H26 a0 31 := mo_v_F (r := 61) hB.1 hf h0 rfl ro_61 (by decide) (by decide)
      replace hF := hF.trans (dv_bn2 (z47_1))
      refine W.eq (g2 := F0 m 50 ls []) rfl ?_
      refine lv_aload_n hx hb dX12_law_50 rfl (lv_at hl 0 rfl) ?_
      refine th_getK hC cf_X12 hB.1 h0 ro_46 rfl (j := 2) (by decide) mm6 kf_X12_28 dX12_law_51 ?_
      refine lv_bipush (v := 71) hx hb dX12_law_54 (by decide) ?_
      refine lv_dup2_11 hx hb dX12_law_56 rfl rfl ?_
      refine th_ialdF hC hB.1 hb1 ro_48 rfl tk_71 (by omega) (by omega) (ek_told (by omega) (by omega)) dX12_law_57 (fun x7 mx7 lx7 ux7 => ?_)
      replace hF := hF.trans (dv_bn (dv_aldI hB.1 hU hb1 ow_48 (z := 71) mx7 (by omega)))
      have vgx7 : mo_v G H47 a0 2 71 = x7.toInt := by rw [show (71 : Int) = 71 by omega]; exact mo_vat mm6 mx7 (by omega)
      have e57 : x7.toInt = x5.toInt := by have q9 := vgx7; rw [z47_0 71 (by omega)] at q9; unfold mo_ly at q9; rw [if_neg (by omega), if_neg (by omega)] at q9; omega
      refine lv_iconst (v := 1) hx hb dX12_law_58 (by decide) ?_
      refine tr_iadd hx hb dX12_law_59 (Eq.refl _) tk_1 (by omega) (by omega) (fun x8 ex8 => ?_)
      replace hF := hF.trans (dv_bn (ex8.symm))
      have hIo := hB.1
      refine th_iastF hC hB hb1 (Or.inl hb1) ro_48 rfl (by decide) tk_71 (by omega) (by omega) (by rw [(ek_told (by omega) (by omega))]; exact (th_sI (by omega) (by omega))) dX12_law_60 (fun H60 locs hB hf60 hst60 => ?_)
      have hf := hf60
      have mm9 := (th_F_o hf h0 ro_46 (j := 2) (by decide) (by decide)).trans mm6
      have hRC := th_RC_F hB.1 hRC hf (th_T_s hb1 ro_48 hst60) (by decide)
      have fv_H60_33 : mo_f G H60 a0 33 = mo_f G H47 a0 33 := mo_f_F hf h0 (by decide) (by decide)
      have vv_H60_3 : mo_v G H60 a0 3 = mo_v G H47 a0 3 := mo_v_F (r := 49) hB.1 hf h0 rfl ro_49 (by decide) (by decide)
      have vv_H60_4 : mo_v G H60 a0 4 = mo_v G H47 a0 4 := mo_v_F (r := 50) hB.1 hf h0 rfl ro_50 (by decide) (by decide)
      have vv_H60_31 : mo_v G H60 a0 31 = mo_v G H47 a0 31 := mo_v_F (r := 61) hB.1 hf h0 rfl ro_61 (by decide) (by decide)
      replace hF := hF.trans (dv_bn (dv_stoI hIo hB.1 hU hb1 ow_48 (i := 71) hst60 (Eq.refl _) (by omega)))
      have vs60 : mo_v G H60 a0 2 = mo_u (mo_v G H47 a0 2) 71 x8.toInt := by rw [show (71 : Int) = 71 by omega]; exact mo_v_st h0 hb1 (by decide) mm6 hst60 (by omega)
      have hR : th_RN a0 G Γ H60 := ⟨hRC, by rw [vv_H60_3, vv_H47_3, vv_H60_4, vv_H47_4, vv_H60_31, vv_H47_31, fv_H60_33, fv_H47_33]; exact mo_ok_law hR.2 vgx5 (by omega) (by omega) (mo_f_rg hB26.1 h0 (j := 18) rfl).2 (z26_0 (by omega)) (fun z z0 z1 => by rw [vs60]; by_cases q9 : z = 71; rw [mo_us q9, if_pos q9]; omega; rw [mo_un q9, if_neg q9]; exact z47_0 z z1)⟩
      refine lv_aload_n hx hb dX12_law_61 rfl (lv_at hl 0 rfl) ?_
      refine lv_aload_n hx hb dX12_law_62 rfl (lv_at hl 0 rfl) ?_
      refine th_getK hC cf_X12 hB.1 h0 ro_46 rfl (j := 2) (by decide) mm9 kf_X12_28 dX12_law_63 ?_
      refine lv_bipush (v := 71) hx hb dX12_law_66 (by decide) ?_
      refine th_ialdF hC hB.1 hb1 ro_48 rfl tk_71 (by omega) (by omega) (ek_told (by omega) (by omega)) dX12_law_68 (fun x10 mx10 lx10 ux10 => ?_)
      replace hF := hF.trans (dv_bn (dv_aldI hB.1 hU hb1 ow_48 (z := 71) mx10 (by omega)))
      have vgx10 : mo_v G H60 a0 2 71 = x10.toInt := by rw [show (71 : Int) = 71 by omega]; exact mo_vat mm9 mx10 (by omega)
      refine lv_iconst (v := 1) hx hb dX12_law_69 (by decide) ?_
      refine tr_isub hx hb dX12_law_70 (Eq.refl _) tk_1 (by omega) (by omega) (fun x11 ex11 => ?_)
      replace hF := hF.trans (dv_bn (ex11.symm))
      refine th_call (th_runV (As := [.int x11]) (rest := []) hC mf_X12_good km_X12_14 im_X12_good se_X12_good (c_X12_good l G Γ H60 hB.1 hR.1 hU a0 h0 x11) rfl rfl ⟨Nat.le_of_ble_eq_true rfl, Nat.le_of_ble_eq_true rfl⟩ hB.1 h0 ro_46 rfl rfl hl.1 rfl (Nat.le_of_ble_eq_true rfl) dX12_law_71 ⟨Nat.le_refl _, Nat.le_refl _⟩) hB.2.1 (fun v71 H71 locs hp hz hS => ?_)
      have hRD := hR
      obtain ⟨x12, rfl, q71_0, hI1, hf, hR, z71_0⟩ := hp
      have hR := th_RN_c hR hRD hI1 h0 hf (by decide)
      have hB := th_B_c hB hI1 hS hf (by decide)
      have mm13 := (th_F_o hf h0 ro_46 (j := 2) (by decide) (by decide)).trans mm9
      have fv_H71_33 : mo_f G H71 a0 33 = mo_f G H60 a0 33 := mo_f_F hf h0 (by decide) (by decide)
      have vv_H71_2 : mo_v G H71 a0 2 = mo_v G H60 a0 2 := mo_v_F (r := 48) hB.1 hf h0 rfl ro_48 (by decide) (by decide)
      have vv_H71_3 : mo_v G H71 a0 3 = mo_v G H60 a0 3 := mo_v_F (r := 49) hB.1 hf h0 rfl ro_49 (by decide) (by decide)
      have vv_H71_4 : mo_v G H71 a0 4 = mo_v G H60 a0 4 := mo_v_F (r := 50) hB.1 hf h0 rfl ro_50 (by decide) (by decide)
      have vv_H71_31 : mo_v G H71 a0 31 = mo_v G H60 a0 31 := mo_v_F (r := 61) hB.1 hf h0 rfl ro_61 (by decide) (by decide)
      replace hF := hF.trans (dv_bn2 (z71_0))
      refine W.eq (g2 := F0 m 74 ls [.int x12]) rfl ?_
      exact th_iret hC hH hr hlocks rfl hB.2.1 ⟨_, rfl, hB.1, hB.2.2, hR, (hF0.symm.trans hF)⟩ dX12_law_74
    · replace hF := hF.trans (if_neg (not_not_intro c29))
      refine lv_aload_n hx hb dX12_law_32 rfl (lv_at hl 0 rfl) ?_
      refine lv_bipush (v := (-6)) hx hb dX12_law_33 (by decide) ?_
      refine th_call (th_runV (As := [.int (-6)]) (rest := []) hC mf_X12_refuses km_X12_109 im_X12_refuses se_X12_refuses (c_X12_refuses l G Γ H26 hB.1 hR.1 hU a0 h0 (-6) (by decide) (by decide)) rfl rfl ⟨Nat.le_of_ble_eq_true rfl, Nat.le_of_ble_eq_true rfl⟩ hB.1 h0 ro_46 rfl rfl hl.1 rfl (Nat.le_of_ble_eq_true rfl) dX12_law_35 ⟨Nat.le_refl _, Nat.le_refl _⟩) hB.2.1 (fun v35 H35 locs hp hz hS => ?_)
      have hRD := hR
      obtain ⟨x14, rfl, q35_0, hI1, hf, hR, z35_0⟩ := hp
      have hR := th_RN_c hR hRD hI1 h0 hf (by decide)
      have hB := th_B_c hB hI1 hS hf (by decide)
      have mm15 := (th_F_o hf h0 ro_46 (j := 2) (by decide) (by decide)).trans mm4
      have fv_H35_33 : mo_f G H35 a0 33 = mo_f G H26 a0 33 := mo_f_F hf h0 (by decide) (by decide)
      have vv_H35_2 : mo_v G H35 a0 2 = mo_v G H26 a0 2 := mo_v_F (r := 48) hB.1 hf h0 rfl ro_48 (by decide) (by decide)
      have vv_H35_3 : mo_v G H35 a0 3 = mo_v G H26 a0 3 := mo_v_F (r := 49) hB.1 hf h0 rfl ro_49 (by decide) (by decide)
      have vv_H35_4 : mo_v G H35 a0 4 = mo_v G H26 a0 4 := mo_v_F (r := 50) hB.1 hf h0 rfl ro_50 (by decide) (by decide)
      have vv_H35_31 : mo_v G H35 a0 31 = mo_v G H26 a0 31 := mo_v_F (r := 61) hB.1 hf h0 rfl ro_61 (by decide) (by decide)
      have w35_0 := tk_m6
      have zf35 := z35_0
      rw [tk_m6] at zf35
      replace hF := hF.trans (dv_bn2 (zf35))
      refine W.eq (g2 := F0 m 38 ls [.int x14]) rfl ?_
      exact th_iret hC hH hr hlocks rfl hB.2.1 ⟨_, rfl, hB.1, hB.2.2, hR, (hF0.symm.trans hF)⟩ dX12_law_38
  · replace hF := hF.trans (if_neg (not_not_intro c9))
    refine lv_aload_n hx hb dX12_law_12 rfl (lv_at hl 0 rfl) ?_
    refine lv_iconst (v := 0) hx hb dX12_law_13 (by decide) ?_
    refine th_put hC cf_X12 hB h0 (Or.inl h0) ro_46 rfl (j := 13) rfl (th_sI (by decide) (by decide)) (by decide) rfl rfl rfl kf_X12_169 dX12_law_14 (fun H14 locs hB hf hst14 => ?_)
    have mm16 := (th_F_o hf h0 ro_46 (j := 2) (by decide) (by decide)).trans mb1
    have hR := th_RN_F hB.1 hR h0 hf (th_T_s h0 ro_46 hst14) (by decide)
    have fv_H14_33 : mo_f G H14 a0 33 = mo_f G H0 a0 33 := mo_f_F hf h0 (by decide) (by decide)
    have vv_H14_2 : mo_v G H14 a0 2 = mo_v G H0 a0 2 := mo_v_F (r := 48) hB.1 hf h0 rfl ro_48 (by decide) (by decide)
    have vv_H14_3 : mo_v G H14 a0 3 = mo_v G H0 a0 3 := mo_v_F (r := 49) hB.1 hf h0 rfl ro_49 (by decide) (by decide)
    have vv_H14_4 : mo_v G H14 a0 4 = mo_v G H0 a0 4 := mo_v_F (r := 50) hB.1 hf h0 rfl ro_50 (by decide) (by decide)
    have vv_H14_31 : mo_v G H14 a0 31 = mo_v G H0 a0 31 := mo_v_F (r := 61) hB.1 hf h0 rfl ro_61 (by decide) (by decide)
    replace hF := hF.trans (dv_bn (dv_putI hB.1 h0 ro_46 (j := 13) rfl (th_apart hC cf_X12) hst14 tk_0 (by decide)))
    refine lv_aload_n hx hb dX12_law_17 rfl (lv_at hl 0 rfl) ?_
    refine lv_bipush (v := (-5)) hx hb dX12_law_18 (by decide) ?_
    refine th_call (th_runV (As := [.int (-5)]) (rest := []) hC mf_X12_refuses km_X12_109 im_X12_refuses se_X12_refuses (c_X12_refuses l G Γ H14 hB.1 hR.1 hU a0 h0 (-5) (by decide) (by decide)) rfl rfl ⟨Nat.le_of_ble_eq_true rfl, Nat.le_of_ble_eq_true rfl⟩ hB.1 h0 ro_46 rfl rfl hl.1 rfl (Nat.le_of_ble_eq_true rfl) dX12_law_20 ⟨Nat.le_refl _, Nat.le_refl _⟩) hB.2.1 (fun v20 H20 locs hp hz hS => ?_)
    have hRD := hR
    obtain ⟨x17, rfl, q20_0, hI1, hf, hR, z20_0⟩ := hp
    have hR := th_RN_c hR hRD hI1 h0 hf (by decide)
    have hB := th_B_c hB hI1 hS hf (by decide)
    have mm18 := (th_F_o hf h0 ro_46 (j := 2) (by decide) (by decide)).trans mm16
    have fv_H20_33 : mo_f G H20 a0 33 = mo_f G H14 a0 33 := mo_f_F hf h0 (by decide) (by decide)
    have vv_H20_2 : mo_v G H20 a0 2 = mo_v G H14 a0 2 := mo_v_F (r := 48) hB.1 hf h0 rfl ro_48 (by decide) (by decide)
    have vv_H20_3 : mo_v G H20 a0 3 = mo_v G H14 a0 3 := mo_v_F (r := 49) hB.1 hf h0 rfl ro_49 (by decide) (by decide)
    have vv_H20_4 : mo_v G H20 a0 4 = mo_v G H14 a0 4 := mo_v_F (r := 50) hB.1 hf h0 rfl ro_50 (by decide) (by decide)
    have vv_H20_31 : mo_v G H20 a0 31 = mo_v G H14 a0 31 := mo_v_F (r := 61) hB.1 hf h0 rfl ro_61 (by decide) (by decide)
    have w20_0 := tk_m5
    have zf20 := z20_0
    rw [tk_m5] at zf20
    replace hF := hF.trans (dv_bn2 (zf20))
    refine W.eq (g2 := F0 m 23 ls [.int x17]) rfl ?_
    exact th_iret hC hH hr hlocks rfl hB.2.1 ⟨_, rfl, hB.1, hB.2.2, hR, (hF0.symm.trans hF)⟩ dX12_law_23

set_option maxHeartbeats 4000000 in
set_option maxRecDepth 100000 in
theorem c_X12_years (l : Launch) (G : th_G) (Γ : th_Ga) (H0 : Heap) (hI : th_I G Γ H0) (hU : dv_U Γ) (a0 : Nat) (h0 : Γ a0 = (46, 0)) (hR : th_RN a0 G Γ H0) (p1 : Int32) (p2 : Int32) : Met l yX12_years (.code yX12_years cX12_years 8 (some FieldType.int) :: th_tb) ({ frames := 53, cells := 0, slots := 0, locals := 1674 } : Room) (th_P [.ref a0, .int p1, .int p2] G H0) (th_Q (fun (v : Option Value) (H1 : Heap) => ∃ r : Int32, v = some (.int r) ∧ th_I G Γ H1 ∧ th_F G Γ [(47, 0), (46, 0), (48, 0), (51, 0), (70, 0), (60, 0), (59, 0), (46, 55), (46, 56), (46, 22), (46, 24), (58, 0), (46, 23), (46, 25)] H0 H1 ∧ th_RN a0 G Γ H1 ∧ (f_X12_years (dv G Γ H0) (a0 : Int) p1.toInt p2.toInt = (dv G Γ H1, r.toInt))) G) 0 0 (fun q => G.2.2 ≤ q) := by
  refine th_met RX12 (by decide) rfl (Nat.le_of_ble_eq_true rfl) ?_
  intro p e s m below meth c hC hH hr hlocks hnm ls hl
  have hx := hC.1
  have hb := hC.2.1
  have hB : th_B G Γ Γ [(47, 0), (46, 0), (48, 0), (51, 0), (70, 0), (60, 0), (59, 0), (46, 55), (46, 56), (46, 22), (46, 24), (58, 0), (46, 23), (46, 25)] H0 H0 [] := ⟨hI, va_S.rf, th_F_rf⟩
  have hl : lv_has ls 8 [(0, .ref a0), (1, .int p1), (2, .int p2)] := hl
  have lp1 := ti_lo p1; have up1 := ti_hi p1
  have lp2 := ti_lo p2; have up2 := ti_hi p2
  obtain ⟨F, hF0⟩ : ∃ F, F = f_X12_years (dv G Γ H0) ((a0 : Int)) (p1.toInt) (p2.toInt) := ⟨_, rfl⟩
  have hF := hF0.trans (f_X12_years.eq_1 (dv G Γ H0) ((a0 : Int)) (p1.toInt) (p2.toInt))
  refine lv_iload_n hx hb dX12_years_0 rfl (lv_at hl 1 rfl) ?_
  have hRs := hR
  refine lv_iconst (v := 0) hx hb dX12_years_1 (by decide) ?_
  refine lv_ldc (v := 1000000) hx hb hC.2.2.2.1 (hC.2.2.2.2.1 _ kw_1623) dX12_years_2 ?_
  refine th_call (th_runS (As := [.int p1, .int 0, .int 1000000]) (rest := []) hC mf_X12_lies km_X12_18 st_X12_lies (c_X12_lies l G Γ H0 hB.1 hU p1 0 1000000) rfl rfl ⟨Nat.le_of_ble_eq_true rfl, Nat.le_of_ble_eq_true rfl⟩ rfl hl.1 rfl (Nat.le_of_ble_eq_true rfl) dX12_years_4 ⟨Nat.le_refl _, Nat.le_refl _⟩) hB.2.1 (fun v4 H4 locs hp hz hS => ?_)
  obtain ⟨x1, rfl, lx1, ux1, q4_0, q4_1, q4_2, rfl⟩ := hp
  have hB := th_B_s hB hS
  have w4_1 := tk_0
  have w4_2 := tk_1000000
  have zf4 := q4_2
  rw [tk_0, tk_1000000] at zf4
  replace hF := hF.trans (dv_bn2 (zf4))
  refine W.eq (g2 := F0 m 7 ls [.int x1]) rfl ?_
  have jn20 : ∀ (locs : List Loc) (ls : Array Slot) , th_B G Γ Γ [(47, 0), (46, 0), (48, 0), (51, 0), (70, 0), (60, 0), (59, 0), (46, 55), (46, 56), (46, 22), (46, 24), (58, 0), (46, 23), (46, 25)] H0 H0 locs → lv_has ls 8 [(0, .ref a0)] → F = f_X12_years_20 (dv G Γ H0) ((a0 : Int)) → W p l e ({ frames := 53, cells := 0, slots := 0, locals := 1674 } : Room) s m ([.ref a0, .int p1, .int p2] : List Value).toArray below meth c H0 locs 0 0 (MQ below (th_Q (fun (v : Option Value) (H1 : Heap) => ∃ r : Int32, v = some (.int r) ∧ th_I G Γ H1 ∧ th_F G Γ [(47, 0), (46, 0), (48, 0), (51, 0), (70, 0), (60, 0), (59, 0), (46, 55), (46, 56), (46, 22), (46, 24), (58, 0), (46, 23), (46, 25)] H0 H1 ∧ th_RN a0 G Γ H1 ∧ (f_X12_years (dv G Γ H0) (a0 : Int) p1.toInt p2.toInt = (dv G Γ H1, r.toInt))) G) ([.ref a0, .int p1, .int p2] : List Value).toArray s 0 0 (fun q => G.2.2 ≤ q)) (F0 m 20 ls []) := by
    intro locs ls hB hl hF
    replace hF := hF.trans (f_X12_years_20.eq_1 (dv G Γ H0) ((a0 : Int)))
    refine lv_aload_n hx hb dX12_years_20 rfl (lv_at hl 0 rfl) ?_
    refine lv_iconst (v := (-1)) hx hb dX12_years_21 (by decide) ?_
    refine th_call (th_runV (As := [.int (-1)]) (rest := []) hC mf_X12_refuses km_X12_109 im_X12_refuses se_X12_refuses (c_X12_refuses l G Γ H0 hB.1 hR.1 hU a0 h0 (-1) (by decide) (by decide)) rfl rfl ⟨Nat.le_of_ble_eq_true rfl, Nat.le_of_ble_eq_true rfl⟩ hB.1 h0 ro_46 rfl rfl hl.1 rfl (Nat.le_of_ble_eq_true rfl) dX12_years_22 ⟨Nat.le_refl _, Nat.le_refl _⟩) hB.2.1 (fun v22 H22 locs hp hz hS => ?_)
    have hRD := hR
    obtain ⟨x2, rfl, q22_0, hI1, hf, hR, z22_0⟩ := hp
    have hR := th_RN_c hR hRD hI1 h0 hf (by decide)
    have hB := th_B_c hB hI1 hS hf (by decide)
    have fv_H22_33 : mo_f G H22 a0 33 = mo_f G H0 a0 33 := mo_f_F hf h0 (by decide) (by decide)
    have vv_H22_2 : mo_v G H22 a0 2 = mo_v G H0 a0 2 := mo_v_F (r := 48) hB.1 hf h0 rfl ro_48 (by decide) (by decide)
    have vv_H22_3 : mo_v G H22 a0 3 = mo_v G H0 a0 3 := mo_v_F (r := 49) hB.1 hf h0 rfl ro_49 (by decide) (by decide)
    have vv_H22_4 : mo_v G H22 a0 4 = mo_v G H0 a0 4 := mo_v_F (r := 50) hB.1 hf h0 rfl ro_50 (by decide) (by decide)
    have vv_H22_31 : mo_v G H22 a0 31 = mo_v G H0 a0 31 := mo_v_F (r := 61) hB.1 hf h0 rfl ro_61 (by decide) (by decide)
    have vv_H22_5 : mo_v G H22 a0 5 = mo_v G H0 a0 5 := mo_v_F (r := 51) hB.1 hf h0 rfl ro_51 (by decide) (by decide)
    have w22_0 := tk_m1
    have zf22 := z22_0
    rw [tk_m1] at zf22
    replace hF := hF.trans (dv_bn2 (zf22))
    refine W.eq (g2 := F0 m 25 ls [.int x2]) rfl ?_
    exact th_iret hC hH hr hlocks rfl hB.2.1 ⟨_, rfl, hB.1, hB.2.2, hR, (hF0.symm.trans hF)⟩ dX12_years_25
  refine tr_if_eq (tgt := 20) hx hb dX12_years_7 (by decide) (Eq.refl _) (fun c7 => ?_) (fun c7 => ?_)
  · replace hF := hF.trans (if_pos c7)
    exact jn20 locs ls hB (lv_sub hl [0] rfl) hF
  · replace hF := hF.trans (if_neg c7)
    refine lv_iload_n hx hb dX12_years_10 rfl (lv_at hl 2 rfl) ?_
    refine lv_iconst (v := 1) hx hb dX12_years_11 (by decide) ?_
    refine lv_bipush (v := 60) hx hb dX12_years_12 (by decide) ?_
    refine th_call (th_runS (As := [.int p2, .int 1, .int 60]) (rest := []) hC mf_X12_lies km_X12_18 st_X12_lies (c_X12_lies l G Γ H0 hB.1 hU p2 1 60) rfl rfl ⟨Nat.le_of_ble_eq_true rfl, Nat.le_of_ble_eq_true rfl⟩ rfl hl.1 rfl (Nat.le_of_ble_eq_true rfl) dX12_years_14 ⟨Nat.le_refl _, Nat.le_refl _⟩) hB.2.1 (fun v14 H14 locs hp hz hS => ?_)
    obtain ⟨x3, rfl, lx3, ux3, q14_0, q14_1, q14_2, rfl⟩ := hp
    have hB := th_B_s hB hS
    have w14_1 := tk_1
    have w14_2 := tk_60
    have zf14 := q14_2
    rw [tk_1, tk_60] at zf14
    replace hF := hF.trans (dv_bn2 (zf14))
    refine W.eq (g2 := F0 m 17 ls [.int x3]) rfl ?_
    refine tr_if_ne (tgt := 26) hx hb dX12_years_17 (by decide) (Eq.refl _) (fun c17 => ?_) (fun c17 => ?_)
    · replace hF := hF.trans (if_pos c17)
      refine lv_aload_n hx hb dX12_years_26 rfl (lv_at hl 0 rfl) ?_
      refine th_call (th_runV (As := []) (rest := []) hC mf_X12_many km_X12_115 im_X12_many se_X12_many (c_X12_many l G Γ H0 hB.1 hU a0 h0) rfl rfl ⟨Nat.le_of_ble_eq_true rfl, Nat.le_of_ble_eq_true rfl⟩ hB.1 h0 ro_46 rfl rfl hl.1 rfl (Nat.le_of_ble_eq_true rfl) dX12_years_27 ⟨Nat.le_refl _, Nat.le_refl _⟩) hB.2.1 (fun v27 H27 locs hp hz hS => ?_)
      obtain ⟨x4, rfl, lx4, ux4, q27_0, q27_1, rfl⟩ := hp
      have hB := th_B_s hB hS
      replace hF := hF.trans (dv_bn2 (q27_1))
      refine W.eq (g2 := F0 m 30 ls [.int x4]) rfl ?_
      refine tr_if_ne (tgt := 40) hx hb dX12_years_30 (by decide) (Eq.refl _) (fun c30 => ?_) (fun c30 => ?_)
      · replace hF := hF.trans (if_pos c30)
        refine lv_aload_n hx hb dX12_years_40 rfl (lv_at hl 0 rfl) ?_
        refine lv_iload_n hx hb dX12_years_41 rfl (lv_at hl 1 rfl) ?_
        refine th_put hC cf_X12 hB h0 (Or.inl h0) ro_46 rfl (j := 56) rfl (th_sI (by omega) (by omega)) (by decide) rfl rfl rfl kf_X12_516 dX12_years_42 (fun H42 locs hB hf hst42 => ?_)
        have hR := th_RN_F hB.1 hR h0 hf (th_T_s h0 ro_46 hst42) (by decide)
        have fv_H42_33 : mo_f G H42 a0 33 = mo_f G H0 a0 33 := mo_f_F hf h0 (by decide) (by decide)
        have vv_H42_2 : mo_v G H42 a0 2 = mo_v G H0 a0 2 := mo_v_F (r := 48) hB.1 hf h0 rfl ro_48 (by decide) (by decide)
        have vv_H42_3 : mo_v G H42 a0 3 = mo_v G H0 a0 3 := mo_v_F (r := 49) hB.1 hf h0 rfl ro_49 (by decide) (by decide)
        have vv_H42_4 : mo_v G H42 a0 4 = mo_v G H0 a0 4 := mo_v_F (r := 50) hB.1 hf h0 rfl ro_50 (by decide) (by decide)
        have vv_H42_31 : mo_v G H42 a0 31 = mo_v G H0 a0 31 := mo_v_F (r := 61) hB.1 hf h0 rfl ro_61 (by decide) (by decide)
        have vv_H42_5 : mo_v G H42 a0 5 = mo_v G H0 a0 5 := mo_v_F (r := 51) hB.1 hf h0 rfl ro_51 (by decide) (by decide)
        replace hF := hF.trans (dv_bn (dv_putI hB.1 h0 ro_46 (j := 56) rfl (th_apart hC cf_X12) hst42 (Eq.refl _) (by decide)))
        refine lv_aload_n hx hb dX12_years_45 rfl (lv_at hl 0 rfl) ?_
        refine lv_aload_n hx hb dX12_years_46 rfl (lv_at hl 0 rfl) ?_
        refine th_call (th_runV (As := []) (rest := [.ref a0]) hC mf_X12_many km_X12_115 im_X12_many se_X12_many (c_X12_many l G Γ H42 hB.1 hU a0 h0) rfl rfl ⟨Nat.le_of_ble_eq_true rfl, Nat.le_of_ble_eq_true rfl⟩ hB.1 h0 ro_46 rfl rfl hl.1 rfl (Nat.le_of_ble_eq_true rfl) dX12_years_47 ⟨Nat.le_refl _, Nat.le_refl _⟩) hB.2.1 (fun v47 H47 locs hp hz hS => ?_)
        obtain ⟨x5, rfl, lx5, ux5, q47_0, q47_1, rfl⟩ := hp
        have hB := th_B_s hB hS
        replace hF := hF.trans (dv_bn2 (q47_1))
        refine W.eq (g2 := F0 m 50 ls [.int x5, .ref a0]) rfl ?_
        refine th_put hC cf_X12 hB h0 (Or.inl h0) ro_46 rfl (j := 55) rfl (th_sI (by omega) (by omega)) (by decide) rfl rfl rfl kf_X12_106 dX12_years_50 (fun H50 locs hB hf hst50 => ?_)
        have hR := th_RN_F hB.1 hR h0 hf (th_T_s h0 ro_46 hst50) (by decide)
        have fv_H50_33 : mo_f G H50 a0 33 = mo_f G H42 a0 33 := mo_f_F hf h0 (by decide) (by decide)
        have vv_H50_2 : mo_v G H50 a0 2 = mo_v G H42 a0 2 := mo_v_F (r := 48) hB.1 hf h0 rfl ro_48 (by decide) (by decide)
        have vv_H50_3 : mo_v G H50 a0 3 = mo_v G H42 a0 3 := mo_v_F (r := 49) hB.1 hf h0 rfl ro_49 (by decide) (by decide)
        have vv_H50_4 : mo_v G H50 a0 4 = mo_v G H42 a0 4 := mo_v_F (r := 50) hB.1 hf h0 rfl ro_50 (by decide) (by decide)
        have vv_H50_31 : mo_v G H50 a0 31 = mo_v G H42 a0 31 := mo_v_F (r := 61) hB.1 hf h0 rfl ro_61 (by decide) (by decide)
        have vv_H50_5 : mo_v G H50 a0 5 = mo_v G H42 a0 5 := mo_v_F (r := 51) hB.1 hf h0 rfl ro_51 (by decide) (by decide)
        replace hF := hF.trans (dv_bn (dv_putI hB.1 h0 ro_46 (j := 55) rfl (th_apart hC cf_X12) hst50 (Eq.refl _) (by decide)))
        refine lv_aload_n hx hb dX12_years_53 rfl (lv_at hl 0 rfl) ?_
        refine lv_iconst (v := 0) hx hb dX12_years_54 (by decide) ?_
        refine th_call (th_runV (As := [.int 0]) (rest := []) hC mf_X12_laysAside km_X12_477 im_X12_laysAside se_X12_laysAside (c_X12_laysAside l G Γ H50 hB.1 hR.1 hU a0 h0 0 (by decide) (by decide)) rfl rfl ⟨Nat.le_of_ble_eq_true rfl, Nat.le_of_ble_eq_true rfl⟩ hB.1 h0 ro_46 rfl rfl hl.1 rfl (Nat.le_of_ble_eq_true rfl) dX12_years_55 ⟨Nat.le_refl _, Nat.le_refl _⟩) hB.2.1 (fun v55 H55 locs hp hz hS => ?_)
        have hRD := hR
        obtain ⟨rfl, hI1, hf, hR, z55_0, z55_1⟩ := hp
        have hR := th_RN_c hR hRD hI1 h0 hf (by decide)
        have hB := th_B_c hB hI1 hS hf (by decide)
        have fv_H55_33 : mo_f G H55 a0 33 = mo_f G H50 a0 33 := mo_f_F hf h0 (by decide) (by decide)
        have vv_H55_2 : mo_v G H55 a0 2 = mo_v G H50 a0 2 := mo_v_F (r := 48) hB.1 hf h0 rfl ro_48 (by decide) (by decide)
        have vv_H55_3 : mo_v G H55 a0 3 = mo_v G H50 a0 3 := mo_v_F (r := 49) hB.1 hf h0 rfl ro_49 (by decide) (by decide)
        have vv_H55_4 : mo_v G H55 a0 4 = mo_v G H50 a0 4 := mo_v_F (r := 50) hB.1 hf h0 rfl ro_50 (by decide) (by decide)
        have vv_H55_31 : mo_v G H55 a0 31 = mo_v G H50 a0 31 := mo_v_F (r := 61) hB.1 hf h0 rfl ro_61 (by decide) (by decide)
        have zf55 := z55_1
        rw [tk_0] at zf55
        replace hF := hF.trans (dv_bn2 (zf55))
        refine W.eq (g2 := F0 m 58 ls []) rfl ?_
        refine lv_iconst (v := 0) hx hb dX12_years_58 (by decide) ?_
        refine lv_istore_n (lv' := [(3, .int 0), (0, .ref a0), (1, .int p1), (2, .int p2)]) hx hb dX12_years_59 rfl hl (by decide) rfl (fun ls hl => ?_)
        have lp60 : ∀ (n60 : Nat) (H60 : Heap) (locs : List Loc) (ls : Array Slot) (j60_3 : Int32), th_B G Γ Γ [(47, 0), (46, 0), (48, 0), (51, 0), (70, 0), (60, 0), (59, 0), (46, 55), (46, 56), (46, 22), (46, 24), (58, 0), (46, 23), (46, 25)] H0 H60 locs → th_RN a0 G Γ H60 → lv_has ls 8 [(0, .ref a0), (2, .int p2), (3, .int j60_3)] → F = dv_lp f_X12_years_60b (dv G Γ H60, (a0 : Int), p2.toInt, j60_3.toInt) → 0 ≤ j60_3.toInt → j60_3.toInt ≤ 60 → (∀ z : Int, 29 ≤ z → mo_v G H60 a0 2 z = mo_v G H0 a0 2 z) → (∀ i : Int, 0 ≤ i → i < 29 → mo_v G H60 a0 5 i = mo_v G H0 a0 2 i) → (2147483648 : Int) - j60_3.toInt ≤ (n60 : Int) → W p l e ({ frames := 53, cells := 0, slots := 0, locals := 1674 } : Room) s m ([.ref a0, .int p1, .int p2] : List Value).toArray below meth c H60 locs 0 0 (MQ below (th_Q (fun (v : Option Value) (H1 : Heap) => ∃ r : Int32, v = some (.int r) ∧ th_I G Γ H1 ∧ th_F G Γ [(47, 0), (46, 0), (48, 0), (51, 0), (70, 0), (60, 0), (59, 0), (46, 55), (46, 56), (46, 22), (46, 24), (58, 0), (46, 23), (46, 25)] H0 H1 ∧ th_RN a0 G Γ H1 ∧ (f_X12_years (dv G Γ H0) (a0 : Int) p1.toInt p2.toInt = (dv G Γ H1, r.toInt))) G) ([.ref a0, .int p1, .int p2] : List Value).toArray s 0 0 (fun q => G.2.2 ≤ q)) (F0 m 60 ls []) := by
          intro n60
          induction n60 with
          | zero => intro H60 locs ls j60_3 hB hR hl hF g60_0 g60_1 g60_2 g60_3 hm60; exact absurd hm60 (by have := ti_hi j60_3; omega)
          | succ n60 ih60 =>
            intro H60 locs ls j60_3 hB hR hl hF g60_0 g60_1 g60_2 g60_3 hm60
            have lj60_3 := ti_lo j60_3; have uj60_3 := ti_hi j60_3
            have fv6_33 : mo_f G H60 a0 33 = mo_f G H0 a0 33 := mo_f_F hB.2.2 h0 (by decide) (by decide)
            have vw_H60_3 : mo_v G H60 a0 3 = mo_v G H0 a0 3 := mo_v_F (r := 49) hB.1 hB.2.2 h0 rfl ro_49 (by decide) (by decide)
            have vw_H60_4 : mo_v G H60 a0 4 = mo_v G H0 a0 4 := mo_v_F (r := 50) hB.1 hB.2.2 h0 rfl ro_50 (by decide) (by decide)
            have vw_H60_31 : mo_v G H60 a0 31 = mo_v G H0 a0 31 := mo_v_F (r := 61) hB.1 hB.2.2 h0 rfl ro_61 (by decide) (by decide)
            have hm60 : (2147483648 : Int) - j60_3.toInt ≤ (n60 : Int) + 1 := by omega
            replace hF := hF.trans (dv_lp_eq)
            replace hF := hF.trans (congrArg (dv_k f_X12_years_60b) (f_X12_years_60c.eq_1 (dv G Γ H60) ((a0 : Int)) (p2.toInt) (j60_3.toInt)))
            refine lv_iload_n hx hb dX12_years_60 rfl (lv_at hl 2 rfl) ?_
            refine lv_iload_n hx hb dX12_years_61 rfl (lv_at hl 1 rfl) ?_
            have jn174 : ∀ (locs : List Loc) (ls : Array Slot) , th_B G Γ Γ [(47, 0), (46, 0), (48, 0), (51, 0), (70, 0), (60, 0), (59, 0), (46, 55), (46, 56), (46, 22), (46, 24), (58, 0), (46, 23), (46, 25)] H0 H60 locs → lv_has ls 8 [(0, .ref a0)] → F = dv_k f_X12_years_60b (f_X12_years_174 (dv G Γ H60) ((a0 : Int))) → W p l e ({ frames := 53, cells := 0, slots := 0, locals := 1674 } : Room) s m ([.ref a0, .int p1, .int p2] : List Value).toArray below meth c H60 locs 0 0 (MQ below (th_Q (fun (v : Option Value) (H1 : Heap) => ∃ r : Int32, v = some (.int r) ∧ th_I G Γ H1 ∧ th_F G Γ [(47, 0), (46, 0), (48, 0), (51, 0), (70, 0), (60, 0), (59, 0), (46, 55), (46, 56), (46, 22), (46, 24), (58, 0), (46, 23), (46, 25)] H0 H1 ∧ th_RN a0 G Γ H1 ∧ (f_X12_years (dv G Γ H0) (a0 : Int) p1.toInt p2.toInt = (dv G Γ H1, r.toInt))) G) ([.ref a0, .int p1, .int p2] : List Value).toArray s 0 0 (fun q => G.2.2 ≤ q)) (F0 m 174 ls []) := by
              intro locs ls hB hl hF
              replace hF := hF.trans (congrArg (dv_k f_X12_years_60b) (f_X12_years_174.eq_1 (dv G Γ H60) ((a0 : Int))))
              refine lv_aload_n hx hb dX12_years_174 rfl (lv_at hl 0 rfl) ?_
              refine th_call (th_runV (As := []) (rest := []) hC mf_X12_bareMany km_X12_323 im_X12_bareMany se_X12_bareMany (c_X12_bareMany l G Γ H60 hB.1 hU a0 h0) rfl rfl ⟨Nat.le_of_ble_eq_true rfl, Nat.le_of_ble_eq_true rfl⟩ hB.1 h0 ro_46 rfl rfl hl.1 rfl (Nat.le_of_ble_eq_true rfl) dX12_years_175 ⟨Nat.le_refl _, Nat.le_refl _⟩) hB.2.1 (fun v175 H175 locs hp hz hS => ?_)
              obtain ⟨x7, rfl, lx7, ux7, q175_0, q175_1, rfl⟩ := hp
              have hB := th_B_s hB hS
              replace hF := hF.trans (congrArg (dv_k f_X12_years_60b) (dv_bn2 (q175_1)))
              refine W.eq (g2 := F0 m 178 ls [.int x7]) rfl ?_
              refine lv_istore_n (lv' := [(3, .int x7), (0, .ref a0)]) hx hb dX12_years_178 rfl hl (by decide) rfl (fun ls hl => ?_)
              refine lv_iconst (v := 0) hx hb dX12_years_179 (by decide) ?_
              refine lv_istore (lv' := [(4, .int 0), (3, .int x7), (0, .ref a0)]) hx hb dX12_years_180 hl (by decide) rfl (fun ls hl => ?_)
              have lp182 : ∀ (n182 : Nat) (H182 : Heap) (locs : List Loc) (ls : Array Slot) (j182_4 : Int32), th_B G Γ Γ [(47, 0), (46, 0), (48, 0), (51, 0), (70, 0), (60, 0), (59, 0), (46, 55), (46, 56), (46, 22), (46, 24), (58, 0), (46, 23), (46, 25)] H0 H182 locs → th_RN a0 G Γ H182 → lv_has ls 8 [(3, .int x7), (0, .ref a0), (4, .int j182_4)] → F = dv_k f_X12_years_60b (dv_lp f_X12_years_182b (dv G Γ H182, x7.toInt, (a0 : Int), j182_4.toInt)) → 0 ≤ j182_4.toInt → j182_4.toInt ≤ 29 → (∀ z : Int, 29 ≤ z → mo_v G H182 a0 2 z = mo_v G H0 a0 2 z) → (∀ i : Int, 0 ≤ i → i < 29 → mo_v G H182 a0 5 i = mo_v G H0 a0 2 i) → (2147483648 : Int) - j182_4.toInt ≤ (n182 : Int) → W p l e ({ frames := 53, cells := 0, slots := 0, locals := 1674 } : Room) s m ([.ref a0, .int p1, .int p2] : List Value).toArray below meth c H182 locs 0 0 (MQ below (th_Q (fun (v : Option Value) (H1 : Heap) => ∃ r : Int32, v = some (.int r) ∧ th_I G Γ H1 ∧ th_F G Γ [(47, 0), (46, 0), (48, 0), (51, 0), (70, 0), (60, 0), (59, 0), (46, 55), (46, 56), (46, 22), (46, 24), (58, 0), (46, 23), (46, 25)] H0 H1 ∧ th_RN a0 G Γ H1 ∧ (f_X12_years (dv G Γ H0) (a0 : Int) p1.toInt p2.toInt = (dv G Γ H1, r.toInt))) G) ([.ref a0, .int p1, .int p2] : List Value).toArray s 0 0 (fun q => G.2.2 ≤ q)) (F0 m 182 ls []) := by
                intro n182
                induction n182 with
                | zero => intro H182 locs ls j182_4 hB hR hl hF g182_0 g182_1 g182_2 g182_3 hm182; exact absurd hm182 (by have := ti_hi j182_4; omega)
                | succ n182 ih182 =>
                  intro H182 locs ls j182_4 hB hR hl hF g182_0 g182_1 g182_2 g182_3 hm182
                  have lj182_4 := ti_lo j182_4; have uj182_4 := ti_hi j182_4
                  have fv8_33 : mo_f G H182 a0 33 = mo_f G H0 a0 33 := mo_f_F hB.2.2 h0 (by decide) (by decide)
                  have vw_H182_3 : mo_v G H182 a0 3 = mo_v G H0 a0 3 := mo_v_F (r := 49) hB.1 hB.2.2 h0 rfl ro_49 (by decide) (by decide)
                  have vw_H182_4 : mo_v G H182 a0 4 = mo_v G H0 a0 4 := mo_v_F (r := 50) hB.1 hB.2.2 h0 rfl ro_50 (by decide) (by decide)
                  have vw_H182_31 : mo_v G H182 a0 31 = mo_v G H0 a0 31 := mo_v_F (r := 61) hB.1 hB.2.2 h0 rfl ro_61 (by decide) (by decide)
                  have hm182 : (2147483648 : Int) - j182_4.toInt ≤ (n182 : Int) + 1 := by omega
                  replace hF := hF.trans (congrArg (dv_k f_X12_years_60b) (dv_lp_eq))
                  replace hF := hF.trans (congrArg (dv_k f_X12_years_60b) (congrArg (dv_k f_X12_years_182b) (f_X12_years_182c.eq_1 (dv G Γ H182) (x7.toInt) ((a0 : Int)) (j182_4.toInt))))
                  refine lv_iload hx hb dX12_years_182 (lv_at hl 2 rfl) ?_
                  refine lv_bipush (v := 29) hx hb dX12_years_184 (by decide) ?_
                  refine tr_icmp_ge (tgt := 209) hx hb dX12_years_186 (by decide) (Eq.refl _) tk_29 (fun c186 => ?_) (fun c186 => ?_)
                  · replace hF := hF.trans (congrArg (dv_k f_X12_years_60b) (congrArg (dv_k f_X12_years_182b) (if_pos c186)))
                    refine lv_aload_n hx hb dX12_years_209 rfl (lv_at hl 1 rfl) ?_
                    refine lv_iconst (v := 0) hx hb dX12_years_210 (by decide) ?_
                    refine th_call (th_runV (As := [.int 0]) (rest := []) hC mf_X12_takesBack km_X12_486 im_X12_takesBack se_X12_takesBack (c_X12_takesBack l G Γ H182 hB.1 hU a0 h0 (th_NE hR) 0 (by decide) (by decide)) rfl rfl ⟨Nat.le_of_ble_eq_true rfl, Nat.le_of_ble_eq_true rfl⟩ hB.1 h0 ro_46 rfl rfl hl.1 rfl (Nat.le_of_ble_eq_true rfl) dX12_years_211 ⟨Nat.le_refl _, Nat.le_refl _⟩) hB.2.1 (fun v211 H211 locs hp hz hS => ?_)
                    have hRD := hR
                    obtain ⟨rfl, hI1, hf, hR, z211_0, z211_1⟩ := hp
                    have hRc211 := hR
                    have hR := hRD
                    have hRC := hRc211.1
                    have hB := th_B_c hB hI1 hS hf (by decide)
                    have fv_H211_33 : mo_f G H211 a0 33 = mo_f G H182 a0 33 := mo_f_F hf h0 (by decide) (by decide)
                    have vv_H211_3 : mo_v G H211 a0 3 = mo_v G H182 a0 3 := mo_v_F (r := 49) hB.1 hf h0 rfl ro_49 (by decide) (by decide)
                    have vv_H211_4 : mo_v G H211 a0 4 = mo_v G H182 a0 4 := mo_v_F (r := 50) hB.1 hf h0 rfl ro_50 (by decide) (by decide)
                    have vv_H211_31 : mo_v G H211 a0 31 = mo_v G H182 a0 31 := mo_v_F (r := 61) hB.1 hf h0 rfl ro_61 (by decide) (by decide)
                    have vv_H211_5 : mo_v G H211 a0 5 = mo_v G H182 a0 5 := mo_v_F (r := 51) hB.1 hf h0 rfl ro_51 (by decide) (by decide)
                    have zf211 := z211_1
                    rw [tk_0] at zf211
                    replace hF := hF.trans (congrArg (dv_k f_X12_years_60b) (congrArg (dv_k f_X12_years_182b) (dv_bn2 (zf211))))
                    refine W.eq (g2 := F0 m 214 ls []) rfl ?_
                    have hR : th_RN a0 G Γ H211 := ⟨hRc211.1, by rw [mo_v_F (j := 3) (r := 49) hB.1 hB.2.2 h0 rfl ro_49 (by decide) (by decide), mo_v_F (j := 4) (r := 50) hB.1 hB.2.2 h0 rfl ro_50 (by decide) (by decide), mo_v_F (j := 31) (r := 61) hB.1 hB.2.2 h0 rfl ro_61 (by decide) (by decide), mo_f_F hB.2.2 h0 (j := 33) (by decide) (by decide)]; exact mo_ok_29 hRs.2 (fun i hi => by rw [z211_0 i, if_neg (by omega)]; exact g182_2 i hi) (mo_geo_ext (fun i a9 b9 => by rw [z211_0 i]; by_cases q9 : 0 ≤ i ∧ i < 29; rw [if_pos q9, show 29 * (0 : Int32).toInt + i = i by (have w0 := tk_0; omega)]; exact g182_3 i a9 (by omega); rw [if_neg q9]; exact g182_2 i (by omega)) hRs.2.1.2.1)⟩
                    refine lv_aload_n hx hb dX12_years_214 rfl (lv_at hl 1 rfl) ?_
                    refine lv_iload_n hx hb dX12_years_215 rfl (lv_at hl 0 rfl) ?_
                    refine th_call (th_runV (As := [.int x7]) (rest := []) hC mf_X12_good km_X12_14 im_X12_good se_X12_good (c_X12_good l G Γ H211 hB.1 hR.1 hU a0 h0 x7) rfl rfl ⟨Nat.le_of_ble_eq_true rfl, Nat.le_of_ble_eq_true rfl⟩ hB.1 h0 ro_46 rfl rfl hl.1 rfl (Nat.le_of_ble_eq_true rfl) dX12_years_216 ⟨Nat.le_refl _, Nat.le_refl _⟩) hB.2.1 (fun v216 H216 locs hp hz hS => ?_)
                    have hRD := hR
                    obtain ⟨x9, rfl, q216_0, hI1, hf, hR, z216_0⟩ := hp
                    have hR := th_RN_c hR hRD hI1 h0 hf (by decide)
                    have hB := th_B_c hB hI1 hS hf (by decide)
                    have fv_H216_33 : mo_f G H216 a0 33 = mo_f G H211 a0 33 := mo_f_F hf h0 (by decide) (by decide)
                    have vv_H216_2 : mo_v G H216 a0 2 = mo_v G H211 a0 2 := mo_v_F (r := 48) hB.1 hf h0 rfl ro_48 (by decide) (by decide)
                    have vv_H216_3 : mo_v G H216 a0 3 = mo_v G H211 a0 3 := mo_v_F (r := 49) hB.1 hf h0 rfl ro_49 (by decide) (by decide)
                    have vv_H216_4 : mo_v G H216 a0 4 = mo_v G H211 a0 4 := mo_v_F (r := 50) hB.1 hf h0 rfl ro_50 (by decide) (by decide)
                    have vv_H216_31 : mo_v G H216 a0 31 = mo_v G H211 a0 31 := mo_v_F (r := 61) hB.1 hf h0 rfl ro_61 (by decide) (by decide)
                    have vv_H216_5 : mo_v G H216 a0 5 = mo_v G H211 a0 5 := mo_v_F (r := 51) hB.1 hf h0 rfl ro_51 (by decide) (by decide)
                    replace hF := hF.trans (congrArg (dv_k f_X12_years_60b) (congrArg (dv_k f_X12_years_182b) (dv_bn2 (z216_0))))
                    refine W.eq (g2 := F0 m 219 ls [.int x9]) rfl ?_
                    replace hF := hF.trans (congrArg (dv_k f_X12_years_60b) (dv_kr))
                    replace hF := hF.trans (dv_kr)
                    exact th_iret hC hH hr hlocks rfl hB.2.1 ⟨_, rfl, hB.1, hB.2.2, hR, (hF0.symm.trans hF)⟩ dX12_years_219
                  · replace hF := hF.trans (congrArg (dv_k f_X12_years_60b) (congrArg (dv_k f_X12_years_182b) (if_neg (Int.not_le.mpr c186))))
                    refine lv_aload_n hx hb dX12_years_189 rfl (lv_at hl 1 rfl) ?_
                    refine th_getO (j := 54) (r2 := 70) hC cf_X12 hB.1 h0 ro_46 rfl rfl kf_X12_103 dX12_years_190 (fun b10 mb10 hb10 => ?_)
                    have sb10 := (th_F_o hB.2.2 h0 ro_46 (j := 54) (by decide) (by decide)).symm.trans mb10
                    refine lv_iload hx hb dX12_years_193 (lv_at hl 2 rfl) ?_
                    refine lv_aload_n hx hb dX12_years_195 rfl (lv_at hl 1 rfl) ?_
                    refine th_getO (j := 2) (r2 := 48) hC cf_X12 hB.1 h0 ro_46 rfl rfl kf_X12_28 dX12_years_196 (fun b11 mb11 hb11 => ?_)
                    have sb11 := (th_F_o hB.2.2 h0 ro_46 (j := 2) (by decide) (by decide)).symm.trans mb11
                    refine lv_iload hx hb dX12_years_199 (lv_at hl 2 rfl) ?_
                    refine th_ialdF hC hB.1 hb11 ro_48 rfl (Eq.refl _) (by omega) (by omega) (ek_a (by omega) (by omega)) dX12_years_201 (fun x12 mx12 lx12 ux12 => ?_)
                    replace hF := hF.trans (congrArg (dv_k f_X12_years_60b) (congrArg (dv_k f_X12_years_182b) (dv_bn (dv_aldI hB.1 hU hb11 ow_48 (z := j182_4.toInt) mx12 (by omega)))))
                    have vgx12 : mo_v G H182 a0 2 j182_4.toInt = x12.toInt := by rw [show (j182_4.toInt : Int) = j182_4.toInt by omega]; exact mo_vat mb11 mx12 (by omega)
                    have hIo := hB.1
                    refine th_iastF hC hB hb10 (Or.inl hb10) ro_70 rfl (by decide) (Eq.refl _) (by omega) (by omega) th_sIa dX12_years_202 (fun H202 locs hB hf202 hst202 => ?_)
                    have hf := hf202
                    have mm13 := (th_F_o hf h0 ro_46 (j := 54) (by decide) (by decide)).trans mb10
                    have mm14 := (th_F_o hf h0 ro_46 (j := 2) (by decide) (by decide)).trans mb11
                    have hR := th_RN_F hB.1 hR h0 hf (th_T_s hb10 ro_70 hst202) (by decide)
                    have fv_H202_33 : mo_f G H202 a0 33 = mo_f G H182 a0 33 := mo_f_F hf h0 (by decide) (by decide)
                    have vv_H202_2 : mo_v G H202 a0 2 = mo_v G H182 a0 2 := mo_v_F (r := 48) hB.1 hf h0 rfl ro_48 (by decide) (by decide)
                    have vv_H202_3 : mo_v G H202 a0 3 = mo_v G H182 a0 3 := mo_v_F (r := 49) hB.1 hf h0 rfl ro_49 (by decide) (by decide)
                    have vv_H202_4 : mo_v G H202 a0 4 = mo_v G H182 a0 4 := mo_v_F (r := 50) hB.1 hf h0 rfl ro_50 (by decide) (by decide)
                    have vv_H202_31 : mo_v G H202 a0 31 = mo_v G H182 a0 31 := mo_v_F (r := 61) hB.1 hf h0 rfl ro_61 (by decide) (by decide)
                    have vv_H202_5 : mo_v G H202 a0 5 = mo_v G H182 a0 5 := mo_v_F (r := 51) hB.1 hf h0 rfl ro_51 (by decide) (by decide)
                    replace hF := hF.trans (congrArg (dv_k f_X12_years_60b) (congrArg (dv_k f_X12_years_182b) (dv_bn (dv_stoI hIo hB.1 hU hb10 ow_70 (i := j182_4.toInt) hst202 (Eq.refl _) (by omega)))))
                    refine tr_iinc (fun x15 => [(4, .int x15), (3, .int x7), (0, .ref a0)]) hx hb dX12_years_203 hl (k := 2) rfl (Eq.refl _) tk_1 (by omega) (by omega) (by decide) (fun _ => rfl) (fun x15 ls ex15 hl => ?_)
                    replace hF := hF.trans (congrArg (dv_k f_X12_years_60b) (congrArg (dv_k f_X12_years_182b) (dv_bn (ex15.symm))))
                    refine lv_goto (tgt := 182) hx hb dX12_years_206 (by decide) ?_
                    replace hF := hF.trans (congrArg (dv_k f_X12_years_60b) (dv_kl))
                    exact ih182 H202 locs ls x15 hB hR (lv_sub hl [1, 2, 0] rfl) hF (by omega) (by omega) (fun z a9 => by rw [vv_H202_2]; exact g182_2 z a9) (fun i a9 b9 => by rw [vv_H202_5]; exact g182_3 i a9 b9) (by omega)
              exact lp182 ((2147483648 : Int) - (0)).toNat H60 locs ls 0 hB hR (lv_sub hl [1, 2, 0] rfl) (by rw [tk_0]; exact hF) (by decide) (by decide) (fun z a9 => g60_2 z a9) g60_3 (by have w0 := tk_0; omega)
            refine tr_icmp_ge (tgt := 174) hx hb dX12_years_62 (by decide) (Eq.refl _) (Eq.refl _) (fun c62 => ?_) (fun c62 => ?_)
            · replace hF := hF.trans (congrArg (dv_k f_X12_years_60b) (if_pos c62))
              exact jn174 locs ls hB (lv_sub hl [0] rfl) hF
            · replace hF := hF.trans (congrArg (dv_k f_X12_years_60b) (if_neg (Int.not_le.mpr c62)))
              refine lv_aload_n hx hb dX12_years_65 rfl (lv_at hl 0 rfl) ?_
              refine th_getO (j := 2) (r2 := 48) hC cf_X12 hB.1 h0 ro_46 rfl rfl kf_X12_28 dX12_years_66 (fun b16 mb16 hb16 => ?_)
              have sb16 := (th_F_o hB.2.2 h0 ro_46 (j := 2) (by decide) (by decide)).symm.trans mb16
              refine lv_bipush (v := 28) hx hb dX12_years_69 (by decide) ?_
              refine th_ialdF hC hB.1 hb16 ro_48 rfl tk_28 (by omega) (by omega) (ek_a (by omega) (by omega)) dX12_years_71 (fun x17 mx17 lx17 ux17 => ?_)
              replace hF := hF.trans (congrArg (dv_k f_X12_years_60b) (dv_bn (dv_aldI hB.1 hU hb16 ow_48 (z := 28) mx17 (by omega))))
              have vgx17 : mo_v G H60 a0 2 28 = x17.toInt := by rw [show (28 : Int) = 28 by omega]; exact mo_vat mb16 mx17 (by omega)
              refine lv_sipush (v := 999) hx hb dX12_years_72 (by decide) ?_
              refine tr_icmp_ge (tgt := 174) hx hb dX12_years_75 (by decide) (Eq.refl _) tk_999 (fun c75 => ?_) (fun c75 => ?_)
              · replace hF := hF.trans (congrArg (dv_k f_X12_years_60b) (if_pos c75))
                exact jn174 locs ls hB (lv_sub hl [0] rfl) hF
              · replace hF := hF.trans (congrArg (dv_k f_X12_years_60b) (if_neg (Int.not_le.mpr c75)))
                refine lv_aload_n hx hb dX12_years_78 rfl (lv_at hl 0 rfl) ?_
                refine lv_aload_n hx hb dX12_years_79 rfl (lv_at hl 0 rfl) ?_
                refine th_call (th_runV (As := []) (rest := [.ref a0]) hC mf_X12_many km_X12_115 im_X12_many se_X12_many (c_X12_many l G Γ H60 hB.1 hU a0 h0) rfl rfl ⟨Nat.le_of_ble_eq_true rfl, Nat.le_of_ble_eq_true rfl⟩ hB.1 h0 ro_46 rfl rfl hl.1 rfl (Nat.le_of_ble_eq_true rfl) dX12_years_80 ⟨Nat.le_refl _, Nat.le_refl _⟩) hB.2.1 (fun v80 H80 locs hp hz hS => ?_)
                obtain ⟨x18, rfl, lx18, ux18, q80_0, q80_1, rfl⟩ := hp
                have hB := th_B_s hB hS
                replace hF := hF.trans (congrArg (dv_k f_X12_years_60b) (dv_bn2 (q80_1)))
                refine W.eq (g2 := F0 m 83 ls [.int x18, .ref a0]) rfl ?_
                have w80 : 1 ≤ x18.toInt := by rw [q80_0, g60_2 69 (by omega)]; omega
                refine th_call (th_runV (As := [.int x18]) (rest := []) hC mf_X12_draws km_X12_523 im_X12_draws se_X12_draws (c_X12_draws l G Γ H60 hB.1 hR.1 hU a0 h0 x18 (by omega) (by omega)) rfl rfl ⟨Nat.le_of_ble_eq_true rfl, Nat.le_of_ble_eq_true rfl⟩ hB.1 h0 ro_46 rfl rfl hl.1 rfl (Nat.le_of_ble_eq_true rfl) dX12_years_83 ⟨Nat.le_refl _, Nat.le_refl _⟩) hB.2.1 (fun v83 H83 locs hp hz hS => ?_)
                have hRD := hR
                obtain ⟨x19, rfl, lx19, ux19, q83_0, hI1, hf, hR, z83_0⟩ := hp
                have hR := th_RN_c hR hRD hI1 h0 hf (by decide)
                have hB := th_B_c hB hI1 hS hf (by decide)
                have mm20 := (th_F_o hf h0 ro_46 (j := 2) (by decide) (by decide)).trans mb16
                have fv_H83_33 : mo_f G H83 a0 33 = mo_f G H60 a0 33 := mo_f_F hf h0 (by decide) (by decide)
                have vv_H83_2 : mo_v G H83 a0 2 = mo_v G H60 a0 2 := mo_v_F (r := 48) hB.1 hf h0 rfl ro_48 (by decide) (by decide)
                have vv_H83_3 : mo_v G H83 a0 3 = mo_v G H60 a0 3 := mo_v_F (r := 49) hB.1 hf h0 rfl ro_49 (by decide) (by decide)
                have vv_H83_4 : mo_v G H83 a0 4 = mo_v G H60 a0 4 := mo_v_F (r := 50) hB.1 hf h0 rfl ro_50 (by decide) (by decide)
                have vv_H83_31 : mo_v G H83 a0 31 = mo_v G H60 a0 31 := mo_v_F (r := 61) hB.1 hf h0 rfl ro_61 (by decide) (by decide)
                have vv_H83_5 : mo_v G H83 a0 5 = mo_v G H60 a0 5 := mo_v_F (r := 51) hB.1 hf h0 rfl ro_51 (by decide) (by decide)
                replace hF := hF.trans (congrArg (dv_k f_X12_years_60b) (dv_bn2 (z83_0)))
                refine W.eq (g2 := F0 m 86 ls [.int x19]) rfl ?_
                have m83 : x19.toInt < mo_v G H60 a0 2 69 := by omega
                refine lv_istore (lv' := [(4, .int x19), (0, .ref a0), (2, .int p2), (3, .int j60_3)]) hx hb dX12_years_86 hl (by decide) rfl (fun ls hl => ?_)
                refine lv_aload_n hx hb dX12_years_88 rfl (lv_at hl 1 rfl) ?_
                refine lv_aload_n hx hb dX12_years_89 rfl (lv_at hl 1 rfl) ?_
                refine th_getK hC cf_X12 hB.1 h0 ro_46 rfl (j := 2) (by decide) mm20 kf_X12_28 dX12_years_90 ?_
                refine lv_bipush (v := 67) hx hb dX12_years_93 (by decide) ?_
                refine th_ialdF hC hB.1 hb16 ro_48 rfl tk_67 (by omega) (by omega) (ek_hall (by omega) (by omega)) dX12_years_95 (fun x21 mx21 lx21 ux21 => ?_)
                replace hF := hF.trans (congrArg (dv_k f_X12_years_60b) (dv_bn (dv_aldI hB.1 hU hb16 ow_48 (z := 67) mx21 (by omega))))
                have vgx21 : mo_v G H83 a0 2 67 = x21.toInt := by rw [show (67 : Int) = 67 by omega]; exact mo_vat mm20 mx21 (by omega)
                have w95 := hR.2.1.2.2.1
                refine th_call (th_runV (As := [.int x21]) (rest := []) hC mf_X12_draws km_X12_523 im_X12_draws se_X12_draws (c_X12_draws l G Γ H83 hB.1 hR.1 hU a0 h0 x21 (by omega) (by omega)) rfl rfl ⟨Nat.le_of_ble_eq_true rfl, Nat.le_of_ble_eq_true rfl⟩ hB.1 h0 ro_46 rfl rfl hl.1 rfl (Nat.le_of_ble_eq_true rfl) dX12_years_96 ⟨Nat.le_refl _, Nat.le_refl _⟩) hB.2.1 (fun v96 H96 locs hp hz hS => ?_)
                have hRD := hR
                obtain ⟨x22, rfl, lx22, ux22, q96_0, hI1, hf, hR, z96_0⟩ := hp
                have hR := th_RN_c hR hRD hI1 h0 hf (by decide)
                have hB := th_B_c hB hI1 hS hf (by decide)
                have mm23 := (th_F_o hf h0 ro_46 (j := 2) (by decide) (by decide)).trans mm20
                have fv_H96_33 : mo_f G H96 a0 33 = mo_f G H83 a0 33 := mo_f_F hf h0 (by decide) (by decide)
                have vv_H96_2 : mo_v G H96 a0 2 = mo_v G H83 a0 2 := mo_v_F (r := 48) hB.1 hf h0 rfl ro_48 (by decide) (by decide)
                have vv_H96_3 : mo_v G H96 a0 3 = mo_v G H83 a0 3 := mo_v_F (r := 49) hB.1 hf h0 rfl ro_49 (by decide) (by decide)
                have vv_H96_4 : mo_v G H96 a0 4 = mo_v G H83 a0 4 := mo_v_F (r := 50) hB.1 hf h0 rfl ro_50 (by decide) (by decide)
                have vv_H96_31 : mo_v G H96 a0 31 = mo_v G H83 a0 31 := mo_v_F (r := 61) hB.1 hf h0 rfl ro_61 (by decide) (by decide)
                have vv_H96_5 : mo_v G H96 a0 5 = mo_v G H83 a0 5 := mo_v_F (r := 51) hB.1 hf h0 rfl ro_51 (by decide) (by decide)
                replace hF := hF.trans (congrArg (dv_k f_X12_years_60b) (dv_bn2 (z96_0)))
                refine W.eq (g2 := F0 m 99 ls [.int x22]) rfl ?_
                refine lv_istore (lv' := [(5, .int x22), (4, .int x19), (0, .ref a0), (2, .int p2), (3, .int j60_3)]) hx hb dX12_years_99 hl (by decide) rfl (fun ls hl => ?_)
                refine lv_aload_n hx hb dX12_years_101 rfl (lv_at hl 2 rfl) ?_
                refine lv_aload_n hx hb dX12_years_102 rfl (lv_at hl 2 rfl) ?_
                refine th_getK hC cf_X12 hB.1 h0 ro_46 rfl (j := 2) (by decide) mm23 kf_X12_28 dX12_years_103 ?_
                refine lv_bipush (v := 68) hx hb dX12_years_106 (by decide) ?_
                refine th_ialdF hC hB.1 hb16 ro_48 rfl tk_68 (by omega) (by omega) (ek_hall (by omega) (by omega)) dX12_years_108 (fun x24 mx24 lx24 ux24 => ?_)
                replace hF := hF.trans (congrArg (dv_k f_X12_years_60b) (dv_bn (dv_aldI hB.1 hU hb16 ow_48 (z := 68) mx24 (by omega))))
                have vgx24 : mo_v G H96 a0 2 68 = x24.toInt := by rw [show (68 : Int) = 68 by omega]; exact mo_vat mm23 mx24 (by omega)
                have w108 := hR.2.1.2.2.2.1
                refine th_call (th_runV (As := [.int x24]) (rest := []) hC mf_X12_draws km_X12_523 im_X12_draws se_X12_draws (c_X12_draws l G Γ H96 hB.1 hR.1 hU a0 h0 x24 (by omega) (by omega)) rfl rfl ⟨Nat.le_of_ble_eq_true rfl, Nat.le_of_ble_eq_true rfl⟩ hB.1 h0 ro_46 rfl rfl hl.1 rfl (Nat.le_of_ble_eq_true rfl) dX12_years_109 ⟨Nat.le_refl _, Nat.le_refl _⟩) hB.2.1 (fun v109 H109 locs hp hz hS => ?_)
                have hRD := hR
                obtain ⟨x25, rfl, lx25, ux25, q109_0, hI1, hf, hR, z109_0⟩ := hp
                have hR := th_RN_c hR hRD hI1 h0 hf (by decide)
                have hB := th_B_c hB hI1 hS hf (by decide)
                have mm26 := (th_F_o hf h0 ro_46 (j := 2) (by decide) (by decide)).trans mm23
                have fv_H109_33 : mo_f G H109 a0 33 = mo_f G H96 a0 33 := mo_f_F hf h0 (by decide) (by decide)
                have vv_H109_2 : mo_v G H109 a0 2 = mo_v G H96 a0 2 := mo_v_F (r := 48) hB.1 hf h0 rfl ro_48 (by decide) (by decide)
                have vv_H109_3 : mo_v G H109 a0 3 = mo_v G H96 a0 3 := mo_v_F (r := 49) hB.1 hf h0 rfl ro_49 (by decide) (by decide)
                have vv_H109_4 : mo_v G H109 a0 4 = mo_v G H96 a0 4 := mo_v_F (r := 50) hB.1 hf h0 rfl ro_50 (by decide) (by decide)
                have vv_H109_31 : mo_v G H109 a0 31 = mo_v G H96 a0 31 := mo_v_F (r := 61) hB.1 hf h0 rfl ro_61 (by decide) (by decide)
                have vv_H109_5 : mo_v G H109 a0 5 = mo_v G H96 a0 5 := mo_v_F (r := 51) hB.1 hf h0 rfl ro_51 (by decide) (by decide)
                replace hF := hF.trans (congrArg (dv_k f_X12_years_60b) (dv_bn2 (z109_0)))
                refine W.eq (g2 := F0 m 112 ls [.int x25]) rfl ?_
                refine lv_istore (lv' := [(6, .int x25), (5, .int x22), (4, .int x19), (0, .ref a0), (2, .int p2), (3, .int j60_3)]) hx hb dX12_years_112 hl (by decide) rfl (fun ls hl => ?_)
                refine lv_aload_n hx hb dX12_years_114 rfl (lv_at hl 3 rfl) ?_
                refine lv_iconst (v := 3) hx hb dX12_years_115 (by decide) ?_
                refine th_call (th_runV (As := [.int 3]) (rest := []) hC mf_X12_draws km_X12_523 im_X12_draws se_X12_draws (c_X12_draws l G Γ H109 hB.1 hR.1 hU a0 h0 3 (by decide) (by decide)) rfl rfl ⟨Nat.le_of_ble_eq_true rfl, Nat.le_of_ble_eq_true rfl⟩ hB.1 h0 ro_46 rfl rfl hl.1 rfl (Nat.le_of_ble_eq_true rfl) dX12_years_116 ⟨Nat.le_refl _, Nat.le_refl _⟩) hB.2.1 (fun v116 H116 locs hp hz hS => ?_)
                have hRD := hR
                obtain ⟨x27, rfl, lx27, ux27, q116_0, hI1, hf, hR, z116_0⟩ := hp
                have hR := th_RN_c hR hRD hI1 h0 hf (by decide)
                have hB := th_B_c hB hI1 hS hf (by decide)
                have mm28 := (th_F_o hf h0 ro_46 (j := 2) (by decide) (by decide)).trans mm26
                have fv_H116_33 : mo_f G H116 a0 33 = mo_f G H109 a0 33 := mo_f_F hf h0 (by decide) (by decide)
                have vv_H116_2 : mo_v G H116 a0 2 = mo_v G H109 a0 2 := mo_v_F (r := 48) hB.1 hf h0 rfl ro_48 (by decide) (by decide)
                have vv_H116_3 : mo_v G H116 a0 3 = mo_v G H109 a0 3 := mo_v_F (r := 49) hB.1 hf h0 rfl ro_49 (by decide) (by decide)
                have vv_H116_4 : mo_v G H116 a0 4 = mo_v G H109 a0 4 := mo_v_F (r := 50) hB.1 hf h0 rfl ro_50 (by decide) (by decide)
                have vv_H116_31 : mo_v G H116 a0 31 = mo_v G H109 a0 31 := mo_v_F (r := 61) hB.1 hf h0 rfl ro_61 (by decide) (by decide)
                have vv_H116_5 : mo_v G H116 a0 5 = mo_v G H109 a0 5 := mo_v_F (r := 51) hB.1 hf h0 rfl ro_51 (by decide) (by decide)
                have w116_0 := tk_3
                have zf116 := z116_0
                rw [tk_3] at zf116
                replace hF := hF.trans (congrArg (dv_k f_X12_years_60b) (dv_bn2 (zf116)))
                refine W.eq (g2 := F0 m 119 ls [.int x27]) rfl ?_
                refine lv_istore (lv' := [(7, .int x27), (6, .int x25), (5, .int x22), (4, .int x19), (0, .ref a0), (2, .int p2), (3, .int j60_3)]) hx hb dX12_years_119 hl (by decide) rfl (fun ls hl => ?_)
                refine lv_iload hx hb dX12_years_121 (lv_at hl 0 rfl) ?_
                refine lv_iconst (v := 2) hx hb dX12_years_123 (by decide) ?_
                have jn151 : ∀ (H151 : Heap) (locs : List Loc) (ls : Array Slot) , th_B G Γ Γ [(47, 0), (46, 0), (48, 0), (51, 0), (70, 0), (60, 0), (59, 0), (46, 55), (46, 56), (46, 22), (46, 24), (58, 0), (46, 23), (46, 25)] H0 H151 locs → th_RN a0 G Γ H151 → lv_has ls 8 [(7, .int x27), (4, .int x19), (0, .ref a0), (2, .int p2), (3, .int j60_3)] → F = dv_k f_X12_years_60b (f_X12_years_151 (dv G Γ H151) (x27.toInt) (x19.toInt) ((a0 : Int)) (p2.toInt) (j60_3.toInt)) → (∀ z : Int, 29 ≤ z → mo_v G H151 a0 2 z = mo_v G H0 a0 2 z) → (∀ i : Int, 0 ≤ i → i < 29 → mo_v G H151 a0 5 i = mo_v G H0 a0 2 i) → W p l e ({ frames := 53, cells := 0, slots := 0, locals := 1674 } : Room) s m ([.ref a0, .int p1, .int p2] : List Value).toArray below meth c H151 locs 0 0 (MQ below (th_Q (fun (v : Option Value) (H1 : Heap) => ∃ r : Int32, v = some (.int r) ∧ th_I G Γ H1 ∧ th_F G Γ [(47, 0), (46, 0), (48, 0), (51, 0), (70, 0), (60, 0), (59, 0), (46, 55), (46, 56), (46, 22), (46, 24), (58, 0), (46, 23), (46, 25)] H0 H1 ∧ th_RN a0 G Γ H1 ∧ (f_X12_years (dv G Γ H0) (a0 : Int) p1.toInt p2.toInt = (dv G Γ H1, r.toInt))) G) ([.ref a0, .int p1, .int p2] : List Value).toArray s 0 0 (fun q => G.2.2 ≤ q)) (F0 m 151 ls []) := by
                  intro H151 locs ls hB hR hl hF g151_0 g151_1
                  have mm29 := (th_F_o hB.2.2 h0 ro_46 (j := 2) (by decide) (by decide)).trans sb16
                  have fv30_33 : mo_f G H151 a0 33 = mo_f G H0 a0 33 := mo_f_F hB.2.2 h0 (by decide) (by decide)
                  have vw_H151_3 : mo_v G H151 a0 3 = mo_v G H0 a0 3 := mo_v_F (r := 49) hB.1 hB.2.2 h0 rfl ro_49 (by decide) (by decide)
                  have vw_H151_4 : mo_v G H151 a0 4 = mo_v G H0 a0 4 := mo_v_F (r := 50) hB.1 hB.2.2 h0 rfl ro_50 (by decide) (by decide)
                  have vw_H151_31 : mo_v G H151 a0 31 = mo_v G H0 a0 31 := mo_v_F (r := 61) hB.1 hB.2.2 h0 rfl ro_61 (by decide) (by decide)
                  replace hF := hF.trans (congrArg (dv_k f_X12_years_60b) (f_X12_years_151.eq_1 (dv G Γ H151) (x27.toInt) (x19.toInt) ((a0 : Int)) (p2.toInt) (j60_3.toInt)))
                  refine lv_iload hx hb dX12_years_151 (lv_at hl 0 rfl) ?_
                  refine lv_iconst (v := 2) hx hb dX12_years_153 (by decide) ?_
                  have jn163 : ∀ (H163 : Heap) (locs : List Loc) (ls : Array Slot) , th_B G Γ Γ [(47, 0), (46, 0), (48, 0), (51, 0), (70, 0), (60, 0), (59, 0), (46, 55), (46, 56), (46, 22), (46, 24), (58, 0), (46, 23), (46, 25)] H0 H163 locs → th_RN a0 G Γ H163 → lv_has ls 8 [(0, .ref a0), (2, .int p2), (3, .int j60_3)] → F = dv_k f_X12_years_60b (f_X12_years_163 (dv G Γ H163) ((a0 : Int)) (p2.toInt) (j60_3.toInt)) → (∀ z : Int, 29 ≤ z → mo_v G H163 a0 2 z = mo_v G H0 a0 2 z) → (∀ i : Int, 0 ≤ i → i < 29 → mo_v G H163 a0 5 i = mo_v G H0 a0 2 i) → W p l e ({ frames := 53, cells := 0, slots := 0, locals := 1674 } : Room) s m ([.ref a0, .int p1, .int p2] : List Value).toArray below meth c H163 locs 0 0 (MQ below (th_Q (fun (v : Option Value) (H1 : Heap) => ∃ r : Int32, v = some (.int r) ∧ th_I G Γ H1 ∧ th_F G Γ [(47, 0), (46, 0), (48, 0), (51, 0), (70, 0), (60, 0), (59, 0), (46, 55), (46, 56), (46, 22), (46, 24), (58, 0), (46, 23), (46, 25)] H0 H1 ∧ th_RN a0 G Γ H1 ∧ (f_X12_years (dv G Γ H0) (a0 : Int) p1.toInt p2.toInt = (dv G Γ H1, r.toInt))) G) ([.ref a0, .int p1, .int p2] : List Value).toArray s 0 0 (fun q => G.2.2 ≤ q)) (F0 m 163 ls []) := by
                    intro H163 locs ls hB hR hl hF g163_0 g163_1
                    have mm31 := (th_F_o hB.2.2 h0 ro_46 (j := 2) (by decide) (by decide)).trans sb16
                    have fv32_33 : mo_f G H163 a0 33 = mo_f G H0 a0 33 := mo_f_F hB.2.2 h0 (by decide) (by decide)
                    have vw_H163_3 : mo_v G H163 a0 3 = mo_v G H0 a0 3 := mo_v_F (r := 49) hB.1 hB.2.2 h0 rfl ro_49 (by decide) (by decide)
                    have vw_H163_4 : mo_v G H163 a0 4 = mo_v G H0 a0 4 := mo_v_F (r := 50) hB.1 hB.2.2 h0 rfl ro_50 (by decide) (by decide)
                    have vw_H163_31 : mo_v G H163 a0 31 = mo_v G H0 a0 31 := mo_v_F (r := 61) hB.1 hB.2.2 h0 rfl ro_61 (by decide) (by decide)
                    replace hF := hF.trans (congrArg (dv_k f_X12_years_60b) (f_X12_years_163.eq_1 (dv G Γ H163) ((a0 : Int)) (p2.toInt) (j60_3.toInt)))
                    refine lv_aload_n hx hb dX12_years_163 rfl (lv_at hl 0 rfl) ?_
                    refine th_call (th_runV (As := []) (rest := []) hC mf_X12_yearPasses km_X12_376 im_X12_yearPasses se_X12_yearPasses (c_X12_yearPasses l G Γ H163 hB.1 hU a0 h0 (th_NE hR)) rfl rfl ⟨Nat.le_of_ble_eq_true rfl, Nat.le_of_ble_eq_true rfl⟩ hB.1 h0 ro_46 rfl rfl hl.1 rfl (Nat.le_of_ble_eq_true rfl) dX12_years_164 ⟨Nat.le_refl _, Nat.le_refl _⟩) hB.2.1 (fun v164 H164 locs hp hz hS => ?_)
                    have hRD := hR
                    obtain ⟨x33, rfl, lx33, ux33, hI1, hf, hR, z164_0, z164_1⟩ := hp
                    have hRc164 := hR
                    have hR := hRD
                    have hRC := hRc164.1
                    have hB := th_B_c hB hI1 hS hf (by decide)
                    have mm34 := (th_F_o hf h0 ro_46 (j := 2) (by decide) (by decide)).trans mm31
                    have fv_H164_33 : mo_f G H164 a0 33 = mo_f G H163 a0 33 := mo_f_F hf h0 (by decide) (by decide)
                    have vv_H164_3 : mo_v G H164 a0 3 = mo_v G H163 a0 3 := mo_v_F (r := 49) hB.1 hf h0 rfl ro_49 (by decide) (by decide)
                    have vv_H164_4 : mo_v G H164 a0 4 = mo_v G H163 a0 4 := mo_v_F (r := 50) hB.1 hf h0 rfl ro_50 (by decide) (by decide)
                    have vv_H164_31 : mo_v G H164 a0 31 = mo_v G H163 a0 31 := mo_v_F (r := 61) hB.1 hf h0 rfl ro_61 (by decide) (by decide)
                    have vv_H164_5 : mo_v G H164 a0 5 = mo_v G H163 a0 5 := mo_v_F (r := 51) hB.1 hf h0 rfl ro_51 (by decide) (by decide)
                    replace hF := hF.trans (congrArg (dv_k f_X12_years_60b) (dv_bn2 (z164_1)))
                    refine W.eq (g2 := F0 m 167 ls [.int x33]) rfl ?_
                    have hR : th_RN a0 G Γ H164 := ⟨hRC, by rw [vv_H164_3, vv_H164_4, vv_H164_31, fv_H164_33]; exact mo_ok_sb hR.2 z164_0⟩
                    refine lv_pop hx hb dX12_years_167 rfl ?_
                    refine tr_iinc (fun x35 => [(3, .int x35), (0, .ref a0), (2, .int p2)]) hx hb dX12_years_168 hl (k := 2) rfl (Eq.refl _) tk_1 (by omega) (by omega) (by decide) (fun _ => rfl) (fun x35 ls ex35 hl => ?_)
                    replace hF := hF.trans (congrArg (dv_k f_X12_years_60b) (dv_bn (ex35.symm)))
                    refine lv_goto (tgt := 60) hx hb dX12_years_171 (by decide) ?_
                    replace hF := hF.trans (dv_kl)
                    exact ih60 H164 locs ls x35 hB hR (lv_sub hl [1, 2, 0] rfl) hF (by omega) (by omega) (fun z a9 => by rw [z164_0.1 z a9]; exact g163_0 z a9) (fun i a9 b9 => by rw [vv_H164_5]; exact g163_1 i a9 b9) (by omega)
                  refine tr_icmp_ne (tgt := 163) hx hb dX12_years_154 (by decide) (Eq.refl _) tk_2 (fun c154 => ?_) (fun c154 => ?_)
                  · replace hF := hF.trans (congrArg (dv_k f_X12_years_60b) (if_pos c154))
                    exact jn163 H151 locs ls hB hR (lv_sub hl [2, 3, 4] rfl) hF g151_0 g151_1
                  · replace hF := hF.trans (congrArg (dv_k f_X12_years_60b) (if_neg (not_not_intro c154)))
                    refine lv_aload_n hx hb dX12_years_157 rfl (lv_at hl 2 rfl) ?_
                    refine lv_iload hx hb dX12_years_158 (lv_at hl 1 rfl) ?_
                    refine th_call (th_runV (As := [.int x19]) (rest := []) hC mf_X12_rolls km_X12_123 im_X12_rolls se_X12_rolls (c_X12_rolls l G Γ H151 hB.1 hU a0 h0 (th_NE hR) x19 (by omega) (by omega)) rfl rfl ⟨Nat.le_of_ble_eq_true rfl, Nat.le_of_ble_eq_true rfl⟩ hB.1 h0 ro_46 rfl rfl hl.1 rfl (Nat.le_of_ble_eq_true rfl) dX12_years_160 ⟨Nat.le_refl _, Nat.le_refl _⟩) hB.2.1 (fun v160 H160 locs hp hz hS => ?_)
                    have hRD := hR
                    obtain ⟨rfl, hI1, hf, hR, z160_0, z160_1⟩ := hp
                    have hRc160 := hR
                    have hR := hRD
                    have hRC := hRc160.1
                    have hB := th_B_c hB hI1 hS hf (by decide)
                    have mm36 := (th_F_o hf h0 ro_46 (j := 2) (by decide) (by decide)).trans mm29
                    have fv_H160_33 : mo_f G H160 a0 33 = mo_f G H151 a0 33 := mo_f_F hf h0 (by decide) (by decide)
                    have vv_H160_3 : mo_v G H160 a0 3 = mo_v G H151 a0 3 := mo_v_F (r := 49) hB.1 hf h0 rfl ro_49 (by decide) (by decide)
                    have vv_H160_4 : mo_v G H160 a0 4 = mo_v G H151 a0 4 := mo_v_F (r := 50) hB.1 hf h0 rfl ro_50 (by decide) (by decide)
                    have vv_H160_31 : mo_v G H160 a0 31 = mo_v G H151 a0 31 := mo_v_F (r := 61) hB.1 hf h0 rfl ro_61 (by decide) (by decide)
                    have vv_H160_5 : mo_v G H160 a0 5 = mo_v G H151 a0 5 := mo_v_F (r := 51) hB.1 hf h0 rfl ro_51 (by decide) (by decide)
                    replace hF := hF.trans (congrArg (dv_k f_X12_years_60b) (dv_bn2 (z160_1)))
                    refine W.eq (g2 := F0 m 163 ls []) rfl ?_
                    have hR : th_RN a0 G Γ H160 := ⟨hRC, by rw [z160_0, vv_H160_3, vv_H160_4, vv_H160_31, fv_H160_33]; exact mo_ok_sb hR.2 (mo_sb_ro mo_sb_rf (by omega) (by omega))⟩
                    exact jn163 H160 locs ls hB hR (lv_sub hl [2, 3, 4] rfl) hF (fun z a9 => by rw [z160_0, mo_un (by omega), mo_un (by omega)]; exact g151_0 z a9) (fun i a9 b9 => by rw [vv_H160_5]; exact g151_1 i a9 b9)
                refine tr_icmp_ge (tgt := 151) hx hb dX12_years_124 (by decide) (Eq.refl _) tk_2 (fun c124 => ?_) (fun c124 => ?_)
                · replace hF := hF.trans (congrArg (dv_k f_X12_years_60b) (if_pos c124))
                  exact jn151 H116 locs ls hB hR (lv_sub hl [0, 3, 4, 5, 6] rfl) hF (fun z a9 => by rw [vv_H116_2, vv_H109_2, vv_H96_2, vv_H83_2]; exact g60_2 z a9) (fun i a9 b9 => by rw [vv_H116_5, vv_H109_5, vv_H96_5, vv_H83_5]; exact g60_3 i a9 b9)
                · replace hF := hF.trans (congrArg (dv_k f_X12_years_60b) (if_neg (Int.not_le.mpr c124)))
                  refine lv_aload_n hx hb dX12_years_127 rfl (lv_at hl 4 rfl) ?_
                  refine lv_iload hx hb dX12_years_128 (lv_at hl 3 rfl) ?_
                  refine lv_iload hx hb dX12_years_130 (lv_at hl 2 rfl) ?_
                  refine lv_iload hx hb dX12_years_132 (lv_at hl 1 rfl) ?_
                  have m134 : x19.toInt < mo_v G H116 a0 2 69 := by rw [vv_H116_2, vv_H109_2, vv_H96_2, vv_H83_2]; exact m83
                  refine th_call (th_runV (As := [.int x19, .int x22, .int x25]) (rest := []) hC mf_X12_canLay km_X12_159 im_X12_canLay se_X12_canLay (c_X12_canLay l G Γ H116 hB.1 hU a0 h0 (th_NK hR) x19 (by omega) (by omega) x22 (by omega) (by omega) x25 (by omega) (by omega) (by omega)) rfl rfl ⟨Nat.le_of_ble_eq_true rfl, Nat.le_of_ble_eq_true rfl⟩ hB.1 h0 ro_46 rfl rfl hl.1 rfl (Nat.le_of_ble_eq_true rfl) dX12_years_134 ⟨Nat.le_refl _, Nat.le_refl _⟩) hB.2.1 (fun v134 H134 locs hp hz hS => ?_)
                  have hRD := hR
                  obtain ⟨x37, rfl, lx37, ux37, q134_0, hI1, hf, hR, z134_0⟩ := hp
                  have hR := th_RN_c hR.1 hRD hI1 h0 hf (by decide)
                  have hB := th_B_c hB hI1 hS hf (by decide)
                  have mm38 := (th_F_o hf h0 ro_46 (j := 2) (by decide) (by decide)).trans mm28
                  have fv_H134_33 : mo_f G H134 a0 33 = mo_f G H116 a0 33 := mo_f_F hf h0 (by decide) (by decide)
                  have vv_H134_2 : mo_v G H134 a0 2 = mo_v G H116 a0 2 := mo_v_F (r := 48) hB.1 hf h0 rfl ro_48 (by decide) (by decide)
                  have vv_H134_3 : mo_v G H134 a0 3 = mo_v G H116 a0 3 := mo_v_F (r := 49) hB.1 hf h0 rfl ro_49 (by decide) (by decide)
                  have vv_H134_4 : mo_v G H134 a0 4 = mo_v G H116 a0 4 := mo_v_F (r := 50) hB.1 hf h0 rfl ro_50 (by decide) (by decide)
                  have vv_H134_31 : mo_v G H134 a0 31 = mo_v G H116 a0 31 := mo_v_F (r := 61) hB.1 hf h0 rfl ro_61 (by decide) (by decide)
                  have vv_H134_5 : mo_v G H134 a0 5 = mo_v G H116 a0 5 := mo_v_F (r := 51) hB.1 hf h0 rfl ro_51 (by decide) (by decide)
                  replace hF := hF.trans (congrArg (dv_k f_X12_years_60b) (dv_bn2 (z134_0)))
                  refine W.eq (g2 := F0 m 137 ls [.int x37]) rfl ?_
                  refine tr_if_eq (tgt := 151) hx hb dX12_years_137 (by decide) (Eq.refl _) (fun c137 => ?_) (fun c137 => ?_)
                  · replace hF := hF.trans (congrArg (dv_k f_X12_years_60b) (if_pos c137))
                    exact jn151 H134 locs ls hB hR (lv_sub hl [0, 3, 4, 5, 6] rfl) hF (fun z a9 => by rw [vv_H134_2, vv_H116_2, vv_H109_2, vv_H96_2, vv_H83_2]; exact g60_2 z a9) (fun i a9 b9 => by rw [vv_H134_5, vv_H116_5, vv_H109_5, vv_H96_5, vv_H83_5]; exact g60_3 i a9 b9)
                  · replace hF := hF.trans (congrArg (dv_k f_X12_years_60b) (if_neg c137))
                    refine lv_aload_n hx hb dX12_years_140 rfl (lv_at hl 4 rfl) ?_
                    refine lv_iload hx hb dX12_years_141 (lv_at hl 3 rfl) ?_
                    refine lv_iload hx hb dX12_years_143 (lv_at hl 2 rfl) ?_
                    refine lv_iload hx hb dX12_years_145 (lv_at hl 1 rfl) ?_
                    refine th_call (th_runV (As := [.int x19, .int x22, .int x25]) (rest := []) hC mf_X12_laysAt km_X12_373 im_X12_laysAt se_X12_laysAt (c_X12_laysAt l G Γ H134 hB.1 hU a0 h0 (th_NE hR) x19 (by omega) (by omega) x22 x25) rfl rfl ⟨Nat.le_of_ble_eq_true rfl, Nat.le_of_ble_eq_true rfl⟩ hB.1 h0 ro_46 rfl rfl hl.1 rfl (Nat.le_of_ble_eq_true rfl) dX12_years_147 ⟨Nat.le_refl _, Nat.le_refl _⟩) hB.2.1 (fun v147 H147 locs hp hz hS => ?_)
                    have hRD := hR
                    obtain ⟨x39, rfl, lx39, ux39, hI1, hf, hR, z147_0, z147_1⟩ := hp
                    have hRc147 := hR
                    have hR := hRD
                    have hRC := hRc147.1
                    have hB := th_B_c hB hI1 hS hf (by decide)
                    have mm40 := (th_F_o hf h0 ro_46 (j := 2) (by decide) (by decide)).trans mm38
                    have fv_H147_33 : mo_f G H147 a0 33 = mo_f G H134 a0 33 := mo_f_F hf h0 (by decide) (by decide)
                    have vv_H147_3 : mo_v G H147 a0 3 = mo_v G H134 a0 3 := mo_v_F (r := 49) hB.1 hf h0 rfl ro_49 (by decide) (by decide)
                    have vv_H147_4 : mo_v G H147 a0 4 = mo_v G H134 a0 4 := mo_v_F (r := 50) hB.1 hf h0 rfl ro_50 (by decide) (by decide)
                    have vv_H147_31 : mo_v G H147 a0 31 = mo_v G H134 a0 31 := mo_v_F (r := 61) hB.1 hf h0 rfl ro_61 (by decide) (by decide)
                    have vv_H147_5 : mo_v G H147 a0 5 = mo_v G H134 a0 5 := mo_v_F (r := 51) hB.1 hf h0 rfl ro_51 (by decide) (by decide)
                    replace hF := hF.trans (congrArg (dv_k f_X12_years_60b) (dv_bn2 (z147_1)))
                    refine W.eq (g2 := F0 m 150 ls [.int x39]) rfl ?_
                    have fr := q134_0 (by omega)
                    rw [← vv_H134_2] at fr
                    have m147 : x19.toInt < mo_v G H134 a0 2 69 := by rw [vv_H134_2]; exact m134
                    have hR : th_RN a0 G Γ H147 := ⟨hRC, by rw [vv_H147_3, vv_H147_4, vv_H147_31, fv_H147_33]; exact mo_ok_29 hR.2 (fun i hi => by rw [z147_0 i (by omega), mo_un (by omega), mo_un (by omega)]) (mo_geo_lay hR.2.1.2.1 (by omega) m147 (hR.2.1.2.2.2.2 x19.toInt (by omega) m147) fr.1 (by omega) (by omega) fr.2 z147_0)⟩
                    refine lv_pop hx hb dX12_years_150 rfl ?_
                    exact jn151 H147 locs ls hB hR (lv_sub hl [0, 3, 4, 5, 6] rfl) hF (fun z a9 => by rw [z147_0 z (by omega), mo_un (by omega), mo_un (by omega), vv_H134_2, vv_H116_2, vv_H109_2, vv_H96_2, vv_H83_2]; exact g60_2 z a9) (fun i a9 b9 => by rw [vv_H147_5, vv_H134_5, vv_H116_5, vv_H109_5, vv_H96_5, vv_H83_5]; exact g60_3 i a9 b9)
        exact lp60 ((2147483648 : Int) - (0)).toNat H55 locs ls 0 hB hR (lv_sub hl [1, 3, 0] rfl) (by rw [tk_0]; exact hF) (by decide) (by decide) (fun z a9 => by rw [vv_H55_2, vv_H50_2, vv_H42_2]) (fun i a9 b9 => by have q9 := z55_0 i a9 b9; rw [vv_H50_2, vv_H42_2] at q9; rw [← q9]; congr 1; have w0 := tk_0; omega) (by have w0 := tk_0; omega)
      · replace hF := hF.trans (if_neg (not_not_intro c30))
        refine lv_aload_n hx hb dX12_years_33 rfl (lv_at hl 0 rfl) ?_
        refine lv_bipush (v := (-3)) hx hb dX12_years_34 (by decide) ?_
        refine th_call (th_runV (As := [.int (-3)]) (rest := []) hC mf_X12_refuses km_X12_109 im_X12_refuses se_X12_refuses (c_X12_refuses l G Γ H0 hB.1 hR.1 hU a0 h0 (-3) (by decide) (by decide)) rfl rfl ⟨Nat.le_of_ble_eq_true rfl, Nat.le_of_ble_eq_true rfl⟩ hB.1 h0 ro_46 rfl rfl hl.1 rfl (Nat.le_of_ble_eq_true rfl) dX12_years_36 ⟨Nat.le_refl _, Nat.le_refl _⟩) hB.2.1 (fun v36 H36 locs hp hz hS => ?_)
        have hRD := hR
        obtain ⟨x41, rfl, q36_0, hI1, hf, hR, z36_0⟩ := hp
        have hR := th_RN_c hR hRD hI1 h0 hf (by decide)
        have hB := th_B_c hB hI1 hS hf (by decide)
        have fv_H36_33 : mo_f G H36 a0 33 = mo_f G H0 a0 33 := mo_f_F hf h0 (by decide) (by decide)
        have vv_H36_2 : mo_v G H36 a0 2 = mo_v G H0 a0 2 := mo_v_F (r := 48) hB.1 hf h0 rfl ro_48 (by decide) (by decide)
        have vv_H36_3 : mo_v G H36 a0 3 = mo_v G H0 a0 3 := mo_v_F (r := 49) hB.1 hf h0 rfl ro_49 (by decide) (by decide)
        have vv_H36_4 : mo_v G H36 a0 4 = mo_v G H0 a0 4 := mo_v_F (r := 50) hB.1 hf h0 rfl ro_50 (by decide) (by decide)
        have vv_H36_31 : mo_v G H36 a0 31 = mo_v G H0 a0 31 := mo_v_F (r := 61) hB.1 hf h0 rfl ro_61 (by decide) (by decide)
        have vv_H36_5 : mo_v G H36 a0 5 = mo_v G H0 a0 5 := mo_v_F (r := 51) hB.1 hf h0 rfl ro_51 (by decide) (by decide)
        have w36_0 := tk_m3
        have zf36 := z36_0
        rw [tk_m3] at zf36
        replace hF := hF.trans (dv_bn2 (zf36))
        refine W.eq (g2 := F0 m 39 ls [.int x41]) rfl ?_
        exact th_iret hC hH hr hlocks rfl hB.2.1 ⟨_, rfl, hB.1, hB.2.2, hR, (hF0.symm.trans hF)⟩ dX12_years_39
    · replace hF := hF.trans (if_neg (not_not_intro c17))
      exact jn20 locs ls hB (lv_sub hl [0] rfl) hF
