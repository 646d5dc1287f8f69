section TVX
variable {G : th_G} {H H1 : Heap} {A : Nat}
theorem tv_f_pw {x k j : Nat} {w : Int32} (hst : th_St H H1 A (G.1.2 k j) (.int w)) : tv_f G H1 x k j = if x = A then w.toInt else tv_f G H x k j := by
  by_cases e : x = A
  · rw [if_pos e, e]
    exact tv_f_St hst
  · rw [if_neg e]
    unfold tv_f
    rw [th_sl_kept (hst.2.2.2.1 x e)]
end TVX
set_option maxHeartbeats 4000000 in
set_option maxRecDepth 100000 in
theorem c_X11_onGrid_s (l : Launch) (G : th_G) (Γ : th_Ga) (H0 : Heap) (hI : th_I G Γ H0) (p1 : Int32) : Met l yX11_onGrid (.code yX11_onGrid cX11_onGrid 1 (some FieldType.boolean) :: th_tb) ({ frames := 0, cells := 0, slots := 0, locals := 0 } : Room) (th_P [.int p1] G H0) (th_Q (fun (v : Option Value) (H1 : Heap) => ∃ r : Int32, v = some (.int r) ∧ 0 ≤ r.toInt ∧ r.toInt ≤ 1 ∧ (r.toInt = 1 → 0 ≤ p1.toInt ∧ p1.toInt ≤ 11) ∧ (r.toInt = 0 → p1.toInt < 0 ∨ 11 < p1.toInt) ∧ H0 = H1) G) 0 0 (fun q => G.2.2 ≤ q) := by
  refine th_met RX11 (by decide) rfl (Nat.le_of_ble_eq_true rfl) ?_
  intro p e s m below meth c hC hH hr hlocks hnm ls hl
  have hx := hC.1
  have hb := hC.2.1
  have hB : th_B G Γ Γ [] H0 H0 [] := ⟨hI, va_S.rf, th_F_rf⟩
  have hl : lv_has ls 1 [(0, .int p1)] := hl
  have lp1 := ti_lo p1; have up1 := ti_hi p1
  refine lv_iload_n hx hb dX11_onGrid_0 rfl (lv_at hl 0 rfl) ?_
  refine tr_if_lt (tgt := 14) hx hb dX11_onGrid_1 (by decide) (Eq.refl _) (fun c1 => ?_) (fun c1 => ?_)
  · refine lv_iconst (v := 0) hx hb dX11_onGrid_14 (by decide) ?_
    exact th_iret hC hH hr hlocks narrow_b0 hB.2.1 ⟨_, rfl, by decide, by decide, by first | (intro h9; exact absurd h9 (by decide)) | (have w9 := tk_0; intros; omega), by first | (intro h9; exact absurd h9 (by decide)) | (have w9 := tk_0; intros; omega), rfl⟩ dX11_onGrid_15
  · refine lv_iload_n hx hb dX11_onGrid_4 rfl (lv_at hl 0 rfl) ?_
    refine lv_bipush (v := 12) hx hb dX11_onGrid_5 (by decide) ?_
    refine tr_icmp_ge (tgt := 14) hx hb dX11_onGrid_7 (by decide) (Eq.refl _) tk_12 (fun c7 => ?_) (fun c7 => ?_)
    · refine lv_iconst (v := 0) hx hb dX11_onGrid_14 (by decide) ?_
      exact th_iret hC hH hr hlocks narrow_b0 hB.2.1 ⟨_, rfl, by decide, by decide, by first | (intro h9; exact absurd h9 (by decide)) | (have w9 := tk_0; intros; omega), by first | (intro h9; exact absurd h9 (by decide)) | (have w9 := tk_0; intros; omega), rfl⟩ dX11_onGrid_15
    · refine lv_iconst (v := 1) hx hb dX11_onGrid_10 (by decide) ?_
      refine lv_goto (tgt := 15) hx hb dX11_onGrid_11 (by decide) ?_
      exact th_iret hC hH hr hlocks narrow_b1 hB.2.1 ⟨_, rfl, by decide, by decide, by first | (intro h9; exact absurd h9 (by decide)) | (have w9 := tk_1; intros; omega), by first | (intro h9; exact absurd h9 (by decide)) | (have w9 := tk_1; intros; omega), rfl⟩ dX11_onGrid_15

set_option maxHeartbeats 4000000 in
set_option maxRecDepth 100000 in
theorem c_X8_copyFrom_s (l : Launch) (G : th_G) (Γ : th_Ga) (H0 : Heap) (hI : th_I G Γ H0) (hR : th_RC G Γ H0) (a0 : Nat) (h0 : Γ a0 = (32, 0)) (p1 : Nat) (h1 : Γ p1 = (32, 0)) (x1 x2 x3 : Nat) (hx1 : Γ x1 = (32, 0)) (hx2 : Γ x2 = (32, 0)) (hx3 : Γ x3 = (32, 0)) : Met l yX8_copyFrom (.code yX8_copyFrom cX8_copyFrom 3 (none) :: th_tb) ({ frames := 2, cells := 0, slots := 0, locals := 61 } : Room) (th_P [.ref a0, .ref p1] G H0) (th_Q (fun (v : Option Value) (H1 : Heap) => v = none ∧ th_I G Γ H1 ∧ th_F G Γ [(4, 0), (5, 0), (6, 0), (9, 0), (3, 7), (3, 8), (3, 9), (3, 10), (7, 0), (8, 0), (40, 0), (41, 0), (39, 2), (39, 3), (34, 0), (35, 0), (36, 0), (32, 5), (32, 6), (32, 7)] H0 H1 ∧ th_RC G Γ H1 ∧ (tv_f G H1 x1 8 7 = if x1 = a0 then tv_f G H0 p1 8 7 else tv_f G H0 x1 8 7) ∧ (tv_f G H1 x2 8 7 = if x2 = a0 then tv_f G H0 p1 8 7 else tv_f G H0 x2 8 7) ∧ (tv_f G H1 x3 8 7 = if x3 = a0 then tv_f G H0 p1 8 7 else tv_f G H0 x3 8 7)) G) 0 0 (fun q => G.2.2 ≤ q) := by
  refine th_met RX8 (by decide) rfl (Nat.le_of_ble_eq_true rfl) ?_
  intro p e s m below meth c hC hH hr hlocks hnm ls hl
  have hx := hC.1
  have hb := hC.2.1
  have hB : th_B G Γ Γ [(4, 0), (5, 0), (6, 0), (9, 0), (3, 7), (3, 8), (3, 9), (3, 10), (7, 0), (8, 0), (40, 0), (41, 0), (39, 2), (39, 3), (34, 0), (35, 0), (36, 0), (32, 5), (32, 6), (32, 7)] H0 H0 [] := ⟨hI, va_S.rf, th_F_rf⟩
  have hl : lv_has ls 3 [(0, .ref a0), (1, .ref p1)] := hl
  refine lv_aload_n hx hb dX8_copyFrom_0 rfl (lv_at hl 0 rfl) ?_
  refine th_getR (j := 0) (r2 := 3) hC cf_X8 hB.1 h0 ro_32 rfl rfl kf_X8_12 dX8_copyFrom_1 (fun b1 mb1 hb1 => ?_)
  refine lv_aload_n hx hb dX8_copyFrom_4 rfl (lv_at hl 1 rfl) ?_
  refine th_getR (j := 0) (r2 := 3) hC cf_X8 hB.1 h1 ro_32 rfl rfl kf_X8_12 dX8_copyFrom_5 (fun b2 mb2 hb2 => ?_)
  refine th_call (th_runV (As := [.ref b2]) (rest := []) hC mf_X1_copyFrom km_X8_49 im_X1_copyFrom se_X1_copyFrom (c_X1_copyFrom l G Γ H0 hB.1 hR b1 hb1 b2 hb2) rfl rfl ⟨Nat.le_of_ble_eq_true rfl, Nat.le_of_ble_eq_true rfl⟩ hB.1 hb1 ro_3 rfl rfl hl.1 rfl (Nat.le_of_ble_eq_true rfl) dX8_copyFrom_8 ⟨Nat.le_refl _, Nat.le_refl _⟩) hB.2.1 (fun v8 H8 locs hp hz hS => ?_)
  obtain ⟨rfl, hI1, hf, hR⟩ := hp
  have hB := th_B_c hB hI1 hS hf (by decide)
  have mm3 := (th_F_o hf h0 ro_32 (j := 0) (by decide) (by decide)).trans mb1
  have tv_a_H8 : tv_f G H8 x1 8 7 = tv_f G H0 x1 8 7 := tv_f_F (j := 7) hf hx1 ro_32 (by decide) (by decide)
  have tv_b_H8 : tv_f G H8 x2 8 7 = tv_f G H0 x2 8 7 := tv_f_F (j := 7) hf hx2 ro_32 (by decide) (by decide)
  have tv_c_H8 : tv_f G H8 x3 8 7 = tv_f G H0 x3 8 7 := tv_f_F (j := 7) hf hx3 ro_32 (by decide) (by decide)
  have tv_d_H8 : tv_f G H8 p1 8 7 = tv_f G H0 p1 8 7 := tv_f_F (j := 7) hf h1 ro_32 (by decide) (by decide)
  refine W.eq (g2 := F0 m 11 ls []) rfl ?_
  refine lv_iconst (v := 0) hx hb dX8_copyFrom_11 (by decide) ?_
  refine lv_istore_n (lv' := [(2, .int 0), (0, .ref a0), (1, .ref p1)]) hx hb dX8_copyFrom_12 rfl hl (by decide) rfl (fun ls hl => ?_)
  have lp13 : ∀ (n13 : Nat) (H13 : Heap) (locs : List Loc) (ls : Array Slot) (j13_2 : Int32), th_B G Γ Γ [(4, 0), (5, 0), (6, 0), (9, 0), (3, 7), (3, 8), (3, 9), (3, 10), (7, 0), (8, 0), (40, 0), (41, 0), (39, 2), (39, 3), (34, 0), (35, 0), (36, 0), (32, 5), (32, 6), (32, 7)] H0 H13 locs → th_RC G Γ H13 → lv_has ls 3 [(0, .ref a0), (1, .ref p1), (2, .int j13_2)] → 0 ≤ j13_2.toInt → j13_2.toInt ≤ 6 → tv_f G H13 x1 8 7 = tv_f G H0 x1 8 7 → tv_f G H13 x2 8 7 = tv_f G H0 x2 8 7 → tv_f G H13 x3 8 7 = tv_f G H0 x3 8 7 → tv_f G H13 p1 8 7 = tv_f G H0 p1 8 7 → (2147483648 : Int) - j13_2.toInt ≤ (n13 : Int) → W p l e ({ frames := 2, cells := 0, slots := 0, locals := 61 } : Room) s m ([.ref a0, .ref p1] : List Value).toArray below meth c H13 locs 0 0 (MQ below (th_Q (fun (v : Option Value) (H1 : Heap) => v = none ∧ th_I G Γ H1 ∧ th_F G Γ [(4, 0), (5, 0), (6, 0), (9, 0), (3, 7), (3, 8), (3, 9), (3, 10), (7, 0), (8, 0), (40, 0), (41, 0), (39, 2), (39, 3), (34, 0), (35, 0), (36, 0), (32, 5), (32, 6), (32, 7)] H0 H1 ∧ th_RC G Γ H1 ∧ (tv_f G H1 x1 8 7 = if x1 = a0 then tv_f G H0 p1 8 7 else tv_f G H0 x1 8 7) ∧ (tv_f G H1 x2 8 7 = if x2 = a0 then tv_f G H0 p1 8 7 else tv_f G H0 x2 8 7) ∧ (tv_f G H1 x3 8 7 = if x3 = a0 then tv_f G H0 p1 8 7 else tv_f G H0 x3 8 7)) G) ([.ref a0, .ref p1] : List Value).toArray s 0 0 (fun q => G.2.2 ≤ q)) (F0 m 13 ls []) := by
    intro n13
    induction n13 with
    | zero => intro H13 locs ls j13_2 hB hR hl g13_0 g13_1 g13_2 g13_3 g13_4 g13_5 hm13; exact absurd hm13 (by have := ti_hi j13_2; omega)
    | succ n13 ih13 =>
      intro H13 locs ls j13_2 hB hR hl g13_0 g13_1 g13_2 g13_3 g13_4 g13_5 hm13
      have lj13_2 := ti_lo j13_2; have uj13_2 := ti_hi j13_2
      have hm13 : (2147483648 : Int) - j13_2.toInt ≤ (n13 : Int) + 1 := by omega
      refine lv_iload_n hx hb dX8_copyFrom_13 rfl (lv_at hl 2 rfl) ?_
      refine lv_aload_n hx hb dX8_copyFrom_14 rfl (lv_at hl 1 rfl) ?_
      refine th_getI (j := 5) hC cf_X8 hB.1 h1 ro_32 rfl rfl kf_X8_34 dX8_copyFrom_15 (fun x4 mx4 lx4 ux4 => ?_)
      refine tr_icmp_ge (tgt := 42) hx hb dX8_copyFrom_18 (by decide) (Eq.refl _) (Eq.refl _) (fun c18 => ?_) (fun c18 => ?_)
      · refine lv_aload_n hx hb dX8_copyFrom_42 rfl (lv_at hl 1 rfl) ?_
        refine th_getO (j := 2) (r2 := 34) hC cf_X8 hB.1 h1 ro_32 rfl rfl kf_X8_24 dX8_copyFrom_43 (fun b5 mb5 hb5 => ?_)
        have sb5 := (th_F_o hB.2.2 h1 ro_32 (j := 2) (by decide) (by decide)).symm.trans mb5
        refine lv_iconst (v := 0) hx hb dX8_copyFrom_46 (by decide) ?_
        refine lv_aload_n hx hb dX8_copyFrom_47 rfl (lv_at hl 0 rfl) ?_
        refine th_getO (j := 2) (r2 := 34) hC cf_X8 hB.1 h0 ro_32 rfl rfl kf_X8_24 dX8_copyFrom_48 (fun b6 mb6 hb6 => ?_)
        refine lv_iconst (v := 0) hx hb dX8_copyFrom_51 (by decide) ?_
        refine lv_bipush (v := 6) hx hb dX8_copyFrom_52 (by decide) ?_
        refine tr_acopy hC kac_X8_56 kw_nat kw_sta kw_sys hl.1 hB hb5 hb6 (Or.inl hb6) ro_34 ro_34 (by decide) tk_0 tk_0 tk_6 (by omega) (by omega) (by omega) (by omega) (by omega) (fun _ _ => rfl) (fun _ _ _ hv => hv) (Nat.le_of_ble_eq_true rfl) (Nat.le_of_ble_eq_true rfl) dX8_copyFrom_54 (fun H54 locs hB hf54 hcp54 => ?_)
        have hf := hf54
        have mm7 := (th_F_o hf h1 ro_32 (j := 5) (by decide) (by decide)).trans mx4
        have mm8 := (th_F_o hf h1 ro_32 (j := 2) (by decide) (by decide)).trans mb5
        have hR := th_RC_F hB.1 hR hf (th_T_c hb6 ro_34 hcp54) (by decide)
        have tv_a_H54 : tv_f G H54 x1 8 7 = tv_f G H0 x1 8 7 := (tv_f_F (j := 7) hf hx1 ro_32 (by decide) (by decide)).trans g13_2
        have tv_b_H54 : tv_f G H54 x2 8 7 = tv_f G H0 x2 8 7 := (tv_f_F (j := 7) hf hx2 ro_32 (by decide) (by decide)).trans g13_3
        have tv_c_H54 : tv_f G H54 x3 8 7 = tv_f G H0 x3 8 7 := (tv_f_F (j := 7) hf hx3 ro_32 (by decide) (by decide)).trans g13_4
        have tv_d_H54 : tv_f G H54 p1 8 7 = tv_f G H0 p1 8 7 := (tv_f_F (j := 7) hf h1 ro_32 (by decide) (by decide)).trans g13_5
        refine lv_aload_n hx hb dX8_copyFrom_57 rfl (lv_at hl 1 rfl) ?_
        refine th_getO (j := 3) (r2 := 35) hC cf_X8 hB.1 h1 ro_32 rfl rfl kf_X8_28 dX8_copyFrom_58 (fun b9 mb9 hb9 => ?_)
        have sb9 := (th_F_o hB.2.2 h1 ro_32 (j := 3) (by decide) (by decide)).symm.trans mb9
        refine lv_iconst (v := 0) hx hb dX8_copyFrom_61 (by decide) ?_
        refine lv_aload_n hx hb dX8_copyFrom_62 rfl (lv_at hl 0 rfl) ?_
        refine th_getO (j := 3) (r2 := 35) hC cf_X8 hB.1 h0 ro_32 rfl rfl kf_X8_28 dX8_copyFrom_63 (fun b10 mb10 hb10 => ?_)
        refine lv_iconst (v := 0) hx hb dX8_copyFrom_66 (by decide) ?_
        refine lv_bipush (v := 6) hx hb dX8_copyFrom_67 (by decide) ?_
        refine tr_acopy hC kac_X8_56 kw_nat kw_sta kw_sys hl.1 hB hb9 hb10 (Or.inl hb10) ro_35 ro_35 (by decide) tk_0 tk_0 tk_6 (by omega) (by omega) (by omega) (by omega) (by omega) (fun _ _ => rfl) (fun _ _ _ hv => hv) (Nat.le_of_ble_eq_true rfl) (Nat.le_of_ble_eq_true rfl) dX8_copyFrom_69 (fun H69 locs hB hf69 hcp69 => ?_)
        have hf := hf69
        have mm11 := (th_F_o hf h1 ro_32 (j := 5) (by decide) (by decide)).trans mm7
        have mm12 := (th_F_o hf h1 ro_32 (j := 2) (by decide) (by decide)).trans mm8
        have mm13 := (th_F_o hf h1 ro_32 (j := 3) (by decide) (by decide)).trans mb9
        have hR := th_RC_F hB.1 hR hf (th_T_c hb10 ro_35 hcp69) (by decide)
        have tv_a_H69 : tv_f G H69 x1 8 7 = tv_f G H0 x1 8 7 := (tv_f_F (j := 7) hf hx1 ro_32 (by decide) (by decide)).trans tv_a_H54
        have tv_b_H69 : tv_f G H69 x2 8 7 = tv_f G H0 x2 8 7 := (tv_f_F (j := 7) hf hx2 ro_32 (by decide) (by decide)).trans tv_b_H54
        have tv_c_H69 : tv_f G H69 x3 8 7 = tv_f G H0 x3 8 7 := (tv_f_F (j := 7) hf hx3 ro_32 (by decide) (by decide)).trans tv_c_H54
        have tv_d_H69 : tv_f G H69 p1 8 7 = tv_f G H0 p1 8 7 := (tv_f_F (j := 7) hf h1 ro_32 (by decide) (by decide)).trans tv_d_H54
        refine lv_aload_n hx hb dX8_copyFrom_72 rfl (lv_at hl 1 rfl) ?_
        refine th_getO (j := 4) (r2 := 36) hC cf_X8 hB.1 h1 ro_32 rfl rfl kf_X8_31 dX8_copyFrom_73 (fun b14 mb14 hb14 => ?_)
        have sb14 := (th_F_o hB.2.2 h1 ro_32 (j := 4) (by decide) (by decide)).symm.trans mb14
        refine lv_iconst (v := 0) hx hb dX8_copyFrom_76 (by decide) ?_
        refine lv_aload_n hx hb dX8_copyFrom_77 rfl (lv_at hl 0 rfl) ?_
        refine th_getO (j := 4) (r2 := 36) hC cf_X8 hB.1 h0 ro_32 rfl rfl kf_X8_31 dX8_copyFrom_78 (fun b15 mb15 hb15 => ?_)
        refine lv_iconst (v := 0) hx hb dX8_copyFrom_81 (by decide) ?_
        refine lv_bipush (v := 6) hx hb dX8_copyFrom_82 (by decide) ?_
        refine tr_acopy hC kac_X8_56 kw_nat kw_sta kw_sys hl.1 hB hb14 hb15 (Or.inl hb15) ro_36 ro_36 (by decide) tk_0 tk_0 tk_6 (by omega) (by omega) (by omega) (by omega) (by omega) (fun _ _ => rfl) (fun _ _ _ hv => hv) (Nat.le_of_ble_eq_true rfl) (Nat.le_of_ble_eq_true rfl) dX8_copyFrom_84 (fun H84 locs hB hf84 hcp84 => ?_)
        have hf := hf84
        have mm16 := (th_F_o hf h1 ro_32 (j := 5) (by decide) (by decide)).trans mm11
        have mm17 := (th_F_o hf h1 ro_32 (j := 2) (by decide) (by decide)).trans mm12
        have mm18 := (th_F_o hf h1 ro_32 (j := 3) (by decide) (by decide)).trans mm13
        have mm19 := (th_F_o hf h1 ro_32 (j := 4) (by decide) (by decide)).trans mb14
        have hR := th_RC_F hB.1 hR hf (th_T_c hb15 ro_36 hcp84) (by decide)
        have tv_a_H84 : tv_f G H84 x1 8 7 = tv_f G H0 x1 8 7 := (tv_f_F (j := 7) hf hx1 ro_32 (by decide) (by decide)).trans tv_a_H69
        have tv_b_H84 : tv_f G H84 x2 8 7 = tv_f G H0 x2 8 7 := (tv_f_F (j := 7) hf hx2 ro_32 (by decide) (by decide)).trans tv_b_H69
        have tv_c_H84 : tv_f G H84 x3 8 7 = tv_f G H0 x3 8 7 := (tv_f_F (j := 7) hf hx3 ro_32 (by decide) (by decide)).trans tv_c_H69
        have tv_d_H84 : tv_f G H84 p1 8 7 = tv_f G H0 p1 8 7 := (tv_f_F (j := 7) hf h1 ro_32 (by decide) (by decide)).trans tv_d_H69
        refine lv_aload_n hx hb dX8_copyFrom_87 rfl (lv_at hl 0 rfl) ?_
        refine lv_aload_n hx hb dX8_copyFrom_88 rfl (lv_at hl 1 rfl) ?_
        refine th_getK hC cf_X8 hB.1 h1 ro_32 rfl (j := 5) (by decide) mm16 kf_X8_34 dX8_copyFrom_89 ?_
        refine th_put hC cf_X8 hB h0 (Or.inl h0) ro_32 rfl (j := 5) rfl (th_sI (by omega) (by omega)) (by decide) rfl rfl rfl kf_X8_34 dX8_copyFrom_92 (fun H92 locs hB hf hst92 => ?_)
        have mm20 := (th_F_o hf h1 ro_32 (j := 2) (by decide) (by decide)).trans mm17
        have mm21 := (th_F_o hf h1 ro_32 (j := 3) (by decide) (by decide)).trans mm18
        have mm22 := (th_F_o hf h1 ro_32 (j := 4) (by decide) (by decide)).trans mm19
        have hR := th_RC_F hB.1 hR hf (th_T_s h0 ro_32 hst92) (by decide)
        have tv_a_H92 : tv_f G H92 x1 8 7 = tv_f G H0 x1 8 7 := (tv_f_F (j := 7) hf hx1 ro_32 (by decide) (by decide)).trans tv_a_H84
        have tv_b_H92 : tv_f G H92 x2 8 7 = tv_f G H0 x2 8 7 := (tv_f_F (j := 7) hf hx2 ro_32 (by decide) (by decide)).trans tv_b_H84
        have tv_c_H92 : tv_f G H92 x3 8 7 = tv_f G H0 x3 8 7 := (tv_f_F (j := 7) hf hx3 ro_32 (by decide) (by decide)).trans tv_c_H84
        have tv_d_H92 : tv_f G H92 p1 8 7 = tv_f G H0 p1 8 7 := (tv_f_F (j := 7) hf h1 ro_32 (by decide) (by decide)).trans tv_d_H84
        refine lv_aload_n hx hb dX8_copyFrom_95 rfl (lv_at hl 0 rfl) ?_
        refine lv_aload_n hx hb dX8_copyFrom_96 rfl (lv_at hl 1 rfl) ?_
        refine th_getI (j := 6) hC cf_X8 hB.1 h1 ro_32 rfl rfl kf_X8_38 dX8_copyFrom_97 (fun x23 mx23 lx23 ux23 => ?_)
        refine th_put hC cf_X8 hB h0 (Or.inl h0) ro_32 rfl (j := 6) rfl th_sIa (by decide) rfl rfl rfl kf_X8_38 dX8_copyFrom_100 (fun H100 locs hB hf hst100 => ?_)
        have mm24 := (th_F_o hf h1 ro_32 (j := 2) (by decide) (by decide)).trans mm20
        have mm25 := (th_F_o hf h1 ro_32 (j := 3) (by decide) (by decide)).trans mm21
        have mm26 := (th_F_o hf h1 ro_32 (j := 4) (by decide) (by decide)).trans mm22
        have hR := th_RC_F hB.1 hR hf (th_T_s h0 ro_32 hst100) (by decide)
        have tv_a_H100 : tv_f G H100 x1 8 7 = tv_f G H0 x1 8 7 := (tv_f_F (j := 7) hf hx1 ro_32 (by decide) (by decide)).trans tv_a_H92
        have tv_b_H100 : tv_f G H100 x2 8 7 = tv_f G H0 x2 8 7 := (tv_f_F (j := 7) hf hx2 ro_32 (by decide) (by decide)).trans tv_b_H92
        have tv_c_H100 : tv_f G H100 x3 8 7 = tv_f G H0 x3 8 7 := (tv_f_F (j := 7) hf hx3 ro_32 (by decide) (by decide)).trans tv_c_H92
        have tv_d_H100 : tv_f G H100 p1 8 7 = tv_f G H0 p1 8 7 := (tv_f_F (j := 7) hf h1 ro_32 (by decide) (by decide)).trans tv_d_H92
        refine lv_aload_n hx hb dX8_copyFrom_103 rfl (lv_at hl 0 rfl) ?_
        refine lv_aload_n hx hb dX8_copyFrom_104 rfl (lv_at hl 1 rfl) ?_
        refine th_getI (j := 7) hC cf_X8 hB.1 h1 ro_32 rfl rfl kf_X8_41 dX8_copyFrom_105 (fun x27 mx27 lx27 ux27 => ?_)
        have twx27 : tv_f G H0 p1 8 7 = x27.toInt := tv_d_H100.symm.trans (tv_fat mx27)
        refine th_put hC cf_X8 hB h0 (Or.inl h0) ro_32 rfl (j := 7) rfl (th_sI (by omega) (by omega)) (by decide) rfl rfl rfl kf_X8_41 dX8_copyFrom_108 (fun H108 locs hB hf hst108 => ?_)
        have mm28 := (th_F_o hf h1 ro_32 (j := 2) (by decide) (by decide)).trans mm24
        have mm29 := (th_F_o hf h1 ro_32 (j := 3) (by decide) (by decide)).trans mm25
        have mm30 := (th_F_o hf h1 ro_32 (j := 4) (by decide) (by decide)).trans mm26
        have hR := th_RC_F hB.1 hR hf (th_T_s h0 ro_32 hst108) (by decide)
        have tv_a_H108 : tv_f G H108 x1 8 7 = (if x1 = a0 then x27.toInt else tv_f G H0 x1 8 7) := (tv_f_pw hst108).trans (by rw [tv_a_H100])
        have tv_b_H108 : tv_f G H108 x2 8 7 = (if x2 = a0 then x27.toInt else tv_f G H0 x2 8 7) := (tv_f_pw hst108).trans (by rw [tv_b_H100])
        have tv_c_H108 : tv_f G H108 x3 8 7 = (if x3 = a0 then x27.toInt else tv_f G H0 x3 8 7) := (tv_f_pw hst108).trans (by rw [tv_c_H100])
        have tv_d_H108 : tv_f G H108 p1 8 7 = (if p1 = a0 then x27.toInt else tv_f G H0 p1 8 7) := (tv_f_pw hst108).trans (by rw [tv_d_H100])
        exact th_vret hC hH hr hlocks hB.2.1 ⟨rfl, hB.1, hB.2.2, hR, (tv_a_H108.trans (by rw [twx27])), (tv_b_H108.trans (by rw [twx27])), (tv_c_H108.trans (by rw [twx27]))⟩ dX8_copyFrom_111
      · refine lv_aload_n hx hb dX8_copyFrom_21 rfl (lv_at hl 0 rfl) ?_
        refine th_getO (j := 1) (r2 := 33) hC cf_X8 hB.1 h0 ro_32 rfl rfl kf_X8_20 dX8_copyFrom_22 (fun b31 mb31 hb31 => ?_)
        have sb31 := (th_F_o hB.2.2 h0 ro_32 (j := 1) (by decide) (by decide)).symm.trans mb31
        refine lv_iload_n hx hb dX8_copyFrom_25 rfl (lv_at hl 2 rfl) ?_
        refine th_aaldF (r2 := 39) hC hB.1 hb31 ro_33 rfl (Eq.refl _) (by omega) (by omega) rfl dX8_copyFrom_26 (fun b32 mb32 hb32 => ?_)
        refine lv_aload_n hx hb dX8_copyFrom_27 rfl (lv_at hl 1 rfl) ?_
        refine th_getO (j := 1) (r2 := 33) hC cf_X8 hB.1 h1 ro_32 rfl rfl kf_X8_20 dX8_copyFrom_28 (fun b33 mb33 hb33 => ?_)
        have sb33 := (th_F_o hB.2.2 h1 ro_32 (j := 1) (by decide) (by decide)).symm.trans mb33
        refine lv_iload_n hx hb dX8_copyFrom_31 rfl (lv_at hl 2 rfl) ?_
        refine th_aaldF (r2 := 39) hC hB.1 hb33 ro_33 rfl (Eq.refl _) (by omega) (by omega) rfl dX8_copyFrom_32 (fun b34 mb34 hb34 => ?_)
        refine th_call (th_runV (As := [.ref b34]) (rest := []) hC mf_X10_copyFrom km_X8_53 im_X10_copyFrom se_X10_copyFrom (c_X10_copyFrom l G Γ H13 hB.1 hR b32 hb32 b34 hb34) rfl rfl ⟨Nat.le_of_ble_eq_true rfl, Nat.le_of_ble_eq_true rfl⟩ hB.1 hb32 ro_39 rfl rfl hl.1 rfl (Nat.le_of_ble_eq_true rfl) dX8_copyFrom_33 ⟨Nat.le_refl _, Nat.le_refl _⟩) hB.2.1 (fun v33 H33 locs hp hz hS => ?_)
        obtain ⟨rfl, hI1, hf, hR⟩ := hp
        have hB := th_B_c hB hI1 hS hf (by decide)
        have mm35 := (th_F_o hf h1 ro_32 (j := 5) (by decide) (by decide)).trans mx4
        have mm36 := (th_F_o hf h0 ro_32 (j := 1) (by decide) (by decide)).trans mb31
        have mm37 := (th_F_o hf h1 ro_32 (j := 1) (by decide) (by decide)).trans mb33
        have tv_a_H33 : tv_f G H33 x1 8 7 = tv_f G H0 x1 8 7 := (tv_f_F (j := 7) hf hx1 ro_32 (by decide) (by decide)).trans g13_2
        have tv_b_H33 : tv_f G H33 x2 8 7 = tv_f G H0 x2 8 7 := (tv_f_F (j := 7) hf hx2 ro_32 (by decide) (by decide)).trans g13_3
        have tv_c_H33 : tv_f G H33 x3 8 7 = tv_f G H0 x3 8 7 := (tv_f_F (j := 7) hf hx3 ro_32 (by decide) (by decide)).trans g13_4
        have tv_d_H33 : tv_f G H33 p1 8 7 = tv_f G H0 p1 8 7 := (tv_f_F (j := 7) hf h1 ro_32 (by decide) (by decide)).trans g13_5
        refine W.eq (g2 := F0 m 36 ls []) rfl ?_
        refine tr_iinc (fun x38 => [(2, .int x38), (0, .ref a0), (1, .ref p1)]) hx hb dX8_copyFrom_36 hl (k := 2) rfl (Eq.refl _) tk_1 (by omega) (by omega) (by decide) (fun _ => rfl) (fun x38 ls ex38 hl => ?_)
        refine lv_goto (tgt := 13) hx hb dX8_copyFrom_39 (by decide) ?_
        exact ih13 H33 locs ls x38 hB hR (lv_sub hl [1, 2, 0] rfl) (by omega) (by omega) tv_a_H33 tv_b_H33 tv_c_H33 tv_d_H33 (by omega)
  exact lp13 ((2147483648 : Int) - (0)).toNat H8 locs ls 0 hB hR (lv_sub hl [1, 2, 0] rfl) (by decide) (by decide) tv_a_H8 tv_b_H8 tv_c_H8 tv_d_H8 (by have w0 := tk_0; omega)

set_option maxHeartbeats 4000000 in
set_option maxRecDepth 100000 in
theorem c_X11_seen_s (l : Launch) (G : th_G) (Γ : th_Ga) (H0 : Heap) (hI : th_I G Γ H0) (hR : th_RC G Γ H0) (a0 : Nat) (h0 : Γ a0 = (42, 0)) (p1 : Int32) (p2 : Int32) (p3 : Int32) (st s0 s1 im : Nat) (hst : Γ st = (32, 0)) (hs0 : Γ s0 = (32, 0)) (hs1 : Γ s1 = (32, 0)) (him : Γ im = (43, a0)) (mst : th_sl H0 a0 (G.1.2 11 0) = .ref st) (mim : th_sl H0 a0 (G.1.2 11 1) = .ref im) (ms0 : th_sl H0 im 0 = .ref s0) (ms1 : th_sl H0 im 1 = .ref s1) (ne0 : st ≠ s0) (ne1 : st ≠ s1) (ne2 : s0 ≠ s1) : Met l yX11_seen (.code yX11_seen cX11_seen 4 (some FieldType.int) :: th_tb) ({ frames := 1, cells := 0, slots := 0, locals := 21 } : Room) (th_P [.ref a0, .int p1, .int p2, .int p3] G H0) (th_Q (fun (v : Option Value) (H1 : Heap) => ∃ r : Int32, v = some (.int r) ∧ (¬ (0 ≤ p1.toInt ∧ p1.toInt ≤ 11 ∧ 0 ≤ p2.toInt ∧ p2.toInt ≤ 11 ∧ 1 ≤ p3.toInt ∧ p3.toInt ≤ 12) → r.toInt = -1) ∧ ((0 ≤ p1.toInt ∧ p1.toInt ≤ 11 ∧ 0 ≤ p2.toInt ∧ p2.toInt ≤ 11 ∧ 1 ≤ p3.toInt ∧ p3.toInt ≤ 12) → tv_f G H0 st 8 7 = 6 → r.toInt = -5) ∧ ((0 ≤ p1.toInt ∧ p1.toInt ≤ 11 ∧ 0 ≤ p2.toInt ∧ p2.toInt ≤ 11 ∧ 1 ≤ p3.toInt ∧ p3.toInt ≤ 12) → tv_f G H0 st 8 7 < 6 → r.toInt = tv_f G H0 st 8 7 + 1) ∧ ((0 ≤ p1.toInt ∧ p1.toInt ≤ 11 ∧ 0 ≤ p2.toInt ∧ p2.toInt ≤ 11 ∧ 1 ≤ p3.toInt ∧ p3.toInt ≤ 12) → tv_f G H0 st 8 7 ≤ 6) ∧ th_I G Γ H1 ∧ th_F G Γ [(45, 0), (42, 14), (34, 0), (35, 0), (36, 0), (32, 7)] H0 H1 ∧ th_RC G Γ H1 ∧ (tv_f G H1 st 8 7 = if (0 ≤ p1.toInt ∧ p1.toInt ≤ 11 ∧ 0 ≤ p2.toInt ∧ p2.toInt ≤ 11 ∧ 1 ≤ p3.toInt ∧ p3.toInt ≤ 12) ∧ tv_f G H0 st 8 7 < 6 then tv_f G H0 st 8 7 + 1 else tv_f G H0 st 8 7) ∧ (tv_f G H1 s0 8 7 = tv_f G H0 s0 8 7) ∧ (tv_f G H1 s1 8 7 = tv_f G H0 s1 8 7)) G) 0 0 (fun q => G.2.2 ≤ q) := by
  refine th_met RX11 (by decide) rfl (Nat.le_of_ble_eq_true rfl) ?_
  intro p e s m below meth c hC hH hr hlocks hnm ls hl
  have hx := hC.1
  have hb := hC.2.1
  have hB : th_B G Γ Γ [(45, 0), (42, 14), (34, 0), (35, 0), (36, 0), (32, 7)] H0 H0 [] := ⟨hI, va_S.rf, th_F_rf⟩
  have hl : lv_has ls 4 [(0, .ref a0), (1, .int p1), (2, .int p2), (3, .int p3)] := hl
  have lp1 := ti_lo p1; have up1 := ti_hi p1
  have lp2 := ti_lo p2; have up2 := ti_hi p2
  have lp3 := ti_lo p3; have up3 := ti_hi p3
  refine lv_iload_n hx hb dX11_seen_0 rfl (lv_at hl 1 rfl) ?_
  refine th_call (th_runS (As := [.int p1]) (rest := []) hC mf_X11_onGrid km_X11_165 st_X11_onGrid (c_X11_onGrid_s l G Γ H0 hB.1 p1) rfl rfl ⟨Nat.le_of_ble_eq_true rfl, Nat.le_of_ble_eq_true rfl⟩ rfl hl.1 rfl (Nat.le_of_ble_eq_true rfl) dX11_seen_1 ⟨Nat.le_refl _, Nat.le_refl _⟩) hB.2.1 (fun v1 H1 locs hp hz hS => ?_)
  obtain ⟨x1, rfl, lx1, ux1, q1_0, q1_1, rfl⟩ := hp
  have hB := th_B_s hB hS
  refine W.eq (g2 := F0 m 4 ls [.int x1]) rfl ?_
  have jn25 : ∀ (locs : List Loc) (ls : Array Slot) , th_B G Γ Γ [(45, 0), (42, 14), (34, 0), (35, 0), (36, 0), (32, 7)] H0 H0 locs → lv_has ls 4 [(0, .ref a0)] → ¬ (0 ≤ p1.toInt ∧ p1.toInt ≤ 11 ∧ 0 ≤ p2.toInt ∧ p2.toInt ≤ 11 ∧ 1 ≤ p3.toInt ∧ p3.toInt ≤ 12) → W p l e ({ frames := 1, cells := 0, slots := 0, locals := 21 } : Room) s m ([.ref a0, .int p1, .int p2, .int p3] : List Value).toArray below meth c H0 locs 0 0 (MQ below (th_Q (fun (v : Option Value) (H1 : Heap) => ∃ r : Int32, v = some (.int r) ∧ (¬ (0 ≤ p1.toInt ∧ p1.toInt ≤ 11 ∧ 0 ≤ p2.toInt ∧ p2.toInt ≤ 11 ∧ 1 ≤ p3.toInt ∧ p3.toInt ≤ 12) → r.toInt = -1) ∧ ((0 ≤ p1.toInt ∧ p1.toInt ≤ 11 ∧ 0 ≤ p2.toInt ∧ p2.toInt ≤ 11 ∧ 1 ≤ p3.toInt ∧ p3.toInt ≤ 12) → tv_f G H0 st 8 7 = 6 → r.toInt = -5) ∧ ((0 ≤ p1.toInt ∧ p1.toInt ≤ 11 ∧ 0 ≤ p2.toInt ∧ p2.toInt ≤ 11 ∧ 1 ≤ p3.toInt ∧ p3.toInt ≤ 12) → tv_f G H0 st 8 7 < 6 → r.toInt = tv_f G H0 st 8 7 + 1) ∧ ((0 ≤ p1.toInt ∧ p1.toInt ≤ 11 ∧ 0 ≤ p2.toInt ∧ p2.toInt ≤ 11 ∧ 1 ≤ p3.toInt ∧ p3.toInt ≤ 12) → tv_f G H0 st 8 7 ≤ 6) ∧ th_I G Γ H1 ∧ th_F G Γ [(45, 0), (42, 14), (34, 0), (35, 0), (36, 0), (32, 7)] H0 H1 ∧ th_RC G Γ H1 ∧ (tv_f G H1 st 8 7 = if (0 ≤ p1.toInt ∧ p1.toInt ≤ 11 ∧ 0 ≤ p2.toInt ∧ p2.toInt ≤ 11 ∧ 1 ≤ p3.toInt ∧ p3.toInt ≤ 12) ∧ tv_f G H0 st 8 7 < 6 then tv_f G H0 st 8 7 + 1 else tv_f G H0 st 8 7) ∧ (tv_f G H1 s0 8 7 = tv_f G H0 s0 8 7) ∧ (tv_f G H1 s1 8 7 = tv_f G H0 s1 8 7)) G) ([.ref a0, .int p1, .int p2, .int p3] : List Value).toArray s 0 0 (fun q => G.2.2 ≤ q)) (F0 m 25 ls []) := by
    intro locs ls hB hl g25_0
    refine lv_aload_n hx hb dX11_seen_25 rfl (lv_at hl 0 rfl) ?_
    refine lv_iconst (v := (-1)) hx hb dX11_seen_26 (by decide) ?_
    refine th_call (th_runV (As := [.int (-1)]) (rest := []) hC mf_X11_answer km_X11_117 im_X11_answer se_X11_answer (c_X11_answer l G Γ H0 hB.1 hR a0 h0 (-1)) rfl rfl ⟨Nat.le_of_ble_eq_true rfl, Nat.le_of_ble_eq_true rfl⟩ hB.1 h0 ro_42 rfl rfl hl.1 rfl (Nat.le_of_ble_eq_true rfl) dX11_seen_27 ⟨Nat.le_refl _, Nat.le_refl _⟩) hB.2.1 (fun v27 H27 locs hp hz hS => ?_)
    obtain ⟨x2, rfl, q27_0, hI1, hf, hR⟩ := hp
    have hB := th_B_c hB hI1 hS hf (by decide)
    have mm3 := (th_F_o hf h0 ro_42 (j := 0) (by decide) (by decide)).trans mst
    have mm4 := (th_F_o hf h0 ro_42 (j := 1) (by decide) (by decide)).trans mim
    have tv_a_H27 : tv_f G H27 st 8 7 = tv_f G H0 st 8 7 := tv_f_F (j := 7) hf hst ro_32 (by decide) (by decide)
    have tv_b_H27 : tv_f G H27 s0 8 7 = tv_f G H0 s0 8 7 := tv_f_F (j := 7) hf hs0 ro_32 (by decide) (by decide)
    have tv_c_H27 : tv_f G H27 s1 8 7 = tv_f G H0 s1 8 7 := tv_f_F (j := 7) hf hs1 ro_32 (by decide) (by decide)
    have w27_0 := tk_m1
    refine W.eq (g2 := F0 m 30 ls [.int x2]) rfl ?_
    exact th_iret hC hH hr hlocks rfl hB.2.1 ⟨_, rfl, by intros; omega, by intros; omega, by intros; omega, by intros; omega, hB.1, hB.2.2, hR, (by have q9 : tv_f G H27 st 8 7 = tv_f G H0 st 8 7 := tv_a_H27; split <;> omega), tv_b_H27, tv_c_H27⟩ dX11_seen_30
  refine tr_if_eq (tgt := 25) hx hb dX11_seen_4 (by decide) (Eq.refl _) (fun c4 => ?_) (fun c4 => ?_)
  · exact jn25 locs ls hB (lv_sub hl [0] rfl) (by omega)
  · refine lv_iload_n hx hb dX11_seen_7 rfl (lv_at hl 2 rfl) ?_
    refine th_call (th_runS (As := [.int p2]) (rest := []) hC mf_X11_onGrid km_X11_165 st_X11_onGrid (c_X11_onGrid_s l G Γ H0 hB.1 p2) rfl rfl ⟨Nat.le_of_ble_eq_true rfl, Nat.le_of_ble_eq_true rfl⟩ rfl hl.1 rfl (Nat.le_of_ble_eq_true rfl) dX11_seen_8 ⟨Nat.le_refl _, Nat.le_refl _⟩) hB.2.1 (fun v8 H8 locs hp hz hS => ?_)
    obtain ⟨x5, rfl, lx5, ux5, q8_0, q8_1, rfl⟩ := hp
    have hB := th_B_s hB hS
    refine W.eq (g2 := F0 m 11 ls [.int x5]) rfl ?_
    refine tr_if_eq (tgt := 25) hx hb dX11_seen_11 (by decide) (Eq.refl _) (fun c11 => ?_) (fun c11 => ?_)
    · exact jn25 locs ls hB (lv_sub hl [0] rfl) (by omega)
    · refine lv_iload_n hx hb dX11_seen_14 rfl (lv_at hl 3 rfl) ?_
      refine lv_iconst (v := 1) hx hb dX11_seen_15 (by decide) ?_
      refine tr_icmp_lt (tgt := 25) hx hb dX11_seen_16 (by decide) (Eq.refl _) tk_1 (fun c16 => ?_) (fun c16 => ?_)
      · exact jn25 locs ls hB (lv_sub hl [0] rfl) (by omega)
      · refine lv_iload_n hx hb dX11_seen_19 rfl (lv_at hl 3 rfl) ?_
        refine lv_bipush (v := 12) hx hb dX11_seen_20 (by decide) ?_
        refine tr_icmp_le (tgt := 31) hx hb dX11_seen_22 (by decide) (Eq.refl _) tk_12 (fun c22 => ?_) (fun c22 => ?_)
        · refine lv_aload_n hx hb dX11_seen_31 rfl (lv_at hl 0 rfl) ?_
          refine th_getK hC cf_X11 hB.1 h0 ro_42 rfl (j := 0) (by decide) mst kf_X11_12 dX11_seen_32 ?_
          refine th_getI (j := 7) hC cf_X8 hB.1 hst ro_32 rfl rfl kf_X11_307 dX11_seen_35 (fun x6 mx6 lx6 ux6 => ?_)
          have twx6 : tv_f G H0 st 8 7 = x6.toInt := tv_fat mx6
          refine lv_bipush (v := 6) hx hb dX11_seen_38 (by decide) ?_
          refine tr_icmp_lt (tgt := 50) hx hb dX11_seen_40 (by decide) (Eq.refl _) tk_6 (fun c40 => ?_) (fun c40 => ?_)
          · refine lv_aload_n hx hb dX11_seen_50 rfl (lv_at hl 0 rfl) ?_
            refine th_getK hC cf_X11 hB.1 h0 ro_42 rfl (j := 0) (by decide) mst kf_X11_12 dX11_seen_51 ?_
            refine th_getO (j := 2) (r2 := 34) hC cf_X8 hB.1 hst ro_32 rfl rfl kf_X11_310 dX11_seen_54 (fun b7 mb7 hb7 => ?_)
            refine lv_aload_n hx hb dX11_seen_57 rfl (lv_at hl 0 rfl) ?_
            refine th_getK hC cf_X11 hB.1 h0 ro_42 rfl (j := 0) (by decide) mst kf_X11_12 dX11_seen_58 ?_
            refine th_getK hC cf_X8 hB.1 hst ro_32 rfl (j := 7) (by decide) mx6 kf_X11_307 dX11_seen_61 ?_
            refine lv_iload_n hx hb dX11_seen_64 rfl (lv_at hl 1 rfl) ?_
            refine th_iastF hC hB hb7 (Or.inl hb7) ro_34 rfl (by decide) (Eq.refl _) (by omega) (by omega) th_sIa dX11_seen_65 (fun H65 locs hB hf65 hst65 => ?_)
            have hf := hf65
            have mm8 := (th_F_o hf h0 ro_42 (j := 0) (by decide) (by decide)).trans mst
            have mm9 := (th_F_o hf h0 ro_42 (j := 1) (by decide) (by decide)).trans mim
            have mm10 := (th_F_o hf hst ro_32 (j := 7) (by decide) (by decide)).trans mx6
            have hR := th_RC_F hB.1 hR hf (th_T_s hb7 ro_34 hst65) (by decide)
            have tv_a_H65 : tv_f G H65 st 8 7 = tv_f G H0 st 8 7 := tv_f_F (j := 7) hf hst ro_32 (by decide) (by decide)
            have tv_b_H65 : tv_f G H65 s0 8 7 = tv_f G H0 s0 8 7 := tv_f_F (j := 7) hf hs0 ro_32 (by decide) (by decide)
            have tv_c_H65 : tv_f G H65 s1 8 7 = tv_f G H0 s1 8 7 := tv_f_F (j := 7) hf hs1 ro_32 (by decide) (by decide)
            refine lv_aload_n hx hb dX11_seen_66 rfl (lv_at hl 0 rfl) ?_
            refine th_getK hC cf_X11 hB.1 h0 ro_42 rfl (j := 0) (by decide) mm8 kf_X11_12 dX11_seen_67 ?_
            refine th_getO (j := 3) (r2 := 35) hC cf_X8 hB.1 hst ro_32 rfl rfl kf_X11_313 dX11_seen_70 (fun b11 mb11 hb11 => ?_)
            refine lv_aload_n hx hb dX11_seen_73 rfl (lv_at hl 0 rfl) ?_
            refine th_getK hC cf_X11 hB.1 h0 ro_42 rfl (j := 0) (by decide) mm8 kf_X11_12 dX11_seen_74 ?_
            refine th_getK hC cf_X8 hB.1 hst ro_32 rfl (j := 7) (by decide) mm10 kf_X11_307 dX11_seen_77 ?_
            refine lv_iload_n hx hb dX11_seen_80 rfl (lv_at hl 2 rfl) ?_
            refine th_iastF hC hB hb11 (Or.inl hb11) ro_35 rfl (by decide) (Eq.refl _) (by omega) (by omega) th_sIa dX11_seen_81 (fun H81 locs hB hf81 hst81 => ?_)
            have hf := hf81
            have mm12 := (th_F_o hf h0 ro_42 (j := 0) (by decide) (by decide)).trans mm8
            have mm13 := (th_F_o hf h0 ro_42 (j := 1) (by decide) (by decide)).trans mm9
            have mm14 := (th_F_o hf hst ro_32 (j := 7) (by decide) (by decide)).trans mm10
            have hR := th_RC_F hB.1 hR hf (th_T_s hb11 ro_35 hst81) (by decide)
            have tv_a_H81 : tv_f G H81 st 8 7 = tv_f G H0 st 8 7 := (tv_f_F (j := 7) hf hst ro_32 (by decide) (by decide)).trans tv_a_H65
            have tv_b_H81 : tv_f G H81 s0 8 7 = tv_f G H0 s0 8 7 := (tv_f_F (j := 7) hf hs0 ro_32 (by decide) (by decide)).trans tv_b_H65
            have tv_c_H81 : tv_f G H81 s1 8 7 = tv_f G H0 s1 8 7 := (tv_f_F (j := 7) hf hs1 ro_32 (by decide) (by decide)).trans tv_c_H65
            refine lv_aload_n hx hb dX11_seen_82 rfl (lv_at hl 0 rfl) ?_
            refine th_getK hC cf_X11 hB.1 h0 ro_42 rfl (j := 0) (by decide) mm12 kf_X11_12 dX11_seen_83 ?_
            refine th_getO (j := 4) (r2 := 36) hC cf_X8 hB.1 hst ro_32 rfl rfl kf_X11_316 dX11_seen_86 (fun b15 mb15 hb15 => ?_)
            refine lv_aload_n hx hb dX11_seen_89 rfl (lv_at hl 0 rfl) ?_
            refine th_getK hC cf_X11 hB.1 h0 ro_42 rfl (j := 0) (by decide) mm12 kf_X11_12 dX11_seen_90 ?_
            refine th_getK hC cf_X8 hB.1 hst ro_32 rfl (j := 7) (by decide) mm14 kf_X11_307 dX11_seen_93 ?_
            refine lv_iload_n hx hb dX11_seen_96 rfl (lv_at hl 3 rfl) ?_
            refine th_iastF hC hB hb15 (Or.inl hb15) ro_36 rfl (by decide) (Eq.refl _) (by omega) (by omega) th_sIa dX11_seen_97 (fun H97 locs hB hf97 hst97 => ?_)
            have hf := hf97
            have mm16 := (th_F_o hf h0 ro_42 (j := 0) (by decide) (by decide)).trans mm12
            have mm17 := (th_F_o hf h0 ro_42 (j := 1) (by decide) (by decide)).trans mm13
            have mm18 := (th_F_o hf hst ro_32 (j := 7) (by decide) (by decide)).trans mm14
            have hR := th_RC_F hB.1 hR hf (th_T_s hb15 ro_36 hst97) (by decide)
            have tv_a_H97 : tv_f G H97 st 8 7 = tv_f G H0 st 8 7 := (tv_f_F (j := 7) hf hst ro_32 (by decide) (by decide)).trans tv_a_H81
            have tv_b_H97 : tv_f G H97 s0 8 7 = tv_f G H0 s0 8 7 := (tv_f_F (j := 7) hf hs0 ro_32 (by decide) (by decide)).trans tv_b_H81
            have tv_c_H97 : tv_f G H97 s1 8 7 = tv_f G H0 s1 8 7 := (tv_f_F (j := 7) hf hs1 ro_32 (by decide) (by decide)).trans tv_c_H81
            refine lv_aload_n hx hb dX11_seen_98 rfl (lv_at hl 0 rfl) ?_
            refine th_getK hC cf_X11 hB.1 h0 ro_42 rfl (j := 0) (by decide) mm16 kf_X11_12 dX11_seen_99 ?_
            refine lv_dup hx hb dX11_seen_102 rfl ?_
            refine th_getK hC cf_X8 hB.1 hst ro_32 rfl (j := 7) (by decide) mm18 kf_X11_307 dX11_seen_103 ?_
            refine lv_iconst (v := 1) hx hb dX11_seen_106 (by decide) ?_
            refine tr_iadd hx hb dX11_seen_107 (Eq.refl _) tk_1 (by omega) (by omega) (fun x19 ex19 => ?_)
            refine th_put hC cf_X8 hB hst (Or.inl hst) ro_32 rfl (j := 7) rfl (th_sI (by omega) (by omega)) (by decide) rfl rfl rfl kf_X11_307 dX11_seen_108 (fun H108 locs hB hf hst108 => ?_)
            have mm20 := (th_F_o hf h0 ro_42 (j := 0) (by decide) (by decide)).trans mm16
            have mm21 := (th_F_o hf h0 ro_42 (j := 1) (by decide) (by decide)).trans mm17
            have hR := th_RC_F hB.1 hR hf (th_T_s hst ro_32 hst108) (by decide)
            have tv_b_H108 : tv_f G H108 s0 8 7 = (if s0 = st then x19.toInt else tv_f G H0 s0 8 7) := (tv_f_pw hst108).trans (by rw [tv_b_H97])
            have tv_c_H108 : tv_f G H108 s1 8 7 = (if s1 = st then x19.toInt else tv_f G H0 s1 8 7) := (tv_f_pw hst108).trans (by rw [tv_c_H97])
            have tv_a_H108 : tv_f G H108 st 8 7 = x19.toInt := tv_f_St hst108
            have mm22 := hst108.2.1
            refine lv_aload_n hx hb dX11_seen_111 rfl (lv_at hl 0 rfl) ?_
            refine lv_aload_n hx hb dX11_seen_112 rfl (lv_at hl 0 rfl) ?_
            refine th_getK hC cf_X11 hB.1 h0 ro_42 rfl (j := 0) (by decide) mm20 kf_X11_12 dX11_seen_113 ?_
            refine th_getK hC cf_X8 hB.1 hst ro_32 rfl (j := 7) (by decide) mm22 kf_X11_307 dX11_seen_116 ?_
            refine th_call (th_runV (As := [.int x19]) (rest := []) hC mf_X11_answer km_X11_117 im_X11_answer se_X11_answer (c_X11_answer l G Γ H108 hB.1 hR a0 h0 x19) rfl rfl ⟨Nat.le_of_ble_eq_true rfl, Nat.le_of_ble_eq_true rfl⟩ hB.1 h0 ro_42 rfl rfl hl.1 rfl (Nat.le_of_ble_eq_true rfl) dX11_seen_119 ⟨Nat.le_refl _, Nat.le_refl _⟩) hB.2.1 (fun v119 H119 locs hp hz hS => ?_)
            obtain ⟨x23, rfl, q119_0, hI1, hf, hR⟩ := hp
            have hB := th_B_c hB hI1 hS hf (by decide)
            have mm24 := (th_F_o hf h0 ro_42 (j := 0) (by decide) (by decide)).trans mm20
            have mm25 := (th_F_o hf h0 ro_42 (j := 1) (by decide) (by decide)).trans mm21
            have mm26 := (th_F_o hf hst ro_32 (j := 7) (by decide) (by decide)).trans mm22
            have tv_a_H119 : tv_f G H119 st 8 7 = x19.toInt := (tv_f_F (j := 7) hf hst ro_32 (by decide) (by decide)).trans tv_a_H108
            have tv_b_H119 : tv_f G H119 s0 8 7 = (if s0 = st then x19.toInt else tv_f G H0 s0 8 7) := (tv_f_F (j := 7) hf hs0 ro_32 (by decide) (by decide)).trans tv_b_H108
            have tv_c_H119 : tv_f G H119 s1 8 7 = (if s1 = st then x19.toInt else tv_f G H0 s1 8 7) := (tv_f_F (j := 7) hf hs1 ro_32 (by decide) (by decide)).trans tv_c_H108
            refine W.eq (g2 := F0 m 122 ls [.int x23]) rfl ?_
            exact th_iret hC hH hr hlocks rfl hB.2.1 ⟨_, rfl, by intros; omega, by intros; omega, by intros; omega, by intros; omega, hB.1, hB.2.2, hR, (by have q9 : tv_f G H119 st 8 7 = x19.toInt := tv_a_H119; split <;> omega), (tv_b_H119.trans (if_neg (fun e => ne0 e.symm))), (tv_c_H119.trans (if_neg (fun e => ne1 e.symm)))⟩ dX11_seen_122
          · refine lv_aload_n hx hb dX11_seen_43 rfl (lv_at hl 0 rfl) ?_
            refine lv_bipush (v := (-5)) hx hb dX11_seen_44 (by decide) ?_
            refine th_call (th_runV (As := [.int (-5)]) (rest := []) hC mf_X11_answer km_X11_117 im_X11_answer se_X11_answer (c_X11_answer l G Γ H0 hB.1 hR a0 h0 (-5)) rfl rfl ⟨Nat.le_of_ble_eq_true rfl, Nat.le_of_ble_eq_true rfl⟩ hB.1 h0 ro_42 rfl rfl hl.1 rfl (Nat.le_of_ble_eq_true rfl) dX11_seen_46 ⟨Nat.le_refl _, Nat.le_refl _⟩) hB.2.1 (fun v46 H46 locs hp hz hS => ?_)
            obtain ⟨x27, rfl, q46_0, hI1, hf, hR⟩ := hp
            have hB := th_B_c hB hI1 hS hf (by decide)
            have mm28 := (th_F_o hf h0 ro_42 (j := 0) (by decide) (by decide)).trans mst
            have mm29 := (th_F_o hf h0 ro_42 (j := 1) (by decide) (by decide)).trans mim
            have mm30 := (th_F_o hf hst ro_32 (j := 7) (by decide) (by decide)).trans mx6
            have tv_a_H46 : tv_f G H46 st 8 7 = tv_f G H0 st 8 7 := tv_f_F (j := 7) hf hst ro_32 (by decide) (by decide)
            have tv_b_H46 : tv_f G H46 s0 8 7 = tv_f G H0 s0 8 7 := tv_f_F (j := 7) hf hs0 ro_32 (by decide) (by decide)
            have tv_c_H46 : tv_f G H46 s1 8 7 = tv_f G H0 s1 8 7 := tv_f_F (j := 7) hf hs1 ro_32 (by decide) (by decide)
            have w46_0 := tk_m5
            refine W.eq (g2 := F0 m 49 ls [.int x27]) rfl ?_
            exact th_iret hC hH hr hlocks rfl hB.2.1 ⟨_, rfl, by intros; omega, by intros; omega, by intros; omega, by intros; omega, hB.1, hB.2.2, hR, (by have q9 : tv_f G H46 st 8 7 = tv_f G H0 st 8 7 := tv_a_H46; split <;> omega), tv_b_H46, tv_c_H46⟩ dX11_seen_49
        · exact jn25 locs ls hB (lv_sub hl [0] rfl) (by omega)

set_option maxHeartbeats 4000000 in
set_option maxRecDepth 100000 in
theorem c_X11_forget_s (l : Launch) (G : th_G) (Γ : th_Ga) (H0 : Heap) (hI : th_I G Γ H0) (hR : th_RC G Γ H0) (a0 : Nat) (h0 : Γ a0 = (42, 0)) (st s0 s1 im : Nat) (hst : Γ st = (32, 0)) (hs0 : Γ s0 = (32, 0)) (hs1 : Γ s1 = (32, 0)) (him : Γ im = (43, a0)) (mst : th_sl H0 a0 (G.1.2 11 0) = .ref st) (mim : th_sl H0 a0 (G.1.2 11 1) = .ref im) (ms0 : th_sl H0 im 0 = .ref s0) (ms1 : th_sl H0 im 1 = .ref s1) (ne0 : st ≠ s0) (ne1 : st ≠ s1) (ne2 : s0 ≠ s1) : Met l yX11_forget (.code yX11_forget cX11_forget 2 (some FieldType.int) :: th_tb) ({ frames := 0, cells := 0, slots := 0, locals := 0 } : Room) (th_P [.ref a0] G H0) (th_Q (fun (v : Option Value) (H1 : Heap) => ∃ r : Int32, v = some (.int r) ∧ (r.toInt = tv_f G H0 st 8 7) ∧ th_I G Γ H1 ∧ th_F G Γ [(32, 7)] H0 H1 ∧ th_RC G Γ H1 ∧ (tv_f G H1 st 8 7 = 0) ∧ (tv_f G H1 s0 8 7 = tv_f G H0 s0 8 7) ∧ (tv_f G H1 s1 8 7 = tv_f G H0 s1 8 7)) G) 0 0 (fun q => G.2.2 ≤ q) := by
  refine th_met RX11 (by decide) rfl (Nat.le_of_ble_eq_true rfl) ?_
  intro p e s m below meth c hC hH hr hlocks hnm ls hl
  have hx := hC.1
  have hb := hC.2.1
  have hB : th_B G Γ Γ [(32, 7)] H0 H0 [] := ⟨hI, va_S.rf, th_F_rf⟩
  have hl : lv_has ls 2 [(0, .ref a0)] := hl
  refine lv_aload_n hx hb dX11_forget_0 rfl (lv_at hl 0 rfl) ?_
  refine th_getK hC cf_X11 hB.1 h0 ro_42 rfl (j := 0) (by decide) mst kf_X11_12 dX11_forget_1 ?_
  refine th_getI (j := 7) hC cf_X8 hB.1 hst ro_32 rfl rfl kf_X11_307 dX11_forget_4 (fun x1 mx1 lx1 ux1 => ?_)
  have twx1 : tv_f G H0 st 8 7 = x1.toInt := tv_fat mx1
  refine lv_istore_n (lv' := [(1, .int x1), (0, .ref a0)]) hx hb dX11_forget_7 rfl hl (by decide) rfl (fun ls hl => ?_)
  refine lv_aload_n hx hb dX11_forget_8 rfl (lv_at hl 1 rfl) ?_
  refine th_getK hC cf_X11 hB.1 h0 ro_42 rfl (j := 0) (by decide) mst kf_X11_12 dX11_forget_9 ?_
  refine lv_iconst (v := 0) hx hb dX11_forget_12 (by decide) ?_
  refine th_put hC cf_X8 hB hst (Or.inl hst) ro_32 rfl (j := 7) rfl (th_sI (by decide) (by decide)) (by decide) rfl rfl rfl kf_X11_307 dX11_forget_13 (fun H13 locs hB hf hst13 => ?_)
  have mm2 := (th_F_o hf h0 ro_42 (j := 0) (by decide) (by decide)).trans mst
  have mm3 := (th_F_o hf h0 ro_42 (j := 1) (by decide) (by decide)).trans mim
  have hR := th_RC_F hB.1 hR hf (th_T_s hst ro_32 hst13) (by decide)
  have tv_b_H13 : tv_f G H13 s0 8 7 = (if s0 = st then 0 else tv_f G H0 s0 8 7) := (tv_f_pw hst13).trans (by rfl)
  have tv_c_H13 : tv_f G H13 s1 8 7 = (if s1 = st then 0 else tv_f G H0 s1 8 7) := (tv_f_pw hst13).trans (by rfl)
  have tv_a_H13 : tv_f G H13 st 8 7 = 0 := (tv_f_St hst13).trans tk_0
  refine lv_iload_n hx hb dX11_forget_16 rfl (lv_at hl 0 rfl) ?_
  exact th_iret hC hH hr hlocks rfl hB.2.1 ⟨_, rfl, by intros; omega, hB.1, hB.2.2, hR, tv_a_H13, (tv_b_H13.trans (if_neg (fun e => ne0 e.symm))), (tv_c_H13.trans (if_neg (fun e => ne1 e.symm)))⟩ dX11_forget_17

set_option maxHeartbeats 4000000 in
set_option maxRecDepth 100000 in
theorem c_X11_image_s (l : Launch) (G : th_G) (Γ : th_Ga) (H0 : Heap) (hI : th_I G Γ H0) (hR : th_RC G Γ H0) (a0 : Nat) (h0 : Γ a0 = (42, 0)) (p1 : Int32) (kr : Nat) (hkr : Γ kr = (44, a0)) (mkr : th_sl H0 a0 (G.1.2 11 2) = .ref kr) (st s0 s1 im : Nat) (hst : Γ st = (32, 0)) (hs0 : Γ s0 = (32, 0)) (hs1 : Γ s1 = (32, 0)) (him : Γ im = (43, a0)) (mst : th_sl H0 a0 (G.1.2 11 0) = .ref st) (mim : th_sl H0 a0 (G.1.2 11 1) = .ref im) (ms0 : th_sl H0 im 0 = .ref s0) (ms1 : th_sl H0 im 1 = .ref s1) (ne0 : st ≠ s0) (ne1 : st ≠ s1) (ne2 : s0 ≠ s1) : Met l yX11_image (.code yX11_image cX11_image 2 (some FieldType.int) :: th_tb) ({ frames := 3, cells := 0, slots := 0, locals := 83 } : Room) (th_P [.ref a0, .int p1] G H0) (th_Q (fun (v : Option Value) (H1 : Heap) => ∃ r : Int32, v = some (.int r) ∧ (p1.toInt < 0 ∨ 1 < p1.toInt → r.toInt = -1) ∧ (0 ≤ p1.toInt ∧ p1.toInt ≤ 1 → r.toInt = 0) ∧ th_I G Γ H1 ∧ th_F G Γ [(45, 0), (42, 14), (4, 0), (5, 0), (6, 0), (9, 0), (3, 7), (3, 8), (3, 9), (3, 10), (7, 0), (8, 0), (40, 0), (41, 0), (39, 2), (39, 3), (34, 0), (35, 0), (36, 0), (32, 5), (32, 6), (32, 7), (44, 0)] H0 H1 ∧ th_RC G Γ H1 ∧ (tv_v H1 kr = if 0 ≤ p1.toInt ∧ p1.toInt ≤ 1 then mo_u (tv_v H0 kr) p1.toInt 1 else tv_v H0 kr) ∧ (tv_f G H1 st 8 7 = tv_f G H0 st 8 7) ∧ (tv_f G H1 s0 8 7 = if p1.toInt = 0 then tv_f G H0 st 8 7 else tv_f G H0 s0 8 7) ∧ (tv_f G H1 s1 8 7 = if p1.toInt = 1 then tv_f G H0 st 8 7 else tv_f G H0 s1 8 7)) G) 0 0 (fun q => G.2.2 ≤ q) := by
  refine th_met RX11 (by decide) rfl (Nat.le_of_ble_eq_true rfl) ?_
  intro p e s m below meth c hC hH hr hlocks hnm ls hl
  have hx := hC.1
  have hb := hC.2.1
  have hB : th_B G Γ Γ [(45, 0), (42, 14), (4, 0), (5, 0), (6, 0), (9, 0), (3, 7), (3, 8), (3, 9), (3, 10), (7, 0), (8, 0), (40, 0), (41, 0), (39, 2), (39, 3), (34, 0), (35, 0), (36, 0), (32, 5), (32, 6), (32, 7), (44, 0)] H0 H0 [] := ⟨hI, va_S.rf, th_F_rf⟩
  have hl : lv_has ls 2 [(0, .ref a0), (1, .int p1)] := hl
  have lp1 := ti_lo p1; have up1 := ti_hi p1
  refine lv_iload_n hx hb dX11_image_0 rfl (lv_at hl 1 rfl) ?_
  have jn9 : ∀ (locs : List Loc) (ls : Array Slot) , th_B G Γ Γ [(45, 0), (42, 14), (4, 0), (5, 0), (6, 0), (9, 0), (3, 7), (3, 8), (3, 9), (3, 10), (7, 0), (8, 0), (40, 0), (41, 0), (39, 2), (39, 3), (34, 0), (35, 0), (36, 0), (32, 5), (32, 6), (32, 7), (44, 0)] H0 H0 locs → lv_has ls 2 [(0, .ref a0)] → p1.toInt < 0 ∨ 2 ≤ p1.toInt → W p l e ({ frames := 3, cells := 0, slots := 0, locals := 83 } : Room) s m ([.ref a0, .int p1] : List Value).toArray below meth c H0 locs 0 0 (MQ below (th_Q (fun (v : Option Value) (H1 : Heap) => ∃ r : Int32, v = some (.int r) ∧ (p1.toInt < 0 ∨ 1 < p1.toInt → r.toInt = -1) ∧ (0 ≤ p1.toInt ∧ p1.toInt ≤ 1 → r.toInt = 0) ∧ th_I G Γ H1 ∧ th_F G Γ [(45, 0), (42, 14), (4, 0), (5, 0), (6, 0), (9, 0), (3, 7), (3, 8), (3, 9), (3, 10), (7, 0), (8, 0), (40, 0), (41, 0), (39, 2), (39, 3), (34, 0), (35, 0), (36, 0), (32, 5), (32, 6), (32, 7), (44, 0)] H0 H1 ∧ th_RC G Γ H1 ∧ (tv_v H1 kr = if 0 ≤ p1.toInt ∧ p1.toInt ≤ 1 then mo_u (tv_v H0 kr) p1.toInt 1 else tv_v H0 kr) ∧ (tv_f G H1 st 8 7 = tv_f G H0 st 8 7) ∧ (tv_f G H1 s0 8 7 = if p1.toInt = 0 then tv_f G H0 st 8 7 else tv_f G H0 s0 8 7) ∧ (tv_f G H1 s1 8 7 = if p1.toInt = 1 then tv_f G H0 st 8 7 else tv_f G H0 s1 8 7)) G) ([.ref a0, .int p1] : List Value).toArray s 0 0 (fun q => G.2.2 ≤ q)) (F0 m 9 ls []) := by
    intro locs ls hB hl g9_0
    refine lv_aload_n hx hb dX11_image_9 rfl (lv_at hl 0 rfl) ?_
    refine lv_iconst (v := (-1)) hx hb dX11_image_10 (by decide) ?_
    refine th_call (th_runV (As := [.int (-1)]) (rest := []) hC mf_X11_answer km_X11_117 im_X11_answer se_X11_answer (c_X11_answer l G Γ H0 hB.1 hR a0 h0 (-1)) rfl rfl ⟨Nat.le_of_ble_eq_true rfl, Nat.le_of_ble_eq_true rfl⟩ hB.1 h0 ro_42 rfl rfl hl.1 rfl (Nat.le_of_ble_eq_true rfl) dX11_image_11 ⟨Nat.le_refl _, Nat.le_refl _⟩) hB.2.1 (fun v11 H11 locs hp hz hS => ?_)
    obtain ⟨x1, rfl, q11_0, hI1, hf, hR⟩ := hp
    have hB := th_B_c hB hI1 hS hf (by decide)
    have mm2 := (th_F_o hf h0 ro_42 (j := 0) (by decide) (by decide)).trans mst
    have mm3 := (th_F_o hf h0 ro_42 (j := 1) (by decide) (by decide)).trans mim
    have mm4 := (th_F_o hf h0 ro_42 (j := 2) (by decide) (by decide)).trans mkr
    have tv_a_H11 : tv_f G H11 st 8 7 = tv_f G H0 st 8 7 := tv_f_F (j := 7) hf hst ro_32 (by decide) (by decide)
    have tv_b_H11 : tv_f G H11 s0 8 7 = tv_f G H0 s0 8 7 := tv_f_F (j := 7) hf hs0 ro_32 (by decide) (by decide)
    have tv_c_H11 : tv_f G H11 s1 8 7 = tv_f G H0 s1 8 7 := tv_f_F (j := 7) hf hs1 ro_32 (by decide) (by decide)
    have tv_k_H11 : tv_v H11 kr = tv_v H0 kr := tv_v_F hf hkr ro_44 (by decide)
    have w11_0 := tk_m1
    refine W.eq (g2 := F0 m 14 ls [.int x1]) rfl ?_
    exact th_iret hC hH hr hlocks rfl hB.2.1 ⟨_, rfl, by intros; omega, by intros; omega, hB.1, hB.2.2, hR, (by rw [if_neg (by omega)]; exact tv_k_H11), tv_a_H11, (by rw [if_neg (by omega)]; exact tv_b_H11), (by rw [if_neg (by omega)]; exact tv_c_H11)⟩ dX11_image_14
  refine tr_if_lt (tgt := 9) hx hb dX11_image_1 (by decide) (Eq.refl _) (fun c1 => ?_) (fun c1 => ?_)
  · exact jn9 [] ls hB (lv_sub hl [0] rfl) (by omega)
  · refine lv_iload_n hx hb dX11_image_4 rfl (lv_at hl 1 rfl) ?_
    refine lv_iconst (v := 2) hx hb dX11_image_5 (by decide) ?_
    refine tr_icmp_lt (tgt := 15) hx hb dX11_image_6 (by decide) (Eq.refl _) tk_2 (fun c6 => ?_) (fun c6 => ?_)
    · refine lv_aload_n hx hb dX11_image_15 rfl (lv_at hl 0 rfl) ?_
      refine th_getK hC cf_X11 hB.1 h0 ro_42 rfl (j := 1) (by decide) mim kf_X11_16 dX11_image_16 ?_
      refine lv_iload_n hx hb dX11_image_19 rfl (lv_at hl 1 rfl) ?_
      refine th_aaldF (r2 := 32) hC hB.1 him ro_43 rfl (Eq.refl _) (by omega) (by omega) rfl dX11_image_20 (fun b5 mb5 hb5 => ?_)
      have eb : b5 = if p1.toInt = 0 then s0 else s1 := by
        split
        · rw [show p1.toInt.toNat = 0 by omega] at mb5; exact (Value.ref.inj (ms0.symm.trans mb5)).symm
        · rw [show p1.toInt.toNat = 1 by omega] at mb5; exact (Value.ref.inj (ms1.symm.trans mb5)).symm
      refine lv_aload_n hx hb dX11_image_21 rfl (lv_at hl 0 rfl) ?_
      refine th_getK hC cf_X11 hB.1 h0 ro_42 rfl (j := 0) (by decide) mst kf_X11_12 dX11_image_22 ?_
      refine th_call (th_runV (As := [.ref st]) (rest := []) hC mf_X8_copyFrom km_X11_342 im_X8_copyFrom se_X8_copyFrom (c_X8_copyFrom_s l G Γ H0 hB.1 hR b5 hb5 st hst st s0 s1 hst hs0 hs1) rfl rfl ⟨Nat.le_of_ble_eq_true rfl, Nat.le_of_ble_eq_true rfl⟩ hB.1 hb5 ro_32 rfl rfl hl.1 rfl (Nat.le_of_ble_eq_true rfl) dX11_image_25 ⟨Nat.le_refl _, Nat.le_refl _⟩) hB.2.1 (fun v25 H25 locs hp hz hS => ?_)
      obtain ⟨rfl, hI1, hf, hR, z25_0, z25_1, z25_2⟩ := hp
      have hB := th_B_c hB hI1 hS hf (by decide)
      have mm6 := (th_F_o hf h0 ro_42 (j := 0) (by decide) (by decide)).trans mst
      have mm7 := (th_F_o hf h0 ro_42 (j := 1) (by decide) (by decide)).trans mim
      have mm8 := (th_F_o hf h0 ro_42 (j := 2) (by decide) (by decide)).trans mkr
      have tv_k_H25 : tv_v H25 kr = tv_v H0 kr := tv_v_F hf hkr ro_44 (by decide)
      refine W.eq (g2 := F0 m 28 ls []) rfl ?_
      refine lv_aload_n hx hb dX11_image_28 rfl (lv_at hl 0 rfl) ?_
      refine th_getK hC cf_X11 hB.1 h0 ro_42 rfl (j := 2) (by decide) mm8 kf_X11_20 dX11_image_29 ?_
      refine lv_iload_n hx hb dX11_image_32 rfl (lv_at hl 1 rfl) ?_
      refine lv_iconst (v := 1) hx hb dX11_image_33 (by decide) ?_
      refine th_zastF hC hB hkr (Or.inl hkr) ro_44 rfl (by decide) (Eq.refl _) (by omega) (by omega) (th_sI (by decide) (by decide)) narrow_b1 dX11_image_34 (fun H34 locs hB hf34 hst34 => ?_)
      have hf := hf34
      have mm9 := (th_F_o hf h0 ro_42 (j := 0) (by decide) (by decide)).trans mm6
      have mm10 := (th_F_o hf h0 ro_42 (j := 1) (by decide) (by decide)).trans mm7
      have mm11 := (th_F_o hf h0 ro_42 (j := 2) (by decide) (by decide)).trans mm8
      have hR := th_RC_F hB.1 hR hf (th_T_s hkr ro_44 hst34) (by decide)
      have tv_a_H34 : tv_f G H34 st 8 7 = (if st = b5 then tv_f G H0 st 8 7 else tv_f G H0 st 8 7) := (tv_f_F (j := 7) hf hst ro_32 (by decide) (by decide)).trans z25_0
      have tv_b_H34 : tv_f G H34 s0 8 7 = (if s0 = b5 then tv_f G H0 st 8 7 else tv_f G H0 s0 8 7) := (tv_f_F (j := 7) hf hs0 ro_32 (by decide) (by decide)).trans z25_1
      have tv_c_H34 : tv_f G H34 s1 8 7 = (if s1 = b5 then tv_f G H0 st 8 7 else tv_f G H0 s1 8 7) := (tv_f_F (j := 7) hf hs1 ro_32 (by decide) (by decide)).trans z25_2
      have tv_k_H34 : tv_v H34 kr = (mo_u (tv_v H0 kr) p1.toInt 1) := by rw [show (p1.toInt : Int) = p1.toInt by omega, ← tv_k_H25]; exact tv_v_st hst34 (by omega)
      refine lv_aload_n hx hb dX11_image_35 rfl (lv_at hl 0 rfl) ?_
      refine lv_iconst (v := 0) hx hb dX11_image_36 (by decide) ?_
      refine th_call (th_runV (As := [.int 0]) (rest := []) hC mf_X11_answer km_X11_117 im_X11_answer se_X11_answer (c_X11_answer l G Γ H34 hB.1 hR a0 h0 0) rfl rfl ⟨Nat.le_of_ble_eq_true rfl, Nat.le_of_ble_eq_true rfl⟩ hB.1 h0 ro_42 rfl rfl hl.1 rfl (Nat.le_of_ble_eq_true rfl) dX11_image_37 ⟨Nat.le_refl _, Nat.le_refl _⟩) hB.2.1 (fun v37 H37 locs hp hz hS => ?_)
      obtain ⟨x12, rfl, q37_0, hI1, hf, hR⟩ := hp
      have hB := th_B_c hB hI1 hS hf (by decide)
      have mm13 := (th_F_o hf h0 ro_42 (j := 0) (by decide) (by decide)).trans mm9
      have mm14 := (th_F_o hf h0 ro_42 (j := 1) (by decide) (by decide)).trans mm10
      have mm15 := (th_F_o hf h0 ro_42 (j := 2) (by decide) (by decide)).trans mm11
      have tv_a_H37 : tv_f G H37 st 8 7 = (if st = b5 then tv_f G H0 st 8 7 else tv_f G H0 st 8 7) := (tv_f_F (j := 7) hf hst ro_32 (by decide) (by decide)).trans tv_a_H34
      have tv_b_H37 : tv_f G H37 s0 8 7 = (if s0 = b5 then tv_f G H0 st 8 7 else tv_f G H0 s0 8 7) := (tv_f_F (j := 7) hf hs0 ro_32 (by decide) (by decide)).trans tv_b_H34
      have tv_c_H37 : tv_f G H37 s1 8 7 = (if s1 = b5 then tv_f G H0 st 8 7 else tv_f G H0 s1 8 7) := (tv_f_F (j := 7) hf hs1 ro_32 (by decide) (by decide)).trans tv_c_H34
      have tv_k_H37 : tv_v H37 kr = (mo_u (tv_v H0 kr) p1.toInt 1) := (tv_v_F hf hkr ro_44 (by decide)).trans tv_k_H34
      have w37_0 := tk_0
      refine W.eq (g2 := F0 m 40 ls [.int x12]) rfl ?_
      exact th_iret hC hH hr hlocks rfl hB.2.1 ⟨_, rfl, by intros; omega, by intros; omega, hB.1, hB.2.2, hR, (by rw [if_pos (by omega)]; exact tv_k_H37), (tv_a_H37.trans (by split <;> rfl)), (tv_b_H37.trans (by (by_cases w : p1.toInt = 0); (rw [if_pos w, if_pos (by rw [eb]; rw [if_pos w])]); (rw [if_neg w, if_neg (by rw [eb]; rw [if_neg w]; exact ne2)]))), (tv_c_H37.trans (by (by_cases w : p1.toInt = 1); (rw [if_pos w, if_pos (by rw [eb]; rw [if_neg (by omega)])]); (rw [if_neg w, if_neg (by rw [eb]; rw [if_pos (by omega)]; exact ne2.symm)])))⟩ dX11_image_40
    · exact jn9 [] ls hB (lv_sub hl [0] rfl) (by omega)

set_option maxHeartbeats 4000000 in
set_option maxRecDepth 100000 in
theorem c_X11_back_s (l : Launch) (G : th_G) (Γ : th_Ga) (H0 : Heap) (hI : th_I G Γ H0) (hR : th_RC G Γ H0) (a0 : Nat) (h0 : Γ a0 = (42, 0)) (p1 : Int32) (kr : Nat) (hkr : Γ kr = (44, a0)) (mkr : th_sl H0 a0 (G.1.2 11 2) = .ref kr) (st s0 s1 im : Nat) (hst : Γ st = (32, 0)) (hs0 : Γ s0 = (32, 0)) (hs1 : Γ s1 = (32, 0)) (him : Γ im = (43, a0)) (mst : th_sl H0 a0 (G.1.2 11 0) = .ref st) (mim : th_sl H0 a0 (G.1.2 11 1) = .ref im) (ms0 : th_sl H0 im 0 = .ref s0) (ms1 : th_sl H0 im 1 = .ref s1) (ne0 : st ≠ s0) (ne1 : st ≠ s1) (ne2 : s0 ≠ s1) : Met l yX11_back (.code yX11_back cX11_back 2 (some FieldType.int) :: th_tb) ({ frames := 3, cells := 0, slots := 0, locals := 83 } : Room) (th_P [.ref a0, .int p1] G H0) (th_Q (fun (v : Option Value) (H1 : Heap) => ∃ r : Int32, v = some (.int r) ∧ th_I G Γ H1 ∧ th_F G Γ [(45, 0), (42, 14), (4, 0), (5, 0), (6, 0), (9, 0), (3, 7), (3, 8), (3, 9), (3, 10), (7, 0), (8, 0), (40, 0), (41, 0), (39, 2), (39, 3), (34, 0), (35, 0), (36, 0), (32, 5), (32, 6), (32, 7), (17, 4)] H0 H1 ∧ th_RC G Γ H1 ∧ (tv_f G H1 st 8 7 = if (0 ≤ p1.toInt ∧ p1.toInt ≤ 1) ∧ tv_v H0 kr p1.toInt ≠ 0 then (if p1.toInt = 0 then tv_f G H0 s0 8 7 else tv_f G H0 s1 8 7) else tv_f G H0 st 8 7) ∧ (tv_f G H1 s0 8 7 = tv_f G H0 s0 8 7) ∧ (tv_f G H1 s1 8 7 = tv_f G H0 s1 8 7)) G) 0 0 (fun q => G.2.2 ≤ q) := by
  refine th_met RX11 (by decide) rfl (Nat.le_of_ble_eq_true rfl) ?_
  intro p e s m below meth c hC hH hr hlocks hnm ls hl
  have hx := hC.1
  have hb := hC.2.1
  have hB : th_B G Γ Γ [(45, 0), (42, 14), (4, 0), (5, 0), (6, 0), (9, 0), (3, 7), (3, 8), (3, 9), (3, 10), (7, 0), (8, 0), (40, 0), (41, 0), (39, 2), (39, 3), (34, 0), (35, 0), (36, 0), (32, 5), (32, 6), (32, 7), (17, 4)] H0 H0 [] := ⟨hI, va_S.rf, th_F_rf⟩
  have hl : lv_has ls 2 [(0, .ref a0), (1, .int p1)] := hl
  have lp1 := ti_lo p1; have up1 := ti_hi p1
  refine lv_iload_n hx hb dX11_back_0 rfl (lv_at hl 1 rfl) ?_
  have jn9 : ∀ (locs : List Loc) (ls : Array Slot) , th_B G Γ Γ [(45, 0), (42, 14), (4, 0), (5, 0), (6, 0), (9, 0), (3, 7), (3, 8), (3, 9), (3, 10), (7, 0), (8, 0), (40, 0), (41, 0), (39, 2), (39, 3), (34, 0), (35, 0), (36, 0), (32, 5), (32, 6), (32, 7), (17, 4)] H0 H0 locs → lv_has ls 2 [(0, .ref a0)] → p1.toInt < 0 ∨ 2 ≤ p1.toInt → W p l e ({ frames := 3, cells := 0, slots := 0, locals := 83 } : Room) s m ([.ref a0, .int p1] : List Value).toArray below meth c H0 locs 0 0 (MQ below (th_Q (fun (v : Option Value) (H1 : Heap) => ∃ r : Int32, v = some (.int r) ∧ th_I G Γ H1 ∧ th_F G Γ [(45, 0), (42, 14), (4, 0), (5, 0), (6, 0), (9, 0), (3, 7), (3, 8), (3, 9), (3, 10), (7, 0), (8, 0), (40, 0), (41, 0), (39, 2), (39, 3), (34, 0), (35, 0), (36, 0), (32, 5), (32, 6), (32, 7), (17, 4)] H0 H1 ∧ th_RC G Γ H1 ∧ (tv_f G H1 st 8 7 = if (0 ≤ p1.toInt ∧ p1.toInt ≤ 1) ∧ tv_v H0 kr p1.toInt ≠ 0 then (if p1.toInt = 0 then tv_f G H0 s0 8 7 else tv_f G H0 s1 8 7) else tv_f G H0 st 8 7) ∧ (tv_f G H1 s0 8 7 = tv_f G H0 s0 8 7) ∧ (tv_f G H1 s1 8 7 = tv_f G H0 s1 8 7)) G) ([.ref a0, .int p1] : List Value).toArray s 0 0 (fun q => G.2.2 ≤ q)) (F0 m 9 ls []) := by
    intro locs ls hB hl g9_0
    refine lv_aload_n hx hb dX11_back_9 rfl (lv_at hl 0 rfl) ?_
    refine lv_iconst (v := (-1)) hx hb dX11_back_10 (by decide) ?_
    refine th_call (th_runV (As := [.int (-1)]) (rest := []) hC mf_X11_answer km_X11_117 im_X11_answer se_X11_answer (c_X11_answer l G Γ H0 hB.1 hR a0 h0 (-1)) rfl rfl ⟨Nat.le_of_ble_eq_true rfl, Nat.le_of_ble_eq_true rfl⟩ hB.1 h0 ro_42 rfl rfl hl.1 rfl (Nat.le_of_ble_eq_true rfl) dX11_back_11 ⟨Nat.le_refl _, Nat.le_refl _⟩) hB.2.1 (fun v11 H11 locs hp hz hS => ?_)
    obtain ⟨x1, rfl, q11_0, hI1, hf, hR⟩ := hp
    have hB := th_B_c hB hI1 hS hf (by decide)
    have mm2 := (th_F_o hf h0 ro_42 (j := 0) (by decide) (by decide)).trans mst
    have mm3 := (th_F_o hf h0 ro_42 (j := 1) (by decide) (by decide)).trans mim
    have mm4 := (th_F_o hf h0 ro_42 (j := 2) (by decide) (by decide)).trans mkr
    have tv_a_H11 : tv_f G H11 st 8 7 = tv_f G H0 st 8 7 := tv_f_F (j := 7) hf hst ro_32 (by decide) (by decide)
    have tv_b_H11 : tv_f G H11 s0 8 7 = tv_f G H0 s0 8 7 := tv_f_F (j := 7) hf hs0 ro_32 (by decide) (by decide)
    have tv_c_H11 : tv_f G H11 s1 8 7 = tv_f G H0 s1 8 7 := tv_f_F (j := 7) hf hs1 ro_32 (by decide) (by decide)
    have tv_k_H11 : tv_v H11 kr = tv_v H0 kr := tv_v_F hf hkr ro_44 (by decide)
    have w11_0 := tk_m1
    refine W.eq (g2 := F0 m 14 ls [.int x1]) rfl ?_
    exact th_iret hC hH hr hlocks rfl hB.2.1 ⟨_, rfl, hB.1, hB.2.2, hR, (by rw [if_neg (by omega)]; exact tv_a_H11), tv_b_H11, tv_c_H11⟩ dX11_back_14
  refine tr_if_lt (tgt := 9) hx hb dX11_back_1 (by decide) (Eq.refl _) (fun c1 => ?_) (fun c1 => ?_)
  · exact jn9 [] ls hB (lv_sub hl [0] rfl) (by omega)
  · refine lv_iload_n hx hb dX11_back_4 rfl (lv_at hl 1 rfl) ?_
    refine lv_iconst (v := 2) hx hb dX11_back_5 (by decide) ?_
    refine tr_icmp_lt (tgt := 15) hx hb dX11_back_6 (by decide) (Eq.refl _) tk_2 (fun c6 => ?_) (fun c6 => ?_)
    · refine lv_aload_n hx hb dX11_back_15 rfl (lv_at hl 0 rfl) ?_
      refine th_getK hC cf_X11 hB.1 h0 ro_42 rfl (j := 2) (by decide) mkr kf_X11_20 dX11_back_16 ?_
      refine lv_iload_n hx hb dX11_back_19 rfl (lv_at hl 1 rfl) ?_
      refine th_zaldF hC hB.1 hkr ro_44 rfl (Eq.refl _) (by omega) (by omega) rfl dX11_back_20 (fun x5 mx5 lx5 ux5 => ?_)
      have twx5 : (tv_v H0 kr) p1.toInt = x5.toInt := by rw [show (p1.toInt : Int) = p1.toInt by omega]; exact tv_vat mx5 (by omega)
      refine tr_if_ne (tgt := 31) hx hb dX11_back_21 (by decide) (Eq.refl _) (fun c21 => ?_) (fun c21 => ?_)
      · refine lv_aload_n hx hb dX11_back_31 rfl (lv_at hl 0 rfl) ?_
        refine th_getK hC cf_X11 hB.1 h0 ro_42 rfl (j := 0) (by decide) mst kf_X11_12 dX11_back_32 ?_
        refine lv_aload_n hx hb dX11_back_35 rfl (lv_at hl 0 rfl) ?_
        refine th_getK hC cf_X11 hB.1 h0 ro_42 rfl (j := 1) (by decide) mim kf_X11_16 dX11_back_36 ?_
        refine lv_iload_n hx hb dX11_back_39 rfl (lv_at hl 1 rfl) ?_
        refine th_aaldF (r2 := 32) hC hB.1 him ro_43 rfl (Eq.refl _) (by omega) (by omega) rfl dX11_back_40 (fun b6 mb6 hb6 => ?_)
        have eb : b6 = if p1.toInt = 0 then s0 else s1 := by
          split
          · rw [show p1.toInt.toNat = 0 by omega] at mb6; exact (Value.ref.inj (ms0.symm.trans mb6)).symm
          · rw [show p1.toInt.toNat = 1 by omega] at mb6; exact (Value.ref.inj (ms1.symm.trans mb6)).symm
        refine th_call (th_runV (As := [.ref b6]) (rest := []) hC mf_X8_copyFrom km_X11_342 im_X8_copyFrom se_X8_copyFrom (c_X8_copyFrom_s l G Γ H0 hB.1 hR st hst b6 hb6 st s0 s1 hst hs0 hs1) rfl rfl ⟨Nat.le_of_ble_eq_true rfl, Nat.le_of_ble_eq_true rfl⟩ hB.1 hst ro_32 rfl rfl hl.1 rfl (Nat.le_of_ble_eq_true rfl) dX11_back_41 ⟨Nat.le_refl _, Nat.le_refl _⟩) hB.2.1 (fun v41 H41 locs hp hz hS => ?_)
        obtain ⟨rfl, hI1, hf, hR, z41_0, z41_1, z41_2⟩ := hp
        have hB := th_B_c hB hI1 hS hf (by decide)
        have mm7 := (th_F_o hf h0 ro_42 (j := 0) (by decide) (by decide)).trans mst
        have mm8 := (th_F_o hf h0 ro_42 (j := 1) (by decide) (by decide)).trans mim
        have mm9 := (th_F_o hf h0 ro_42 (j := 2) (by decide) (by decide)).trans mkr
        have tv_k_H41 : tv_v H41 kr = tv_v H0 kr := tv_v_F hf hkr ro_44 (by decide)
        refine W.eq (g2 := F0 m 44 ls []) rfl ?_
        refine lv_aload_n hx hb dX11_back_44 rfl (lv_at hl 0 rfl) ?_
        refine th_getR (j := 10) (r2 := 17) hC cf_X11 hB.1 h0 ro_42 rfl rfl kf_X11_72 dX11_back_45 (fun b10 mb10 hb10 => ?_)
        refine th_call (th_runV (As := []) (rest := []) hC mf_X4_clear km_X11_114 im_X4_clear se_X4_clear (c_X4_clear l G Γ H41 hB.1 hR b10 hb10) rfl rfl ⟨Nat.le_of_ble_eq_true rfl, Nat.le_of_ble_eq_true rfl⟩ hB.1 hb10 ro_17 rfl rfl hl.1 rfl (Nat.le_of_ble_eq_true rfl) dX11_back_48 ⟨Nat.le_refl _, Nat.le_refl _⟩) hB.2.1 (fun v48 H48 locs hp hz hS => ?_)
        obtain ⟨rfl, hI1, hf, hR⟩ := hp
        have hB := th_B_c hB hI1 hS hf (by decide)
        have mm11 := (th_F_o hf h0 ro_42 (j := 0) (by decide) (by decide)).trans mm7
        have mm12 := (th_F_o hf h0 ro_42 (j := 1) (by decide) (by decide)).trans mm8
        have mm13 := (th_F_o hf h0 ro_42 (j := 2) (by decide) (by decide)).trans mm9
        have tv_a_H48 : tv_f G H48 st 8 7 = (if st = st then tv_f G H0 b6 8 7 else tv_f G H0 st 8 7) := (tv_f_F (j := 7) hf hst ro_32 (by decide) (by decide)).trans z41_0
        have tv_b_H48 : tv_f G H48 s0 8 7 = (if s0 = st then tv_f G H0 b6 8 7 else tv_f G H0 s0 8 7) := (tv_f_F (j := 7) hf hs0 ro_32 (by decide) (by decide)).trans z41_1
        have tv_c_H48 : tv_f G H48 s1 8 7 = (if s1 = st then tv_f G H0 b6 8 7 else tv_f G H0 s1 8 7) := (tv_f_F (j := 7) hf hs1 ro_32 (by decide) (by decide)).trans z41_2
        have tv_k_H48 : tv_v H48 kr = tv_v H0 kr := (tv_v_F hf hkr ro_44 (by decide)).trans tv_k_H41
        refine W.eq (g2 := F0 m 51 ls []) rfl ?_
        refine lv_aload_n hx hb dX11_back_51 rfl (lv_at hl 0 rfl) ?_
        refine lv_iconst (v := 0) hx hb dX11_back_52 (by decide) ?_
        refine th_call (th_runV (As := [.int 0]) (rest := []) hC mf_X11_answer km_X11_117 im_X11_answer se_X11_answer (c_X11_answer l G Γ H48 hB.1 hR a0 h0 0) rfl rfl ⟨Nat.le_of_ble_eq_true rfl, Nat.le_of_ble_eq_true rfl⟩ hB.1 h0 ro_42 rfl rfl hl.1 rfl (Nat.le_of_ble_eq_true rfl) dX11_back_53 ⟨Nat.le_refl _, Nat.le_refl _⟩) hB.2.1 (fun v53 H53 locs hp hz hS => ?_)
        obtain ⟨x14, rfl, q53_0, hI1, hf, hR⟩ := hp
        have hB := th_B_c hB hI1 hS hf (by decide)
        have mm15 := (th_F_o hf h0 ro_42 (j := 0) (by decide) (by decide)).trans mm11
        have mm16 := (th_F_o hf h0 ro_42 (j := 1) (by decide) (by decide)).trans mm12
        have mm17 := (th_F_o hf h0 ro_42 (j := 2) (by decide) (by decide)).trans mm13
        have tv_a_H53 : tv_f G H53 st 8 7 = (if st = st then tv_f G H0 b6 8 7 else tv_f G H0 st 8 7) := (tv_f_F (j := 7) hf hst ro_32 (by decide) (by decide)).trans tv_a_H48
        have tv_b_H53 : tv_f G H53 s0 8 7 = (if s0 = st then tv_f G H0 b6 8 7 else tv_f G H0 s0 8 7) := (tv_f_F (j := 7) hf hs0 ro_32 (by decide) (by decide)).trans tv_b_H48
        have tv_c_H53 : tv_f G H53 s1 8 7 = (if s1 = st then tv_f G H0 b6 8 7 else tv_f G H0 s1 8 7) := (tv_f_F (j := 7) hf hs1 ro_32 (by decide) (by decide)).trans tv_c_H48
        have tv_k_H53 : tv_v H53 kr = tv_v H0 kr := (tv_v_F hf hkr ro_44 (by decide)).trans tv_k_H48
        have w53_0 := tk_0
        refine W.eq (g2 := F0 m 56 ls [.int x14]) rfl ?_
        exact th_iret hC hH hr hlocks rfl hB.2.1 ⟨_, rfl, hB.1, hB.2.2, hR, (tv_a_H53.trans (by rw [if_pos rfl, if_pos (by omega), eb]; split <;> rfl)), (tv_b_H53.trans (if_neg (fun e => ne0 e.symm))), (tv_c_H53.trans (if_neg (fun e => ne1 e.symm)))⟩ dX11_back_56
      · refine lv_aload_n hx hb dX11_back_24 rfl (lv_at hl 0 rfl) ?_
        refine lv_bipush (v := (-2)) hx hb dX11_back_25 (by decide) ?_
        refine th_call (th_runV (As := [.int (-2)]) (rest := []) hC mf_X11_answer km_X11_117 im_X11_answer se_X11_answer (c_X11_answer l G Γ H0 hB.1 hR a0 h0 (-2)) rfl rfl ⟨Nat.le_of_ble_eq_true rfl, Nat.le_of_ble_eq_true rfl⟩ hB.1 h0 ro_42 rfl rfl hl.1 rfl (Nat.le_of_ble_eq_true rfl) dX11_back_27 ⟨Nat.le_refl _, Nat.le_refl _⟩) hB.2.1 (fun v27 H27 locs hp hz hS => ?_)
        obtain ⟨x18, rfl, q27_0, hI1, hf, hR⟩ := hp
        have hB := th_B_c hB hI1 hS hf (by decide)
        have mm19 := (th_F_o hf h0 ro_42 (j := 0) (by decide) (by decide)).trans mst
        have mm20 := (th_F_o hf h0 ro_42 (j := 1) (by decide) (by decide)).trans mim
        have mm21 := (th_F_o hf h0 ro_42 (j := 2) (by decide) (by decide)).trans mkr
        have tv_a_H27 : tv_f G H27 st 8 7 = tv_f G H0 st 8 7 := tv_f_F (j := 7) hf hst ro_32 (by decide) (by decide)
        have tv_b_H27 : tv_f G H27 s0 8 7 = tv_f G H0 s0 8 7 := tv_f_F (j := 7) hf hs0 ro_32 (by decide) (by decide)
        have tv_c_H27 : tv_f G H27 s1 8 7 = tv_f G H0 s1 8 7 := tv_f_F (j := 7) hf hs1 ro_32 (by decide) (by decide)
        have tv_k_H27 : tv_v H27 kr = tv_v H0 kr := tv_v_F hf hkr ro_44 (by decide)
        have w27_0 := tk_m2
        refine W.eq (g2 := F0 m 30 ls [.int x18]) rfl ?_
        exact th_iret hC hH hr hlocks rfl hB.2.1 ⟨_, rfl, hB.1, hB.2.2, hR, (by rw [if_neg (by omega)]; exact tv_a_H27), tv_b_H27, tv_c_H27⟩ dX11_back_30
    · exact jn9 [] ls hB (lv_sub hl [0] rfl) (by omega)

