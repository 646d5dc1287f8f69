set_option maxHeartbeats 4000000 in
set_option maxRecDepth 100000 in
theorem c_X12_laysCovered (l : Launch) (G : th_G) (Γ : th_Ga) (H0 : Heap) (hI : th_I G Γ H0) (hU : dv_U Γ) (a0 : Nat) (h0 : Γ a0 = (46, 0)) (hR : th_RK a0 G Γ H0) : Met l yX12_laysCovered (.code yX12_laysCovered cX12_laysCovered 2 (none) :: th_tb) ({ frames := 1, cells := 0, slots := 0, locals := 24 } : Room) (th_P [.ref a0] G H0) (th_Q (fun (v : Option Value) (H1 : Heap) => v = none ∧ th_I G Γ H1 ∧ th_F G Γ [(59, 0)] H0 H1 ∧ th_RK a0 G Γ H1 ∧ (mo_cv (mo_v G H0 a0 2) (mo_x G H1 a0 29)) ∧ (f_X12_laysCovered (dv G Γ H0) (a0 : Int) = (dv G Γ H1, 0))) G) 0 0 (fun q => G.2.2 ≤ q) := by
  refine th_met RX12 (by decide) rfl (Nat.le_of_ble_eq_true rfl) ?_
  intro p e s m below meth c hC hH hr hlocks hnm ls hl
  have hx := hC.1
  have hb := hC.2.1
  have hB : th_B G Γ Γ [(59, 0)] H0 H0 [] := ⟨hI, va_S.rf, th_F_rf⟩
  have hl : lv_has ls 2 [(0, .ref a0)] := hl
  obtain ⟨F, hF0⟩ : ∃ F, F = f_X12_laysCovered (dv G Γ H0) ((a0 : Int)) := ⟨_, rfl⟩
  have hF := hF0.trans (f_X12_laysCovered.eq_1 (dv G Γ H0) ((a0 : Int)))
  refine lv_iconst (v := 0) hx hb dX12_laysCovered_0 (by decide) ?_
  have hR0 := hR
  refine lv_istore_n (lv' := [(1, .int 0), (0, .ref a0)]) hx hb dX12_laysCovered_1 rfl hl (by decide) rfl (fun ls hl => ?_)
  have lp2 : ∀ (n2 : Nat) (H2 : Heap) (locs : List Loc) (ls : Array Slot) (j2_1 : Int32), th_B G Γ Γ [(59, 0)] H0 H2 locs → th_RK a0 G Γ H2 → lv_has ls 2 [(0, .ref a0), (1, .int j2_1)] → F = dv_lp f_X12_laysCovered_2b (dv G Γ H2, (a0 : Int), j2_1.toInt) → 0 ≤ j2_1.toInt → j2_1.toInt ≤ 12 → (∀ z : Int, 0 ≤ z → z < j2_1.toInt → mo_x G H2 a0 29 z = 0) → (2147483648 : Int) - j2_1.toInt ≤ (n2 : Int) → W p l e ({ frames := 1, cells := 0, slots := 0, locals := 24 } : Room) s m ([.ref a0] : List Value).toArray below meth c H2 locs 0 0 (MQ below (th_Q (fun (v : Option Value) (H1 : Heap) => v = none ∧ th_I G Γ H1 ∧ th_F G Γ [(59, 0)] H0 H1 ∧ th_RK a0 G Γ H1 ∧ (mo_cv (mo_v G H0 a0 2) (mo_x G H1 a0 29)) ∧ (f_X12_laysCovered (dv G Γ H0) (a0 : Int) = (dv G Γ H1, 0))) G) ([.ref a0] : List Value).toArray s 0 0 (fun q => G.2.2 ≤ q)) (F0 m 2 ls []) := by
    intro n2
    induction n2 with
    | zero => intro H2 locs ls j2_1 hB hR hl hF g2_0 g2_1 g2_2 hm2; exact absurd hm2 (by have := ti_hi j2_1; omega)
    | succ n2 ih2 =>
      intro H2 locs ls j2_1 hB hR hl hF g2_0 g2_1 g2_2 hm2
      have lj2_1 := ti_lo j2_1; have uj2_1 := ti_hi j2_1
      have vw_H2_2 : mo_v G H2 a0 2 = mo_v G H0 a0 2 := mo_v_F (r := 48) hB.1 hB.2.2 h0 rfl ro_48 (by decide) (by decide)
      have hm2 : (2147483648 : Int) - j2_1.toInt ≤ (n2 : Int) + 1 := by omega
      replace hF := hF.trans (dv_lp_eq)
      replace hF := hF.trans (congrArg (dv_k f_X12_laysCovered_2b) (f_X12_laysCovered_2c.eq_1 (dv G Γ H2) ((a0 : Int)) (j2_1.toInt)))
      refine lv_iload_n hx hb dX12_laysCovered_2 rfl (lv_at hl 1 rfl) ?_
      refine lv_bipush (v := 12) hx hb dX12_laysCovered_3 (by decide) ?_
      refine tr_icmp_ge (tgt := 21) hx hb dX12_laysCovered_5 (by decide) (Eq.refl _) tk_12 (fun c5 => ?_) (fun c5 => ?_)
      · replace hF := hF.trans (congrArg (dv_k f_X12_laysCovered_2b) (if_pos c5))
        refine lv_iconst (v := 0) hx hb dX12_laysCovered_21 (by decide) ?_
        refine lv_istore_n (lv' := [(1, .int 0), (0, .ref a0)]) hx hb dX12_laysCovered_22 rfl hl (by decide) rfl (fun ls hl => ?_)
        have r69 := mo_many hI h0
        have lp23 : ∀ (n23 : Nat) (H23 : Heap) (locs : List Loc) (ls : Array Slot) (j23_1 : Int32), th_B G Γ Γ [(59, 0)] H0 H23 locs → th_RK a0 G Γ H23 → lv_has ls 2 [(0, .ref a0), (1, .int j23_1)] → F = dv_k f_X12_laysCovered_2b (dv_lp f_X12_laysCovered_23b (dv G Γ H23, (a0 : Int), j23_1.toInt)) → 0 ≤ j23_1.toInt → j23_1.toInt ≤ 9 → mo_cw (mo_v G H0 a0 2) (mo_x G H23 a0 29) j23_1.toInt → j23_1.toInt ≤ mo_v G H0 a0 2 69 → (2147483648 : Int) - j23_1.toInt ≤ (n23 : Int) → W p l e ({ frames := 1, cells := 0, slots := 0, locals := 24 } : Room) s m ([.ref a0] : List Value).toArray below meth c H23 locs 0 0 (MQ below (th_Q (fun (v : Option Value) (H1 : Heap) => v = none ∧ th_I G Γ H1 ∧ th_F G Γ [(59, 0)] H0 H1 ∧ th_RK a0 G Γ H1 ∧ (mo_cv (mo_v G H0 a0 2) (mo_x G H1 a0 29)) ∧ (f_X12_laysCovered (dv G Γ H0) (a0 : Int) = (dv G Γ H1, 0))) G) ([.ref a0] : List Value).toArray s 0 0 (fun q => G.2.2 ≤ q)) (F0 m 23 ls []) := by
          intro n23
          induction n23 with
          | zero => intro H23 locs ls j23_1 hB hR hl hF g23_0 g23_1 g23_2 g23_3 hm23; exact absurd hm23 (by have := ti_hi j23_1; omega)
          | succ n23 ih23 =>
            intro H23 locs ls j23_1 hB hR hl hF g23_0 g23_1 g23_2 g23_3 hm23
            have lj23_1 := ti_lo j23_1; have uj23_1 := ti_hi j23_1
            have vw_H23_2 : mo_v G H23 a0 2 = mo_v G H0 a0 2 := mo_v_F (r := 48) hB.1 hB.2.2 h0 rfl ro_48 (by decide) (by decide)
            have hm23 : (2147483648 : Int) - j23_1.toInt ≤ (n23 : Int) + 1 := by omega
            replace hF := hF.trans (congrArg (dv_k f_X12_laysCovered_2b) (dv_lp_eq))
            replace hF := hF.trans (congrArg (dv_k f_X12_laysCovered_2b) (congrArg (dv_k f_X12_laysCovered_23b) (f_X12_laysCovered_23c.eq_1 (dv G Γ H23) ((a0 : Int)) (j23_1.toInt))))
            refine lv_iload_n hx hb dX12_laysCovered_23 rfl (lv_at hl 1 rfl) ?_
            refine lv_aload_n hx hb dX12_laysCovered_24 rfl (lv_at hl 0 rfl) ?_
            refine th_call (th_runV (As := []) (rest := [.int j23_1]) hC mf_X12_many km_X12_115 im_X12_many se_X12_many (c_X12_many l G Γ H23 hB.1 hU a0 h0) rfl rfl ⟨Nat.le_of_ble_eq_true rfl, Nat.le_of_ble_eq_true rfl⟩ hB.1 h0 ro_46 rfl rfl hl.1 rfl (Nat.le_of_ble_eq_true rfl) dX12_laysCovered_25 ⟨Nat.le_refl _, Nat.le_refl _⟩) hB.2.1 (fun v25 H25 locs hp hz hS => ?_)
            obtain ⟨x1, rfl, lx1, ux1, q25_0, q25_1, rfl⟩ := hp
            have hB := th_B_s hB hS
            rw [(mo_v_F (r := 48) hB.1 hB.2.2 h0 rfl ro_48 (by decide) (by decide) : mo_v G H23 a0 2 = mo_v G H0 a0 2)] at q25_0
            replace hF := hF.trans (congrArg (dv_k f_X12_laysCovered_2b) (congrArg (dv_k f_X12_laysCovered_23b) (dv_bn2 (q25_1))))
            refine W.eq (g2 := F0 m 28 ls [.int x1, .int j23_1]) rfl ?_
            refine tr_icmp_ge (tgt := 76) hx hb dX12_laysCovered_28 (by decide) (Eq.refl _) (Eq.refl _) (fun c28 => ?_) (fun c28 => ?_)
            · replace hF := hF.trans (congrArg (dv_k f_X12_laysCovered_2b) (congrArg (dv_k f_X12_laysCovered_23b) (if_pos c28)))
              replace hF := hF.trans (congrArg (dv_k f_X12_laysCovered_2b) (dv_kr))
              replace hF := hF.trans (dv_kr)
              exact th_vret hC hH hr hlocks hB.2.1 ⟨rfl, hB.1, hB.2.2, hR, (by have q9 := g23_2; rw [show j23_1.toInt = mo_v G H0 a0 2 69 by omega] at q9; exact q9), (hF0.symm.trans hF)⟩ dX12_laysCovered_76
            · replace hF := hF.trans (congrArg (dv_k f_X12_laysCovered_2b) (congrArg (dv_k f_X12_laysCovered_23b) (if_neg (Int.not_le.mpr c28))))
              refine lv_aload_n hx hb dX12_laysCovered_31 rfl (lv_at hl 0 rfl) ?_
              refine lv_iload_n hx hb dX12_laysCovered_32 rfl (lv_at hl 1 rfl) ?_
              refine th_call (th_runV (As := [.int j23_1]) (rest := []) hC mf_X12_isLaid km_X12_137 im_X12_isLaid se_X12_isLaid (c_X12_isLaid l G Γ H23 hB.1 hU a0 h0 j23_1 (by omega) (by omega)) rfl rfl ⟨Nat.le_of_ble_eq_true rfl, Nat.le_of_ble_eq_true rfl⟩ hB.1 h0 ro_46 rfl rfl hl.1 rfl (Nat.le_of_ble_eq_true rfl) dX12_laysCovered_33 ⟨Nat.le_refl _, Nat.le_refl _⟩) hB.2.1 (fun v33 H33 locs hp hz hS => ?_)
              obtain ⟨x2, rfl, lx2, ux2, q33_0, q33_1, q33_2, rfl⟩ := hp
              have hB := th_B_s hB hS
              rw [(mo_v_F (r := 48) hB.1 hB.2.2 h0 rfl ro_48 (by decide) (by decide) : mo_v G H23 a0 2 = mo_v G H0 a0 2)] at q33_0
              rw [(mo_v_F (r := 48) hB.1 hB.2.2 h0 rfl ro_48 (by decide) (by decide) : mo_v G H23 a0 2 = mo_v G H0 a0 2)] at q33_1
              replace hF := hF.trans (congrArg (dv_k f_X12_laysCovered_2b) (congrArg (dv_k f_X12_laysCovered_23b) (dv_bn2 (q33_2))))
              refine W.eq (g2 := F0 m 36 ls [.int x2]) rfl ?_
              refine tr_if_eq (tgt := 70) hx hb dX12_laysCovered_36 (by decide) (Eq.refl _) (fun c36 => ?_) (fun c36 => ?_)
              · replace hF := hF.trans (congrArg (dv_k f_X12_laysCovered_2b) (congrArg (dv_k f_X12_laysCovered_23b) (if_pos c36)))
                refine tr_iinc (fun x3 => [(1, .int x3), (0, .ref a0)]) hx hb dX12_laysCovered_70 hl (k := 1) rfl (Eq.refl _) tk_1 (by omega) (by omega) (by decide) (fun _ => rfl) (fun x3 ls ex3 hl => ?_)
                replace hF := hF.trans (congrArg (dv_k f_X12_laysCovered_2b) (congrArg (dv_k f_X12_laysCovered_23b) (dv_bn (ex3.symm))))
                have cw70 := mo_cw_n (by omega) g23_2 (q33_1 (by omega))
                refine lv_goto (tgt := 23) hx hb dX12_laysCovered_73 (by decide) ?_
                replace hF := hF.trans (congrArg (dv_k f_X12_laysCovered_2b) (dv_kl))
                exact ih23 H23 locs ls x3 hB hR (lv_sub hl [1, 0] rfl) hF (by omega) (by omega) (by rw [show x3.toInt = j23_1.toInt + 1 by omega]; exact cw70) (by omega) (by omega)
              · replace hF := hF.trans (congrArg (dv_k f_X12_laysCovered_2b) (congrArg (dv_k f_X12_laysCovered_23b) (if_neg c36)))
                refine lv_aload_n hx hb dX12_laysCovered_39 rfl (lv_at hl 0 rfl) ?_
                have ge := hR0.2.2.1.2.1 j23_1.toInt (by omega) (by omega) (q33_0 (by omega))
                have hw := mo_wide hI h0; have hh := mo_high hI h0
                refine lv_aload_n hx hb dX12_laysCovered_40 rfl (lv_at hl 0 rfl) ?_
                refine th_getO (j := 2) (r2 := 48) hC cf_X12 hB.1 h0 ro_46 rfl rfl kf_X12_28 dX12_laysCovered_41 (fun b4 mb4 hb4 => ?_)
                have sb4 := (th_F_o hB.2.2 h0 ro_46 (j := 2) (by decide) (by decide)).symm.trans mb4
                refine lv_bipush (v := 29) hx hb dX12_laysCovered_44 (by decide) ?_
                refine lv_iload_n hx hb dX12_laysCovered_46 rfl (lv_at hl 1 rfl) ?_
                refine tr_iadd hx hb dX12_laysCovered_47 tk_29 (Eq.refl _) (by omega) (by omega) (fun x5 ex5 => ?_)
                replace hF := hF.trans (congrArg (dv_k f_X12_laysCovered_2b) (congrArg (dv_k f_X12_laysCovered_23b) (dv_bn (ex5.symm))))
                refine th_ialdF hC hB.1 hb4 ro_48 rfl (Eq.refl _) (by omega) (by omega) (ek_side (by omega) (by omega)) dX12_laysCovered_48 (fun x6 mx6 lx6 ux6 => ?_)
                replace hF := hF.trans (congrArg (dv_k f_X12_laysCovered_2b) (congrArg (dv_k f_X12_laysCovered_23b) (dv_bn (dv_aldI hB.1 hU hb4 ow_48 (z := x5.toInt) mx6 (by omega)))))
                have vgx6 : mo_v G H0 a0 2 (29 + j23_1.toInt) = x6.toInt := by rw [← (mo_v_F (r := 48) hB.1 hB.2.2 h0 rfl ro_48 (by decide) (by decide) : mo_v G H23 a0 2 = _)]; rw [show ((29 + j23_1.toInt) : Int) = x5.toInt by omega]; exact mo_vat mb4 mx6 (by omega)
                refine lv_aload_n hx hb dX12_laysCovered_49 rfl (lv_at hl 0 rfl) ?_
                refine th_getK hC cf_X12 hB.1 h0 ro_46 rfl (j := 2) (by decide) mb4 kf_X12_28 dX12_laysCovered_50 ?_
                refine lv_bipush (v := 9) hx hb dX12_laysCovered_53 (by decide) ?_
                refine lv_iload_n hx hb dX12_laysCovered_55 rfl (lv_at hl 1 rfl) ?_
                refine tr_iadd hx hb dX12_laysCovered_56 tk_9 (Eq.refl _) (by omega) (by omega) (fun x7 ex7 => ?_)
                replace hF := hF.trans (congrArg (dv_k f_X12_laysCovered_2b) (congrArg (dv_k f_X12_laysCovered_23b) (dv_bn (ex7.symm))))
                refine th_ialdF hC hB.1 hb4 ro_48 rfl (Eq.refl _) (by omega) (by omega) (ek_a (by omega) (by omega)) dX12_laysCovered_57 (fun x8 mx8 lx8 ux8 => ?_)
                replace hF := hF.trans (congrArg (dv_k f_X12_laysCovered_2b) (congrArg (dv_k f_X12_laysCovered_23b) (dv_bn (dv_aldI hB.1 hU hb4 ow_48 (z := x7.toInt) mx8 (by omega)))))
                have vgx8 : mo_v G H0 a0 2 (9 + j23_1.toInt) = x8.toInt := by rw [← (mo_v_F (r := 48) hB.1 hB.2.2 h0 rfl ro_48 (by decide) (by decide) : mo_v G H23 a0 2 = _)]; rw [show ((9 + j23_1.toInt) : Int) = x7.toInt by omega]; exact mo_vat mb4 mx8 (by omega)
                refine lv_aload_n hx hb dX12_laysCovered_58 rfl (lv_at hl 0 rfl) ?_
                refine th_getK hC cf_X12 hB.1 h0 ro_46 rfl (j := 2) (by decide) mb4 kf_X12_28 dX12_laysCovered_59 ?_
                refine lv_bipush (v := 18) hx hb dX12_laysCovered_62 (by decide) ?_
                refine lv_iload_n hx hb dX12_laysCovered_64 rfl (lv_at hl 1 rfl) ?_
                refine tr_iadd hx hb dX12_laysCovered_65 tk_18 (Eq.refl _) (by omega) (by omega) (fun x9 ex9 => ?_)
                replace hF := hF.trans (congrArg (dv_k f_X12_laysCovered_2b) (congrArg (dv_k f_X12_laysCovered_23b) (dv_bn (ex9.symm))))
                refine th_ialdF hC hB.1 hb4 ro_48 rfl (Eq.refl _) (by omega) (by omega) (ek_a (by omega) (by omega)) dX12_laysCovered_66 (fun x10 mx10 lx10 ux10 => ?_)
                replace hF := hF.trans (congrArg (dv_k f_X12_laysCovered_2b) (congrArg (dv_k f_X12_laysCovered_23b) (dv_bn (dv_aldI hB.1 hU hb4 ow_48 (z := x9.toInt) mx10 (by omega)))))
                have vgx10 : mo_v G H0 a0 2 (18 + j23_1.toInt) = x10.toInt := by rw [← (mo_v_F (r := 48) hB.1 hB.2.2 h0 rfl ro_48 (by decide) (by decide) : mo_v G H23 a0 2 = _)]; rw [show ((18 + j23_1.toInt) : Int) = x9.toInt by omega]; exact mo_vat mb4 mx10 (by omega)
                refine th_call (th_runV (As := [.int x6, .int x8, .int x10]) (rest := []) hC mf_X12_turnsSquare km_X12_345 im_X12_turnsSquare se_X12_turnsSquare (c_X12_turnsSquare l G Γ H23 hB.1 hR.1 hU a0 h0 x6 (by omega) (by omega) x8 (by omega) (by omega) x10 (by omega) (by omega) (by omega)) rfl rfl ⟨Nat.le_of_ble_eq_true rfl, Nat.le_of_ble_eq_true rfl⟩ hB.1 h0 ro_46 rfl rfl hl.1 rfl (Nat.le_of_ble_eq_true rfl) dX12_laysCovered_67 ⟨Nat.le_refl _, Nat.le_refl _⟩) hB.2.1 (fun v67 H67 locs hp hz hS => ?_)
                have hRD := hR
                obtain ⟨rfl, hI1, hf, hR, z67_0, z67_1⟩ := hp
                have hR := th_RK_c hR hRD hI1 h0 hf (by decide)
                have hB := th_B_c hB hI1 hS hf (by decide)
                have mm11 := (th_F_o hf h0 ro_46 (j := 2) (by decide) (by decide)).trans mb4
                have vv_H67_2 : mo_v G H67 a0 2 = mo_v G H23 a0 2 := mo_v_F (r := 48) hB.1 hf h0 rfl ro_48 (by decide) (by decide)
                replace hF := hF.trans (congrArg (dv_k f_X12_laysCovered_2b) (congrArg (dv_k f_X12_laysCovered_23b) (dv_bn2 (z67_1))))
                refine W.eq (g2 := F0 m 70 ls []) rfl ?_
                refine tr_iinc (fun x12 => [(1, .int x12), (0, .ref a0)]) hx hb dX12_laysCovered_70 hl (k := 1) rfl (Eq.refl _) tk_1 (by omega) (by omega) (by decide) (fun _ => rfl) (fun x12 ls ex12 hl => ?_)
                replace hF := hF.trans (congrArg (dv_k f_X12_laysCovered_2b) (congrArg (dv_k f_X12_laysCovered_23b) (dv_bn (ex12.symm))))
                have cw70 := mo_cw_s (by omega) g23_2 (q33_0 (by omega)) vgx6 vgx8 vgx10 (by omega) (by omega) (by omega) (by omega) z67_0
                refine lv_goto (tgt := 23) hx hb dX12_laysCovered_73 (by decide) ?_
                replace hF := hF.trans (congrArg (dv_k f_X12_laysCovered_2b) (dv_kl))
                exact ih23 H67 locs ls x12 hB hR (lv_sub hl [1, 0] rfl) hF (by omega) (by omega) (by rw [show x12.toInt = j23_1.toInt + 1 by omega]; exact cw70) (by omega) (by omega)
        exact lp23 ((2147483648 : Int) - (0)).toNat H2 locs ls 0 hB hR (lv_sub hl [1, 0] rfl) (by rw [tk_0]; exact hF) (by decide) (by decide) (by rw [show ((0 : Int32).toInt : Int) = 0 from rfl]; exact mo_cw_0 (fun z a9 b9 => g2_2 z a9 (by omega))) (by have w0 := tk_0; omega) (by have w0 := tk_0; omega)
      · replace hF := hF.trans (congrArg (dv_k f_X12_laysCovered_2b) (if_neg (Int.not_le.mpr c5)))
        refine lv_aload_n hx hb dX12_laysCovered_8 rfl (lv_at hl 0 rfl) ?_
        refine th_getO (j := 29) (r2 := 59) hC cf_X12 hB.1 h0 ro_46 rfl rfl kf_X12_66 dX12_laysCovered_9 (fun b13 mb13 hb13 => ?_)
        have sb13 := (th_F_o hB.2.2 h0 ro_46 (j := 29) (by decide) (by decide)).symm.trans mb13
        refine lv_iload_n hx hb dX12_laysCovered_12 rfl (lv_at hl 1 rfl) ?_
        refine lv_iconst (v := 0) hx hb dX12_laysCovered_13 (by decide) ?_
        have hIo := hB.1
        refine th_iastF hC hB hb13 (Or.inl hb13) ro_59 rfl (by decide) (Eq.refl _) (by omega) (by omega) th_sIa dX12_laysCovered_14 (fun H14 locs hB hf14 hst14 => ?_)
        have hf := hf14
        have mm14 := (th_F_o hf h0 ro_46 (j := 29) (by decide) (by decide)).trans mb13
        have hR := th_RK_F hB.1 hR h0 hf (th_T_s hb13 ro_59 hst14) (by decide)
        have vv_H14_2 : mo_v G H14 a0 2 = mo_v G H2 a0 2 := mo_v_F (r := 48) hB.1 hf h0 rfl ro_48 (by decide) (by decide)
        replace hF := hF.trans (congrArg (dv_k f_X12_laysCovered_2b) (dv_bn (dv_stoI hIo hB.1 hU hb13 ow_59 (i := j2_1.toInt) hst14 tk_0 (by omega))))
        have vs14 : mo_x G H14 a0 29 = mo_u (mo_x G H2 a0 29) j2_1.toInt 0 := by rw [show (j2_1.toInt : Int) = j2_1.toInt by omega]; exact mo_x_st h0 hb13 (by decide) mb13 hst14 (by omega)
        refine tr_iinc (fun x15 => [(1, .int x15), (0, .ref a0)]) hx hb dX12_laysCovered_15 hl (k := 1) rfl (Eq.refl _) tk_1 (by omega) (by omega) (by decide) (fun _ => rfl) (fun x15 ls ex15 hl => ?_)
        replace hF := hF.trans (congrArg (dv_k f_X12_laysCovered_2b) (dv_bn (ex15.symm)))
        refine lv_goto (tgt := 2) hx hb dX12_laysCovered_18 (by decide) ?_
        replace hF := hF.trans (dv_kl)
        exact ih2 H14 locs ls x15 hB hR (lv_sub hl [1, 0] rfl) hF (by omega) (by omega) (fun z a9 b9 => by rw [vs14]; by_cases q9 : z = j2_1.toInt; rw [mo_us q9]; rw [mo_un q9]; exact g2_2 z a9 (by omega)) (by omega)
  exact lp2 ((2147483648 : Int) - (0)).toNat H0 [] ls 0 hB hR (lv_sub hl [1, 0] rfl) (by rw [tk_0]; exact hF) (by decide) (by decide) (fun z a9 b9 => by have w0 := tk_0; omega) (by have w0 := tk_0; omega)

set_option maxHeartbeats 4000000 in
set_option maxRecDepth 100000 in
theorem c_X12_canLay (l : Launch) (G : th_G) (Γ : th_Ga) (H0 : Heap) (hI : th_I G Γ H0) (hU : dv_U Γ) (a0 : Nat) (h0 : Γ a0 = (46, 0)) (hR : th_RK a0 G Γ H0) (p1 : Int32) (f1 : 0 ≤ p1.toInt) (g1 : p1.toInt ≤ 8) (p2 : Int32) (f2 : 0 ≤ p2.toInt) (g2 : p2.toInt ≤ 11) (p3 : Int32) (f3 : 0 ≤ p3.toInt) (g3 : p3.toInt ≤ 11) (k1 : p1.toInt < mo_v G H0 a0 2 69) : Met l yX12_canLay (.code yX12_canLay cX12_canLay 4 (some FieldType.boolean) :: th_tb) ({ frames := 52, cells := 0, slots := 0, locals := 1650 } : Room) (th_P [.ref a0, .int p1, .int p2, .int p3] G H0) (th_Q (fun (v : Option Value) (H1 : Heap) => ∃ r : Int32, v = some (.int r) ∧ 0 ≤ r.toInt ∧ r.toInt ≤ 1 ∧ (r.toInt = 1 → mo_v G H0 a0 2 (9 + p1.toInt) = -1 ∧ mo_fr (mo_v G H0 a0 2) p1.toInt p2.toInt p3.toInt) ∧ th_I G Γ H1 ∧ th_F G Γ [(59, 0), (46, 22), (46, 24), (58, 0), (46, 23), (46, 25)] H0 H1 ∧ th_RK a0 G Γ H1 ∧ (f_X12_canLay (dv G Γ H0) (a0 : Int) p1.toInt p2.toInt p3.toInt = (dv G Γ H1, r.toInt))) G) 0 0 (fun q => G.2.2 ≤ q) := by
  refine th_met RX12 (by decide) rfl (Nat.le_of_ble_eq_true rfl) ?_
  intro p e s m below meth c hC hH hr hlocks hnm ls hl
  have hx := hC.1
  have hb := hC.2.1
  have hB : th_B G Γ Γ [(59, 0), (46, 22), (46, 24), (58, 0), (46, 23), (46, 25)] H0 H0 [] := ⟨hI, va_S.rf, th_F_rf⟩
  have hl : lv_has ls 4 [(0, .ref a0), (1, .int p1), (2, .int p2), (3, .int p3)] := hl
  have lp1 := ti_lo p1; have up1 := ti_hi p1
  have lp2 := ti_lo p2; have up2 := ti_hi p2
  have lp3 := ti_lo p3; have up3 := ti_hi p3
  obtain ⟨F, hF0⟩ : ∃ F, F = f_X12_canLay (dv G Γ H0) ((a0 : Int)) (p1.toInt) (p2.toInt) (p3.toInt) := ⟨_, rfl⟩
  have hF := hF0.trans (f_X12_canLay.eq_1 (dv G Γ H0) ((a0 : Int)) (p1.toInt) (p2.toInt) (p3.toInt))
  refine lv_aload_n hx hb dX12_canLay_0 rfl (lv_at hl 0 rfl) ?_
  have hR0 := hR
  refine lv_iload_n hx hb dX12_canLay_1 rfl (lv_at hl 1 rfl) ?_
  refine th_call (th_runV (As := [.int p1]) (rest := []) hC mf_X12_isLaid km_X12_137 im_X12_isLaid se_X12_isLaid (c_X12_isLaid l G Γ H0 hB.1 hU a0 h0 p1 (by omega) (by omega)) rfl rfl ⟨Nat.le_of_ble_eq_true rfl, Nat.le_of_ble_eq_true rfl⟩ hB.1 h0 ro_46 rfl rfl hl.1 rfl (Nat.le_of_ble_eq_true rfl) dX12_canLay_2 ⟨Nat.le_refl _, Nat.le_refl _⟩) hB.2.1 (fun v2 H2 locs hp hz hS => ?_)
  obtain ⟨x1, rfl, lx1, ux1, q2_0, q2_1, q2_2, rfl⟩ := hp
  have hB := th_B_s hB hS
  replace hF := hF.trans (dv_bn2 (q2_2))
  refine W.eq (g2 := F0 m 5 ls [.int x1]) rfl ?_
  refine tr_if_ne (tgt := 16) hx hb dX12_canLay_5 (by decide) (Eq.refl _) (fun c5 => ?_) (fun c5 => ?_)
  · replace hF := hF.trans (if_pos c5)
    refine lv_iconst (v := 0) hx hb dX12_canLay_16 (by decide) ?_
    exact th_iret hC hH hr hlocks narrow_b0 hB.2.1 ⟨_, rfl, by decide, by decide, fun h9 => absurd h9 (by decide), hB.1, hB.2.2, hR, (hF0.symm.trans (hF.trans (by rw [tk_0])))⟩ dX12_canLay_17
  · replace hF := hF.trans (if_neg (not_not_intro c5))
    refine lv_aload_n hx hb dX12_canLay_8 rfl (lv_at hl 0 rfl) ?_
    refine lv_iload_n hx hb dX12_canLay_9 rfl (lv_at hl 1 rfl) ?_
    refine th_call (th_runV (As := [.int p1]) (rest := []) hC mf_X12_isWhole km_X12_357 im_X12_isWhole se_X12_isWhole (c_X12_isWhole l G Γ H0 hB.1 hU a0 h0 p1 (by omega) (by omega)) rfl rfl ⟨Nat.le_of_ble_eq_true rfl, Nat.le_of_ble_eq_true rfl⟩ hB.1 h0 ro_46 rfl rfl hl.1 rfl (Nat.le_of_ble_eq_true rfl) dX12_canLay_10 ⟨Nat.le_refl _, Nat.le_refl _⟩) hB.2.1 (fun v10 H10 locs hp hz hS => ?_)
    obtain ⟨x2, rfl, lx2, ux2, q10_0, rfl⟩ := hp
    have hB := th_B_s hB hS
    replace hF := hF.trans (dv_bn2 (q10_0))
    refine W.eq (g2 := F0 m 13 ls [.int x2]) rfl ?_
    refine tr_if_ne (tgt := 18) hx hb dX12_canLay_13 (by decide) (Eq.refl _) (fun c13 => ?_) (fun c13 => ?_)
    · replace hF := hF.trans (if_pos c13)
      refine lv_aload_n hx hb dX12_canLay_18 rfl (lv_at hl 0 rfl) ?_
      have q1_1x := q2_1 (by omega)
      refine th_call (th_runV (As := []) (rest := []) hC mf_X12_laysCovered km_X12_351 im_X12_laysCovered se_X12_laysCovered (c_X12_laysCovered l G Γ H0 hB.1 hU a0 h0 hR) rfl rfl ⟨Nat.le_of_ble_eq_true rfl, Nat.le_of_ble_eq_true rfl⟩ hB.1 h0 ro_46 rfl rfl hl.1 rfl (Nat.le_of_ble_eq_true rfl) dX12_canLay_19 ⟨Nat.le_refl _, Nat.le_refl _⟩) hB.2.1 (fun v19 H19 locs hp hz hS => ?_)
      obtain ⟨rfl, hI1, hf, hR, z19_0, z19_1⟩ := hp
      have hB := th_B_c hB hI1 hS hf (by decide)
      have vv_H19_2 : mo_v G H19 a0 2 = mo_v G H0 a0 2 := mo_v_F (r := 48) hB.1 hf h0 rfl ro_48 (by decide) (by decide)
      replace hF := hF.trans (dv_bn2 (z19_1))
      refine W.eq (g2 := F0 m 22 ls []) rfl ?_
      refine lv_aload_n hx hb dX12_canLay_22 rfl (lv_at hl 0 rfl) ?_
      refine lv_aload_n hx hb dX12_canLay_23 rfl (lv_at hl 0 rfl) ?_
      refine th_getO (j := 2) (r2 := 48) hC cf_X12 hB.1 h0 ro_46 rfl rfl kf_X12_28 dX12_canLay_24 (fun b3 mb3 hb3 => ?_)
      have sb3 := (th_F_o hB.2.2 h0 ro_46 (j := 2) (by decide) (by decide)).symm.trans mb3
      refine lv_bipush (v := 29) hx hb dX12_canLay_27 (by decide) ?_
      refine lv_iload_n hx hb dX12_canLay_29 rfl (lv_at hl 1 rfl) ?_
      refine tr_iadd hx hb dX12_canLay_30 tk_29 (Eq.refl _) (by omega) (by omega) (fun x4 ex4 => ?_)
      replace hF := hF.trans (dv_bn (ex4.symm))
      refine th_ialdF hC hB.1 hb3 ro_48 rfl (Eq.refl _) (by omega) (by omega) (ek_side (by omega) (by omega)) dX12_canLay_31 (fun x5 mx5 lx5 ux5 => ?_)
      replace hF := hF.trans (dv_bn (dv_aldI hB.1 hU hb3 ow_48 (z := x4.toInt) mx5 (by omega)))
      have vgx5 : mo_v G H0 a0 2 (29 + p1.toInt) = x5.toInt := by rw [← (mo_v_F (r := 48) hB.1 hB.2.2 h0 rfl ro_48 (by decide) (by decide) : mo_v G H19 a0 2 = _)]; rw [show ((29 + p1.toInt) : Int) = x4.toInt by omega]; exact mo_vat mb3 mx5 (by omega)
      refine lv_iload_n hx hb dX12_canLay_32 rfl (lv_at hl 2 rfl) ?_
      refine lv_iload_n hx hb dX12_canLay_33 rfl (lv_at hl 3 rfl) ?_
      refine lv_aload_n hx hb dX12_canLay_34 rfl (lv_at hl 0 rfl) ?_
      refine th_getK hC cf_X12 hB.1 h0 ro_46 rfl (j := 2) (by decide) mb3 kf_X12_28 dX12_canLay_35 ?_
      refine lv_bipush (v := 67) hx hb dX12_canLay_38 (by decide) ?_
      refine th_ialdF hC hB.1 hb3 ro_48 rfl tk_67 (by omega) (by omega) (ek_hall (by omega) (by omega)) dX12_canLay_40 (fun x6 mx6 lx6 ux6 => ?_)
      replace hF := hF.trans (dv_bn (dv_aldI hB.1 hU hb3 ow_48 (z := 67) mx6 (by omega)))
      have vgx6 : mo_v G H0 a0 2 67 = x6.toInt := by rw [← (mo_v_F (r := 48) hB.1 hB.2.2 h0 rfl ro_48 (by decide) (by decide) : mo_v G H19 a0 2 = _)]; rw [show (67 : Int) = 67 by omega]; exact mo_vat mb3 mx6 (by omega)
      refine lv_aload_n hx hb dX12_canLay_41 rfl (lv_at hl 0 rfl) ?_
      refine th_getK hC cf_X12 hB.1 h0 ro_46 rfl (j := 2) (by decide) mb3 kf_X12_28 dX12_canLay_42 ?_
      refine lv_bipush (v := 68) hx hb dX12_canLay_45 (by decide) ?_
      refine th_ialdF hC hB.1 hb3 ro_48 rfl tk_68 (by omega) (by omega) (ek_hall (by omega) (by omega)) dX12_canLay_47 (fun x7 mx7 lx7 ux7 => ?_)
      replace hF := hF.trans (dv_bn (dv_aldI hB.1 hU hb3 ow_48 (z := 68) mx7 (by omega)))
      have vgx7 : mo_v G H0 a0 2 68 = x7.toInt := by rw [← (mo_v_F (r := 48) hB.1 hB.2.2 h0 rfl ro_48 (by decide) (by decide) : mo_v G H19 a0 2 = _)]; rw [show (68 : Int) = 68 by omega]; exact mo_vat mb3 mx7 (by omega)
      refine th_call (th_runV (As := [.int x5, .int p2, .int p3, .int x6, .int x7]) (rest := []) hC mf_X12_isFree km_X12_360 im_X12_isFree se_X12_isFree (c_X12_isFree l G Γ H19 hB.1 hU a0 h0 x5 (by omega) (by omega) p2 (by omega) (by omega) p3 (by omega) (by omega) x6 (by omega) (by omega) x7 (by omega) (by omega)) rfl rfl ⟨Nat.le_of_ble_eq_true rfl, Nat.le_of_ble_eq_true rfl⟩ hB.1 h0 ro_46 rfl rfl hl.1 rfl (Nat.le_of_ble_eq_true rfl) dX12_canLay_48 ⟨Nat.le_refl _, Nat.le_refl _⟩) hB.2.1 (fun v48 H48 locs hp hz hS => ?_)
      obtain ⟨x8, rfl, lx8, ux8, q48_0, q48_1, q48_2, rfl⟩ := hp
      have hB := th_B_s hB hS
      replace hF := hF.trans (dv_bn2 (q48_2))
      refine W.eq (g2 := F0 m 51 ls [.int x8]) rfl ?_
      refine tr_if_eq (tgt := 68) hx hb dX12_canLay_51 (by decide) (Eq.refl _) (fun c51 => ?_) (fun c51 => ?_)
      · replace hF := hF.trans (if_pos c51)
        refine lv_iconst (v := 0) hx hb dX12_canLay_68 (by decide) ?_
        exact th_iret hC hH hr hlocks narrow_b0 hB.2.1 ⟨_, rfl, by decide, by decide, fun h9 => absurd h9 (by decide), hB.1, hB.2.2, hR, (hF0.symm.trans (hF.trans (by rw [tk_0])))⟩ dX12_canLay_69
      · replace hF := hF.trans (if_neg c51)
        refine lv_aload_n hx hb dX12_canLay_54 rfl (lv_at hl 0 rfl) ?_
        have q48x : ∀ z : Int, p3.toInt ≤ z → z < p3.toInt + x5.toInt → mo_x G H19 a0 29 z &&& mo_mk x5 p2 = 0 := q48_1 (by omega)
        have q48f := q48_0 (by omega)
        refine lv_iload_n hx hb dX12_canLay_55 rfl (lv_at hl 1 rfl) ?_
        refine lv_iload_n hx hb dX12_canLay_56 rfl (lv_at hl 2 rfl) ?_
        refine lv_iload_n hx hb dX12_canLay_57 rfl (lv_at hl 3 rfl) ?_
        refine th_call (th_runV (As := [.int p1, .int p2, .int p3]) (rest := []) hC mf_X12_isBarred km_X12_156 im_X12_isBarred se_X12_isBarred (c_X12_isBarred l G Γ H19 hB.1 hU a0 h0 (th_KE hR) p1 (by omega) (by omega) p2 p3) rfl rfl ⟨Nat.le_of_ble_eq_true rfl, Nat.le_of_ble_eq_true rfl⟩ hB.1 h0 ro_46 rfl rfl hl.1 rfl (Nat.le_of_ble_eq_true rfl) dX12_canLay_58 ⟨Nat.le_refl _, Nat.le_refl _⟩) hB.2.1 (fun v58 H58 locs hp hz hS => ?_)
        have hRD := hR
        obtain ⟨x9, rfl, lx9, ux9, hI1, hf, hR, z58_0⟩ := hp
        have hR := th_RK_c hR.1 hRD hI1 h0 hf (by decide)
        have hB := th_B_c hB hI1 hS hf (by decide)
        have mm10 := (th_F_o hf h0 ro_46 (j := 2) (by decide) (by decide)).trans mb3
        have vv_H58_2 : mo_v G H58 a0 2 = mo_v G H19 a0 2 := mo_v_F (r := 48) hB.1 hf h0 rfl ro_48 (by decide) (by decide)
        replace hF := hF.trans (dv_bn2 (z58_0))
        refine W.eq (g2 := F0 m 61 ls [.int x9]) rfl ?_
        refine tr_if_ne (tgt := 68) hx hb dX12_canLay_61 (by decide) (Eq.refl _) (fun c61 => ?_) (fun c61 => ?_)
        · replace hF := hF.trans (if_pos c61)
          refine lv_iconst (v := 0) hx hb dX12_canLay_68 (by decide) ?_
          exact th_iret hC hH hr hlocks narrow_b0 hB.2.1 ⟨_, rfl, by decide, by decide, fun h9 => absurd h9 (by decide), hB.1, hB.2.2, hR, (hF0.symm.trans (hF.trans (by rw [tk_0])))⟩ dX12_canLay_69
        · replace hF := hF.trans (if_neg (not_not_intro c61))
          refine lv_iconst (v := 1) hx hb dX12_canLay_64 (by decide) ?_
          refine lv_goto (tgt := 69) hx hb dX12_canLay_65 (by decide) ?_
          exact th_iret hC hH hr hlocks narrow_b1 hB.2.1 ⟨_, rfl, by decide, by decide, fun _ => ⟨q1_1x, mo_fr_of hR0.2.2.1 (mo_wide hI h0).2 (mo_high hI h0).2 (mo_many hI h0).1 z19_0 (by omega) (hR0.2.2.2.2.2 p1.toInt (by omega) (by omega)) (by omega) (by omega) (by omega) (by omega) (by omega) q48x⟩, hB.1, hB.2.2, hR, (hF0.symm.trans (hF.trans (by rw [tk_1])))⟩ dX12_canLay_69
    · replace hF := hF.trans (if_neg (not_not_intro c13))
      refine lv_iconst (v := 0) hx hb dX12_canLay_16 (by decide) ?_
      exact th_iret hC hH hr hlocks narrow_b0 hB.2.1 ⟨_, rfl, by decide, by decide, fun h9 => absurd h9 (by decide), hB.1, hB.2.2, hR, (hF0.symm.trans (hF.trans (by rw [tk_0])))⟩ dX12_canLay_17

set_option maxHeartbeats 4000000 in
set_option maxRecDepth 100000 in
theorem c_X12_rolls (l : Launch) (G : th_G) (Γ : th_Ga) (H0 : Heap) (hI : th_I G Γ H0) (hU : dv_U Γ) (a0 : Nat) (h0 : Γ a0 = (46, 0)) (hR : th_RE a0 G Γ H0) (p1 : Int32) (f1 : 0 ≤ p1.toInt) (g1 : p1.toInt ≤ 8) : Met l yX12_rolls (.code yX12_rolls cX12_rolls 2 (none) :: th_tb) ({ frames := 0, cells := 0, slots := 0, locals := 0 } : Room) (th_P [.ref a0, .int p1] G H0) (th_Q (fun (v : Option Value) (H1 : Heap) => v = none ∧ th_I G Γ H1 ∧ th_F G Γ [(48, 0)] H0 H1 ∧ th_RE a0 G Γ H1 ∧ (mo_v G H1 a0 2 = mo_u (mo_u (mo_v G H0 a0 2) (9 + p1.toInt) (-1)) (18 + p1.toInt) (-1)) ∧ (f_X12_rolls (dv G Γ H0) (a0 : Int) p1.toInt = (dv G Γ H1, 0))) G) 0 0 (fun q => G.2.2 ≤ q) := by
  refine th_met RX12 (by decide) rfl (Nat.le_of_ble_eq_true rfl) ?_
  intro p e s m below meth c hC hH hr hlocks hnm ls hl
  have hx := hC.1
  have hb := hC.2.1
  have hB : th_B G Γ Γ [(48, 0)] H0 H0 [] := ⟨hI, va_S.rf, th_F_rf⟩
  have hl : lv_has ls 2 [(0, .ref a0), (1, .int p1)] := hl
  have lp1 := ti_lo p1; have up1 := ti_hi p1
  obtain ⟨F, hF0⟩ : ∃ F, F = f_X12_rolls (dv G Γ H0) ((a0 : Int)) (p1.toInt) := ⟨_, rfl⟩
  have hF := hF0.trans (f_X12_rolls.eq_1 (dv G Γ H0) ((a0 : Int)) (p1.toInt))
  refine lv_aload_n hx hb dX12_rolls_0 rfl (lv_at hl 0 rfl) ?_
  refine th_getO (j := 2) (r2 := 48) hC cf_X12 hB.1 h0 ro_46 rfl rfl kf_X12_28 dX12_rolls_1 (fun b1 mb1 hb1 => ?_)
  refine lv_bipush (v := 9) hx hb dX12_rolls_4 (by decide) ?_
  refine lv_iload_n hx hb dX12_rolls_6 rfl (lv_at hl 1 rfl) ?_
  refine tr_iadd hx hb dX12_rolls_7 tk_9 (Eq.refl _) (by omega) (by omega) (fun x2 ex2 => ?_)
  replace hF := hF.trans (dv_bn (ex2.symm))
  refine lv_iconst (v := (-1)) hx hb dX12_rolls_8 (by decide) ?_
  have hIo := hB.1
  refine th_iastF hC hB hb1 (Or.inl hb1) ro_48 rfl (by decide) (Eq.refl _) (by omega) (by omega) (by rw [(ek_a (by omega) (by omega))]; exact th_sIa) dX12_rolls_9 (fun H9 locs hB hf9 hst9 => ?_)
  have hf := hf9
  have mm3 := (th_F_o hf h0 ro_46 (j := 2) (by decide) (by decide)).trans mb1
  have hRC := th_RC_F hB.1 hR.1 hf (th_T_s hb1 ro_48 hst9) (by decide)
  replace hF := hF.trans (dv_bn (dv_stoI hIo hB.1 hU hb1 ow_48 (i := x2.toInt) hst9 tk_m1 (by omega)))
  have vs9 : mo_v G H9 a0 2 = mo_u (mo_v G H0 a0 2) (9 + p1.toInt) (-1) := by rw [show ((9 + p1.toInt) : Int) = x2.toInt by omega]; exact mo_v_st h0 hb1 (by decide) mb1 hst9 (by omega)
  have hR := th_RE_st hB.1 hR h0 hb1 mb1 hf9 hst9 (by omega) (by omega)
  refine lv_aload_n hx hb dX12_rolls_10 rfl (lv_at hl 0 rfl) ?_
  refine th_getK hC cf_X12 hB.1 h0 ro_46 rfl (j := 2) (by decide) mm3 kf_X12_28 dX12_rolls_11 ?_
  refine lv_bipush (v := 18) hx hb dX12_rolls_14 (by decide) ?_
  refine lv_iload_n hx hb dX12_rolls_16 rfl (lv_at hl 1 rfl) ?_
  refine tr_iadd hx hb dX12_rolls_17 tk_18 (Eq.refl _) (by omega) (by omega) (fun x4 ex4 => ?_)
  replace hF := hF.trans (dv_bn (ex4.symm))
  refine lv_iconst (v := (-1)) hx hb dX12_rolls_18 (by decide) ?_
  have hIo := hB.1
  refine th_iastF hC hB hb1 (Or.inl hb1) ro_48 rfl (by decide) (Eq.refl _) (by omega) (by omega) (by rw [(ek_a (by omega) (by omega))]; exact th_sIa) dX12_rolls_19 (fun H19 locs hB hf19 hst19 => ?_)
  have hf := hf19
  have mm5 := (th_F_o hf h0 ro_46 (j := 2) (by decide) (by decide)).trans mm3
  have hRC := th_RC_F hB.1 hR.1 hf (th_T_s hb1 ro_48 hst19) (by decide)
  replace hF := hF.trans (dv_bn (dv_stoI hIo hB.1 hU hb1 ow_48 (i := x4.toInt) hst19 tk_m1 (by omega)))
  have vs19 : mo_v G H19 a0 2 = mo_u (mo_v G H9 a0 2) (18 + p1.toInt) (-1) := by rw [show ((18 + p1.toInt) : Int) = x4.toInt by omega]; exact mo_v_st h0 hb1 (by decide) mm3 hst19 (by omega)
  have hR := th_RE_st hB.1 hR h0 hb1 mm3 hf19 hst19 (by omega) (by omega)
  exact th_vret hC hH hr hlocks hB.2.1 ⟨rfl, hB.1, hB.2.2, hR, by rw [vs19, vs9], (hF0.symm.trans hF)⟩ dX12_rolls_20

set_option maxHeartbeats 4000000 in
set_option maxRecDepth 100000 in
theorem c_X12_laysAt (l : Launch) (G : th_G) (Γ : th_Ga) (H0 : Heap) (hI : th_I G Γ H0) (hU : dv_U Γ) (a0 : Nat) (h0 : Γ a0 = (46, 0)) (hR : th_RE a0 G Γ H0) (p1 : Int32) (f1 : 0 ≤ p1.toInt) (g1 : p1.toInt ≤ 8) (p2 : Int32) (p3 : Int32) : Met l yX12_laysAt (.code yX12_laysAt cX12_laysAt 5 (some FieldType.int) :: th_tb) ({ frames := 52, cells := 0, slots := 0, locals := 1650 } : Room) (th_P [.ref a0, .int p1, .int p2, .int p3] G H0) (th_Q (fun (v : Option Value) (H1 : Heap) => ∃ r : Int32, v = some (.int r) ∧ 0 ≤ r.toInt ∧ r.toInt ≤ 99 ∧ th_I G Γ H1 ∧ th_F G Γ [(48, 0), (46, 22), (46, 24), (58, 0), (46, 23), (46, 25)] H0 H1 ∧ th_RE a0 G Γ H1 ∧ (∀ i : Int, i ≠ 27 → mo_v G H1 a0 2 i = mo_u (mo_u (mo_v G H0 a0 2) (9 + p1.toInt) p2.toInt) (18 + p1.toInt) p3.toInt i) ∧ (f_X12_laysAt (dv G Γ H0) (a0 : Int) p1.toInt p2.toInt p3.toInt = (dv G Γ H1, r.toInt))) G) 0 0 (fun q => G.2.2 ≤ q) := by
  refine th_met RX12 (by decide) rfl (Nat.le_of_ble_eq_true rfl) ?_
  intro p e s m below meth c hC hH hr hlocks hnm ls hl
  have hx := hC.1
  have hb := hC.2.1
  have hB : th_B G Γ Γ [(48, 0), (46, 22), (46, 24), (58, 0), (46, 23), (46, 25)] H0 H0 [] := ⟨hI, va_S.rf, th_F_rf⟩
  have hl : lv_has ls 5 [(0, .ref a0), (1, .int p1), (2, .int p2), (3, .int p3)] := hl
  have lp1 := ti_lo p1; have up1 := ti_hi p1
  have lp2 := ti_lo p2; have up2 := ti_hi p2
  have lp3 := ti_lo p3; have up3 := ti_hi p3
  obtain ⟨F, hF0⟩ : ∃ F, F = f_X12_laysAt (dv G Γ H0) ((a0 : Int)) (p1.toInt) (p2.toInt) (p3.toInt) := ⟨_, rfl⟩
  have hF := hF0.trans (f_X12_laysAt.eq_1 (dv G Γ H0) ((a0 : Int)) (p1.toInt) (p2.toInt) (p3.toInt))
  refine lv_aload_n hx hb dX12_laysAt_0 rfl (lv_at hl 0 rfl) ?_
  refine lv_iload_n hx hb dX12_laysAt_1 rfl (lv_at hl 1 rfl) ?_
  refine lv_iload_n hx hb dX12_laysAt_2 rfl (lv_at hl 2 rfl) ?_
  refine lv_iload_n hx hb dX12_laysAt_3 rfl (lv_at hl 3 rfl) ?_
  refine th_call (th_runV (As := [.int p1, .int p2, .int p3]) (rest := []) hC mf_X12_costsAt km_X12_152 im_X12_costsAt se_X12_costsAt (c_X12_costsAt l G Γ H0 hB.1 hU a0 h0 hR p1 (by omega) (by omega) p2 p3) rfl rfl ⟨Nat.le_of_ble_eq_true rfl, Nat.le_of_ble_eq_true rfl⟩ hB.1 h0 ro_46 rfl rfl hl.1 rfl (Nat.le_of_ble_eq_true rfl) dX12_laysAt_4 ⟨Nat.le_refl _, Nat.le_refl _⟩) hB.2.1 (fun v4 H4 locs hp hz hS => ?_)
  obtain ⟨x1, rfl, lx1, ux1, hI1, hf, hR, z4_0⟩ := hp
  have hB := th_B_c hB hI1 hS hf (by decide)
  have vv_H4_2 : mo_v G H4 a0 2 = mo_v G H0 a0 2 := mo_v_F (r := 48) hB.1 hf h0 rfl ro_48 (by decide) (by decide)
  replace hF := hF.trans (dv_bn2 (z4_0))
  refine W.eq (g2 := F0 m 7 ls [.int x1]) rfl ?_
  refine lv_istore (lv' := [(4, .int x1), (0, .ref a0), (1, .int p1), (2, .int p2), (3, .int p3)]) hx hb dX12_laysAt_7 hl (by decide) rfl (fun ls hl => ?_)
  refine lv_aload_n hx hb dX12_laysAt_9 rfl (lv_at hl 1 rfl) ?_
  refine th_getO (j := 2) (r2 := 48) hC cf_X12 hB.1 h0 ro_46 rfl rfl kf_X12_28 dX12_laysAt_10 (fun b2 mb2 hb2 => ?_)
  have sb2 := (th_F_o hB.2.2 h0 ro_46 (j := 2) (by decide) (by decide)).symm.trans mb2
  refine lv_bipush (v := 9) hx hb dX12_laysAt_13 (by decide) ?_
  refine lv_iload_n hx hb dX12_laysAt_15 rfl (lv_at hl 2 rfl) ?_
  refine tr_iadd hx hb dX12_laysAt_16 tk_9 (Eq.refl _) (by omega) (by omega) (fun x3 ex3 => ?_)
  replace hF := hF.trans (dv_bn (ex3.symm))
  refine lv_iload_n hx hb dX12_laysAt_17 rfl (lv_at hl 3 rfl) ?_
  have hIo := hB.1
  refine th_iastF hC hB hb2 (Or.inl hb2) ro_48 rfl (by decide) (Eq.refl _) (by omega) (by omega) (by rw [(ek_a (by omega) (by omega))]; exact th_sIa) dX12_laysAt_18 (fun H18 locs hB hf18 hst18 => ?_)
  have hf := hf18
  have mm4 := (th_F_o hf h0 ro_46 (j := 2) (by decide) (by decide)).trans mb2
  have hRC := th_RC_F hB.1 hR.1 hf (th_T_s hb2 ro_48 hst18) (by decide)
  replace hF := hF.trans (dv_bn (dv_stoI hIo hB.1 hU hb2 ow_48 (i := x3.toInt) hst18 (Eq.refl _) (by omega)))
  have vs18 : mo_v G H18 a0 2 = mo_u (mo_v G H4 a0 2) (9 + p1.toInt) p2.toInt := by rw [show ((9 + p1.toInt) : Int) = x3.toInt by omega]; exact mo_v_st h0 hb2 (by decide) mb2 hst18 (by omega)
  have hR := th_RE_st hB.1 hR h0 hb2 mb2 hf18 hst18 (by omega) (by omega)
  refine lv_aload_n hx hb dX12_laysAt_19 rfl (lv_at hl 1 rfl) ?_
  refine th_getK hC cf_X12 hB.1 h0 ro_46 rfl (j := 2) (by decide) mm4 kf_X12_28 dX12_laysAt_20 ?_
  refine lv_bipush (v := 18) hx hb dX12_laysAt_23 (by decide) ?_
  refine lv_iload_n hx hb dX12_laysAt_25 rfl (lv_at hl 2 rfl) ?_
  refine tr_iadd hx hb dX12_laysAt_26 tk_18 (Eq.refl _) (by omega) (by omega) (fun x5 ex5 => ?_)
  replace hF := hF.trans (dv_bn (ex5.symm))
  refine lv_iload_n hx hb dX12_laysAt_27 rfl (lv_at hl 4 rfl) ?_
  have hIo := hB.1
  refine th_iastF hC hB hb2 (Or.inl hb2) ro_48 rfl (by decide) (Eq.refl _) (by omega) (by omega) (by rw [(ek_a (by omega) (by omega))]; exact th_sIa) dX12_laysAt_28 (fun H28 locs hB hf28 hst28 => ?_)
  have hf := hf28
  have mm6 := (th_F_o hf h0 ro_46 (j := 2) (by decide) (by decide)).trans mm4
  have hRC := th_RC_F hB.1 hR.1 hf (th_T_s hb2 ro_48 hst28) (by decide)
  replace hF := hF.trans (dv_bn (dv_stoI hIo hB.1 hU hb2 ow_48 (i := x5.toInt) hst28 (Eq.refl _) (by omega)))
  have vs28 : mo_v G H28 a0 2 = mo_u (mo_v G H18 a0 2) (18 + p1.toInt) p3.toInt := by rw [show ((18 + p1.toInt) : Int) = x5.toInt by omega]; exact mo_v_st h0 hb2 (by decide) mm4 hst28 (by omega)
  have hR := th_RE_st hB.1 hR h0 hb2 mm4 hf28 hst28 (by omega) (by omega)
  refine lv_aload_n hx hb dX12_laysAt_29 rfl (lv_at hl 1 rfl) ?_
  refine th_getK hC cf_X12 hB.1 h0 ro_46 rfl (j := 2) (by decide) mm6 kf_X12_28 dX12_laysAt_30 ?_
  refine lv_bipush (v := 27) hx hb dX12_laysAt_33 (by decide) ?_
  refine lv_sipush (v := 9999) hx hb dX12_laysAt_35 (by decide) ?_
  refine lv_aload_n hx hb dX12_laysAt_38 rfl (lv_at hl 1 rfl) ?_
  refine th_getK hC cf_X12 hB.1 h0 ro_46 rfl (j := 2) (by decide) mm6 kf_X12_28 dX12_laysAt_39 ?_
  refine lv_bipush (v := 27) hx hb dX12_laysAt_42 (by decide) ?_
  refine th_ialdF hC hB.1 hb2 ro_48 rfl tk_27 (by omega) (by omega) (ek_a (by omega) (by omega)) dX12_laysAt_44 (fun x7 mx7 lx7 ux7 => ?_)
  replace hF := hF.trans (dv_bn (dv_aldI hB.1 hU hb2 ow_48 (z := 27) mx7 (by omega)))
  have vgx7 : mo_v G H28 a0 2 27 = x7.toInt := by rw [show (27 : Int) = 27 by omega]; exact mo_vat mm6 mx7 (by omega)
  refine lv_iload hx hb dX12_laysAt_45 (lv_at hl 0 rfl) ?_
  refine lv_iadd hx hb dX12_laysAt_47 ?_
  refine lv_topi (fun x8 ex8 => ?_)
  have lx8 := ti_lo x8; have ux8 := ti_hi x8
  replace hF := hF.trans (dv_bn (dv_add_e (Eq.refl _) (Eq.refl _) ex8))
  refine th_call (th_runS (As := [.int 9999, .int x8]) (rest := [.int 27, .ref b2]) hC mf_X12_lesser km_X12_364 st_X12_lesser (c_X12_lesser l G Γ H28 hB.1 hU 9999 x8) rfl rfl ⟨Nat.le_of_ble_eq_true rfl, Nat.le_of_ble_eq_true rfl⟩ rfl hl.1 rfl (Nat.le_of_ble_eq_true rfl) dX12_laysAt_48 ⟨Nat.le_refl _, Nat.le_refl _⟩) hB.2.1 (fun v48 H48 locs hp hz hS => ?_)
  obtain ⟨x9, rfl, q48_0, q48_1, rfl⟩ := hp
  have hB := th_B_s hB hS
  have w48_0 := tk_9999
  have zf48 := q48_1
  rw [tk_9999] at zf48
  replace hF := hF.trans (dv_bn2 (zf48))
  refine W.eq (g2 := F0 m 51 ls [.int x9, .int 27, .ref b2]) rfl ?_
  have hIo := hB.1
  refine th_iastF hC hB hb2 (Or.inl hb2) ro_48 rfl (by decide) tk_27 (by omega) (by omega) (by rw [(ek_a (by omega) (by omega))]; exact th_sIa) dX12_laysAt_51 (fun H51 locs hB hf51 hst51 => ?_)
  have hf := hf51
  have mm10 := (th_F_o hf h0 ro_46 (j := 2) (by decide) (by decide)).trans mm6
  have hRC := th_RC_F hB.1 hR.1 hf (th_T_s hb2 ro_48 hst51) (by decide)
  replace hF := hF.trans (dv_bn (dv_stoI hIo hB.1 hU hb2 ow_48 (i := 27) hst51 (Eq.refl _) (by omega)))
  have vs51 : mo_v G H51 a0 2 = mo_u (mo_v G H28 a0 2) 27 x9.toInt := by rw [show (27 : Int) = 27 by omega]; exact mo_v_st h0 hb2 (by decide) mm6 hst51 (by omega)
  have hR := th_RE_st hB.1 hR h0 hb2 mm6 hf51 hst51 (by omega) (by omega)
  refine lv_iload hx hb dX12_laysAt_52 (lv_at hl 0 rfl) ?_
  exact th_iret hC hH hr hlocks rfl hB.2.1 ⟨_, rfl, by omega, by omega, hB.1, hB.2.2, hR, fun i hi => by rw [vs51, mo_un hi, vs28, vs18, vv_H4_2], (hF0.symm.trans hF)⟩ dX12_laysAt_54

set_option maxHeartbeats 4000000 in
set_option maxRecDepth 100000 in
theorem c_X12_yearPasses (l : Launch) (G : th_G) (Γ : th_Ga) (H0 : Heap) (hI : th_I G Γ H0) (hU : dv_U Γ) (a0 : Nat) (h0 : Γ a0 = (46, 0)) (hR : th_RE a0 G Γ H0) : Met l yX12_yearPasses (.code yX12_yearPasses cX12_yearPasses 3 (some FieldType.int) :: th_tb) ({ frames := 52, cells := 0, slots := 0, locals := 1648 } : Room) (th_P [.ref a0] G H0) (th_Q (fun (v : Option Value) (H1 : Heap) => ∃ r : Int32, v = some (.int r) ∧ 0 ≤ r.toInt ∧ r.toInt ≤ 9 ∧ th_I G Γ H1 ∧ th_F G Γ [(48, 0), (60, 0), (46, 22), (46, 24), (58, 0), (46, 23), (46, 25)] H0 H1 ∧ th_RE a0 G Γ H1 ∧ (mo_sb (mo_v G H0 a0 2) (mo_v G H1 a0 2)) ∧ (f_X12_yearPasses (dv G Γ H0) (a0 : Int) = (dv G Γ H1, r.toInt))) G) 0 0 (fun q => G.2.2 ≤ q) := by
  refine th_met RX12 (by decide) rfl (Nat.le_of_ble_eq_true rfl) ?_
  intro p e s m below meth c hC hH hr hlocks hnm ls hl
  have hx := hC.1
  have hb := hC.2.1
  have hB : th_B G Γ Γ [(48, 0), (60, 0), (46, 22), (46, 24), (58, 0), (46, 23), (46, 25)] H0 H0 [] := ⟨hI, va_S.rf, th_F_rf⟩
  have hl : lv_has ls 3 [(0, .ref a0)] := hl
  obtain ⟨F, hF0⟩ : ∃ F, F = f_X12_yearPasses (dv G Γ H0) ((a0 : Int)) := ⟨_, rfl⟩
  have hF := hF0.trans (f_X12_yearPasses.eq_1 (dv G Γ H0) ((a0 : Int)))
  refine lv_iconst (v := 0) hx hb dX12_yearPasses_0 (by decide) ?_
  refine lv_istore_n (lv' := [(1, .int 0), (0, .ref a0)]) hx hb dX12_yearPasses_1 rfl hl (by decide) rfl (fun ls hl => ?_)
  refine lv_iconst (v := 0) hx hb dX12_yearPasses_2 (by decide) ?_
  refine lv_istore_n (lv' := [(2, .int 0), (1, .int 0), (0, .ref a0)]) hx hb dX12_yearPasses_3 rfl hl (by decide) rfl (fun ls hl => ?_)
  have lp4 : ∀ (n4 : Nat) (H4 : Heap) (locs : List Loc) (ls : Array Slot) (j4_2 : Int32), th_B G Γ Γ [(48, 0), (60, 0), (46, 22), (46, 24), (58, 0), (46, 23), (46, 25)] H0 H4 locs → th_RE a0 G Γ H4 → lv_has ls 3 [(1, .int 0), (0, .ref a0), (2, .int j4_2)] → F = dv_lp f_X12_yearPasses_4b (dv G Γ H4, (a0 : Int), j4_2.toInt) → 0 ≤ j4_2.toInt → j4_2.toInt ≤ 9 → mo_v G H4 a0 2 = mo_v G H0 a0 2 → (2147483648 : Int) - j4_2.toInt ≤ (n4 : Int) → W p l e ({ frames := 52, cells := 0, slots := 0, locals := 1648 } : Room) s m ([.ref a0] : List Value).toArray below meth c H4 locs 0 0 (MQ below (th_Q (fun (v : Option Value) (H1 : Heap) => ∃ r : Int32, v = some (.int r) ∧ 0 ≤ r.toInt ∧ r.toInt ≤ 9 ∧ th_I G Γ H1 ∧ th_F G Γ [(48, 0), (60, 0), (46, 22), (46, 24), (58, 0), (46, 23), (46, 25)] H0 H1 ∧ th_RE a0 G Γ H1 ∧ (mo_sb (mo_v G H0 a0 2) (mo_v G H1 a0 2)) ∧ (f_X12_yearPasses (dv G Γ H0) (a0 : Int) = (dv G Γ H1, r.toInt))) G) ([.ref a0] : List Value).toArray s 0 0 (fun q => G.2.2 ≤ q)) (F0 m 4 ls []) := by
    intro n4
    induction n4 with
    | zero => intro H4 locs ls j4_2 hB hR hl hF g4_0 g4_1 g4_2 hm4; exact absurd hm4 (by have := ti_hi j4_2; omega)
    | succ n4 ih4 =>
      intro H4 locs ls j4_2 hB hR hl hF g4_0 g4_1 g4_2 hm4
      have lj4_2 := ti_lo j4_2; have uj4_2 := ti_hi j4_2
      have hm4 : (2147483648 : Int) - j4_2.toInt ≤ (n4 : Int) + 1 := by omega
      replace hF := hF.trans (dv_lp_eq)
      replace hF := hF.trans (congrArg (dv_k f_X12_yearPasses_4b) (f_X12_yearPasses_4c.eq_1 (dv G Γ H4) ((a0 : Int)) (j4_2.toInt)))
      refine lv_iload_n hx hb dX12_yearPasses_4 rfl (lv_at hl 2 rfl) ?_
      refine lv_aload_n hx hb dX12_yearPasses_5 rfl (lv_at hl 1 rfl) ?_
      refine th_call (th_runV (As := []) (rest := [.int j4_2]) hC mf_X12_many km_X12_115 im_X12_many se_X12_many (c_X12_many l G Γ H4 hB.1 hU a0 h0) rfl rfl ⟨Nat.le_of_ble_eq_true rfl, Nat.le_of_ble_eq_true rfl⟩ hB.1 h0 ro_46 rfl rfl hl.1 rfl (Nat.le_of_ble_eq_true rfl) dX12_yearPasses_6 ⟨Nat.le_refl _, Nat.le_refl _⟩) hB.2.1 (fun v6 H6 locs hp hz hS => ?_)
      obtain ⟨x1, rfl, lx1, ux1, q6_0, q6_1, rfl⟩ := hp
      have hB := th_B_s hB hS
      replace hF := hF.trans (congrArg (dv_k f_X12_yearPasses_4b) (dv_bn2 (q6_1)))
      refine W.eq (g2 := F0 m 9 ls [.int x1, .int j4_2]) rfl ?_
      refine tr_icmp_ge (tgt := 41) hx hb dX12_yearPasses_9 (by decide) (Eq.refl _) (Eq.refl _) (fun c9 => ?_) (fun c9 => ?_)
      · replace hF := hF.trans (congrArg (dv_k f_X12_yearPasses_4b) (if_pos c9))
        refine lv_iconst (v := 0) hx hb dX12_yearPasses_41 (by decide) ?_
        refine lv_istore_n (lv' := [(2, .int 0), (1, .int 0), (0, .ref a0)]) hx hb dX12_yearPasses_42 rfl hl (by decide) rfl (fun ls hl => ?_)
        have lp43 : ∀ (n43 : Nat) (H43 : Heap) (locs : List Loc) (ls : Array Slot) (j43_1 : Int32) (j43_2 : Int32), th_B G Γ Γ [(48, 0), (60, 0), (46, 22), (46, 24), (58, 0), (46, 23), (46, 25)] H0 H43 locs → th_RE a0 G Γ H43 → lv_has ls 3 [(0, .ref a0), (1, .int j43_1), (2, .int j43_2)] → F = dv_k f_X12_yearPasses_4b (dv_lp f_X12_yearPasses_43b (dv G Γ H43, (a0 : Int), j43_1.toInt, j43_2.toInt)) → 0 ≤ j43_1.toInt → j43_1.toInt ≤ 9 → 0 ≤ j43_2.toInt → j43_2.toInt ≤ 9 → mo_sb (mo_v G H0 a0 2) (mo_v G H43 a0 2) → j43_1.toInt ≤ j43_2.toInt → (2147483648 : Int) - j43_2.toInt ≤ (n43 : Int) → W p l e ({ frames := 52, cells := 0, slots := 0, locals := 1648 } : Room) s m ([.ref a0] : List Value).toArray below meth c H43 locs 0 0 (MQ below (th_Q (fun (v : Option Value) (H1 : Heap) => ∃ r : Int32, v = some (.int r) ∧ 0 ≤ r.toInt ∧ r.toInt ≤ 9 ∧ th_I G Γ H1 ∧ th_F G Γ [(48, 0), (60, 0), (46, 22), (46, 24), (58, 0), (46, 23), (46, 25)] H0 H1 ∧ th_RE a0 G Γ H1 ∧ (mo_sb (mo_v G H0 a0 2) (mo_v G H1 a0 2)) ∧ (f_X12_yearPasses (dv G Γ H0) (a0 : Int) = (dv G Γ H1, r.toInt))) G) ([.ref a0] : List Value).toArray s 0 0 (fun q => G.2.2 ≤ q)) (F0 m 43 ls []) := by
          intro n43
          induction n43 with
          | zero => intro H43 locs ls j43_1 j43_2 hB hR hl hF g43_0 g43_1 g43_2 g43_3 g43_4 g43_5 hm43; exact absurd hm43 (by have := ti_hi j43_2; omega)
          | succ n43 ih43 =>
            intro H43 locs ls j43_1 j43_2 hB hR hl hF g43_0 g43_1 g43_2 g43_3 g43_4 g43_5 hm43
            have lj43_1 := ti_lo j43_1; have uj43_1 := ti_hi j43_1
            have lj43_2 := ti_lo j43_2; have uj43_2 := ti_hi j43_2
            have hm43 : (2147483648 : Int) - j43_2.toInt ≤ (n43 : Int) + 1 := by omega
            replace hF := hF.trans (congrArg (dv_k f_X12_yearPasses_4b) (dv_lp_eq))
            replace hF := hF.trans (congrArg (dv_k f_X12_yearPasses_4b) (congrArg (dv_k f_X12_yearPasses_43b) (f_X12_yearPasses_43c.eq_1 (dv G Γ H43) ((a0 : Int)) (j43_1.toInt) (j43_2.toInt))))
            refine lv_iload_n hx hb dX12_yearPasses_43 rfl (lv_at hl 2 rfl) ?_
            refine lv_aload_n hx hb dX12_yearPasses_44 rfl (lv_at hl 0 rfl) ?_
            refine th_call (th_runV (As := []) (rest := [.int j43_2]) hC mf_X12_many km_X12_115 im_X12_many se_X12_many (c_X12_many l G Γ H43 hB.1 hU a0 h0) rfl rfl ⟨Nat.le_of_ble_eq_true rfl, Nat.le_of_ble_eq_true rfl⟩ hB.1 h0 ro_46 rfl rfl hl.1 rfl (Nat.le_of_ble_eq_true rfl) dX12_yearPasses_45 ⟨Nat.le_refl _, Nat.le_refl _⟩) hB.2.1 (fun v45 H45 locs hp hz hS => ?_)
            obtain ⟨x2, rfl, lx2, ux2, q45_0, q45_1, rfl⟩ := hp
            have hB := th_B_s hB hS
            replace hF := hF.trans (congrArg (dv_k f_X12_yearPasses_4b) (congrArg (dv_k f_X12_yearPasses_43b) (dv_bn2 (q45_1))))
            refine W.eq (g2 := F0 m 48 ls [.int x2, .int j43_2]) rfl ?_
            refine tr_icmp_ge (tgt := 114) hx hb dX12_yearPasses_48 (by decide) (Eq.refl _) (Eq.refl _) (fun c48 => ?_) (fun c48 => ?_)
            · replace hF := hF.trans (congrArg (dv_k f_X12_yearPasses_4b) (congrArg (dv_k f_X12_yearPasses_43b) (if_pos c48)))
              refine lv_aload_n hx hb dX12_yearPasses_114 rfl (lv_at hl 0 rfl) ?_
              refine th_getO (j := 2) (r2 := 48) hC cf_X12 hB.1 h0 ro_46 rfl rfl kf_X12_28 dX12_yearPasses_115 (fun b3 mb3 hb3 => ?_)
              refine lv_bipush (v := 28) hx hb dX12_yearPasses_118 (by decide) ?_
              refine lv_dup2_11 hx hb dX12_yearPasses_120 rfl rfl ?_
              refine th_ialdF hC hB.1 hb3 ro_48 rfl tk_28 (by omega) (by omega) (ek_a (by omega) (by omega)) dX12_yearPasses_121 (fun x4 mx4 lx4 ux4 => ?_)
              replace hF := hF.trans (congrArg (dv_k f_X12_yearPasses_4b) (congrArg (dv_k f_X12_yearPasses_43b) (dv_bn (dv_aldI hB.1 hU hb3 ow_48 (z := 28) mx4 (by omega)))))
              have vgx4 : mo_v G H43 a0 2 28 = x4.toInt := by rw [show (28 : Int) = 28 by omega]; exact mo_vat mb3 mx4 (by omega)
              refine lv_iconst (v := 1) hx hb dX12_yearPasses_122 (by decide) ?_
              refine lv_iadd hx hb dX12_yearPasses_123 ?_
              refine lv_topi (fun x5 ex5 => ?_)
              have lx5 := ti_lo x5; have ux5 := ti_hi x5
              replace hF := hF.trans (congrArg (dv_k f_X12_yearPasses_4b) (congrArg (dv_k f_X12_yearPasses_43b) (dv_bn (dv_add_e (Eq.refl _) tk_1 ex5))))
              have hIo := hB.1
              refine th_iastF hC hB hb3 (Or.inl hb3) ro_48 rfl (by decide) tk_28 (by omega) (by omega) (by rw [(ek_a (by omega) (by omega))]; exact th_sIa) dX12_yearPasses_124 (fun H124 locs hB hf124 hst124 => ?_)
              have hf := hf124
              have hRC := th_RC_F hB.1 hR.1 hf (th_T_s hb3 ro_48 hst124) (by decide)
              replace hF := hF.trans (congrArg (dv_k f_X12_yearPasses_4b) (congrArg (dv_k f_X12_yearPasses_43b) (dv_bn (dv_stoI hIo hB.1 hU hb3 ow_48 (i := 28) hst124 (Eq.refl _) (by omega)))))
              have vs124 : mo_v G H124 a0 2 = mo_u (mo_v G H43 a0 2) 28 x5.toInt := by rw [show (28 : Int) = 28 by omega]; exact mo_v_st h0 hb3 (by decide) mb3 hst124 (by omega)
              have hR := th_RE_st hB.1 hR h0 hb3 mb3 hf124 hst124 (by omega) (by omega)
              refine lv_iload_n hx hb dX12_yearPasses_125 rfl (lv_at hl 1 rfl) ?_
              replace hF := hF.trans (congrArg (dv_k f_X12_yearPasses_4b) (dv_kr))
              replace hF := hF.trans (dv_kr)
              exact th_iret hC hH hr hlocks rfl hB.2.1 ⟨_, rfl, by omega, by omega, hB.1, hB.2.2, hR, (by rw [vs124]; exact mo_sb_st g43_4 (Or.inr (Or.inr rfl))), (hF0.symm.trans hF)⟩ dX12_yearPasses_126
            · replace hF := hF.trans (congrArg (dv_k f_X12_yearPasses_4b) (congrArg (dv_k f_X12_yearPasses_43b) (if_neg (Int.not_le.mpr c48))))
              refine lv_aload_n hx hb dX12_yearPasses_51 rfl (lv_at hl 0 rfl) ?_
              refine lv_iload_n hx hb dX12_yearPasses_52 rfl (lv_at hl 2 rfl) ?_
              refine th_call (th_runV (As := [.int j43_2]) (rest := []) hC mf_X12_isLaid km_X12_137 im_X12_isLaid se_X12_isLaid (c_X12_isLaid l G Γ H43 hB.1 hU a0 h0 j43_2 (by omega) (by omega)) rfl rfl ⟨Nat.le_of_ble_eq_true rfl, Nat.le_of_ble_eq_true rfl⟩ hB.1 h0 ro_46 rfl rfl hl.1 rfl (Nat.le_of_ble_eq_true rfl) dX12_yearPasses_53 ⟨Nat.le_refl _, Nat.le_refl _⟩) hB.2.1 (fun v53 H53 locs hp hz hS => ?_)
              obtain ⟨x6, rfl, lx6, ux6, q53_0, q53_1, q53_2, rfl⟩ := hp
              have hB := th_B_s hB hS
              replace hF := hF.trans (congrArg (dv_k f_X12_yearPasses_4b) (congrArg (dv_k f_X12_yearPasses_43b) (dv_bn2 (q53_2))))
              refine W.eq (g2 := F0 m 56 ls [.int x6]) rfl ?_
              refine tr_if_ne (tgt := 62) hx hb dX12_yearPasses_56 (by decide) (Eq.refl _) (fun c56 => ?_) (fun c56 => ?_)
              · replace hF := hF.trans (congrArg (dv_k f_X12_yearPasses_4b) (congrArg (dv_k f_X12_yearPasses_43b) (if_pos c56)))
                refine lv_aload_n hx hb dX12_yearPasses_62 rfl (lv_at hl 0 rfl) ?_
                refine th_getO (j := 2) (r2 := 48) hC cf_X12 hB.1 h0 ro_46 rfl rfl kf_X12_28 dX12_yearPasses_63 (fun b7 mb7 hb7 => ?_)
                have sb7 := (th_F_o hB.2.2 h0 ro_46 (j := 2) (by decide) (by decide)).symm.trans mb7
                refine lv_iconst (v := 0) hx hb dX12_yearPasses_66 (by decide) ?_
                refine lv_iload_n hx hb dX12_yearPasses_67 rfl (lv_at hl 2 rfl) ?_
                refine tr_iadd hx hb dX12_yearPasses_68 tk_0 (Eq.refl _) (by omega) (by omega) (fun x8 ex8 => ?_)
                replace hF := hF.trans (congrArg (dv_k f_X12_yearPasses_4b) (congrArg (dv_k f_X12_yearPasses_43b) (dv_bn (ex8.symm))))
                refine lv_iconst (v := 0) hx hb dX12_yearPasses_69 (by decide) ?_
                refine lv_aload_n hx hb dX12_yearPasses_70 rfl (lv_at hl 0 rfl) ?_
                refine th_getK hC cf_X12 hB.1 h0 ro_46 rfl (j := 2) (by decide) mb7 kf_X12_28 dX12_yearPasses_71 ?_
                refine lv_iconst (v := 0) hx hb dX12_yearPasses_74 (by decide) ?_
                refine lv_iload_n hx hb dX12_yearPasses_75 rfl (lv_at hl 2 rfl) ?_
                refine tr_iadd hx hb dX12_yearPasses_76 tk_0 (Eq.refl _) (by omega) (by omega) (fun x9 ex9 => ?_)
                replace hF := hF.trans (congrArg (dv_k f_X12_yearPasses_4b) (congrArg (dv_k f_X12_yearPasses_43b) (dv_bn (ex9.symm))))
                refine th_ialdF hC hB.1 hb7 ro_48 rfl (Eq.refl _) (by omega) (by omega) (ek_a (by omega) (by omega)) dX12_yearPasses_77 (fun x10 mx10 lx10 ux10 => ?_)
                replace hF := hF.trans (congrArg (dv_k f_X12_yearPasses_4b) (congrArg (dv_k f_X12_yearPasses_43b) (dv_bn (dv_aldI hB.1 hU hb7 ow_48 (z := x9.toInt) mx10 (by omega)))))
                have vgx10 : mo_v G H43 a0 2 (0 + j43_2.toInt) = x10.toInt := by rw [show ((0 + j43_2.toInt) : Int) = x9.toInt by omega]; exact mo_vat mb7 mx10 (by omega)
                refine lv_aload_n hx hb dX12_yearPasses_78 rfl (lv_at hl 0 rfl) ?_
                refine th_getO (j := 30) (r2 := 60) hC cf_X12 hB.1 h0 ro_46 rfl rfl kf_X12_69 dX12_yearPasses_79 (fun b11 mb11 hb11 => ?_)
                have sb11 := (th_F_o hB.2.2 h0 ro_46 (j := 30) (by decide) (by decide)).symm.trans mb11
                refine lv_iload_n hx hb dX12_yearPasses_82 rfl (lv_at hl 2 rfl) ?_
                refine th_ialdF hC hB.1 hb11 ro_60 rfl (Eq.refl _) (by omega) (by omega) rfl dX12_yearPasses_83 (fun x12 mx12 lx12 ux12 => ?_)
                replace hF := hF.trans (congrArg (dv_k f_X12_yearPasses_4b) (congrArg (dv_k f_X12_yearPasses_43b) (dv_bn (dv_aldI hB.1 hU hb11 ow_60 (z := j43_2.toInt) mx12 (by omega)))))
                refine lv_isub hx hb dX12_yearPasses_84 ?_
                refine lv_topi (fun x13 ex13 => ?_)
                have lx13 := ti_lo x13; have ux13 := ti_hi x13
                replace hF := hF.trans (congrArg (dv_k f_X12_yearPasses_4b) (congrArg (dv_k f_X12_yearPasses_43b) (dv_bn (dv_sub_e (Eq.refl _) (Eq.refl _) ex13))))
                refine th_call (th_runS (As := [.int 0, .int x13]) (rest := [.int x8, .ref b7]) hC mf_X12_greater km_X12_367 st_X12_greater (c_X12_greater l G Γ H43 hB.1 hU 0 x13) rfl rfl ⟨Nat.le_of_ble_eq_true rfl, Nat.le_of_ble_eq_true rfl⟩ rfl hl.1 rfl (Nat.le_of_ble_eq_true rfl) dX12_yearPasses_85 ⟨Nat.le_refl _, Nat.le_refl _⟩) hB.2.1 (fun v85 H85 locs hp hz hS => ?_)
                obtain ⟨x14, rfl, q85_0, q85_1, rfl⟩ := hp
                have hB := th_B_s hB hS
                have w85_0 := tk_0
                have zf85 := q85_1
                rw [tk_0] at zf85
                replace hF := hF.trans (congrArg (dv_k f_X12_yearPasses_4b) (congrArg (dv_k f_X12_yearPasses_43b) (dv_bn2 (zf85))))
                refine W.eq (g2 := F0 m 88 ls [.int x14, .int x8, .ref b7]) rfl ?_
                have hIo := hB.1
                refine th_iastF hC hB hb7 (Or.inl hb7) ro_48 rfl (by decide) (Eq.refl _) (by omega) (by omega) (by rw [(ek_a (by omega) (by omega))]; exact th_sIa) dX12_yearPasses_88 (fun H88 locs hB hf88 hst88 => ?_)
                have hf := hf88
                have mm15 := (th_F_o hf h0 ro_46 (j := 2) (by decide) (by decide)).trans mb7
                have mm16 := (th_F_o hf h0 ro_46 (j := 30) (by decide) (by decide)).trans mb11
                have hRC := th_RC_F hB.1 hR.1 hf (th_T_s hb7 ro_48 hst88) (by decide)
                replace hF := hF.trans (congrArg (dv_k f_X12_yearPasses_4b) (congrArg (dv_k f_X12_yearPasses_43b) (dv_bn (dv_stoI hIo hB.1 hU hb7 ow_48 (i := x8.toInt) hst88 (Eq.refl _) (by omega)))))
                have vs88 : mo_v G H88 a0 2 = mo_u (mo_v G H43 a0 2) (0 + j43_2.toInt) x14.toInt := by rw [show ((0 + j43_2.toInt) : Int) = x8.toInt by omega]; exact mo_v_st h0 hb7 (by decide) mb7 hst88 (by omega)
                have hR := th_RE_st hB.1 hR h0 hb7 mb7 hf88 hst88 (by omega) (by omega)
                refine lv_aload_n hx hb dX12_yearPasses_89 rfl (lv_at hl 0 rfl) ?_
                refine lv_iload_n hx hb dX12_yearPasses_90 rfl (lv_at hl 2 rfl) ?_
                refine th_call (th_runV (As := [.int j43_2]) (rest := []) hC mf_X12_isWhole km_X12_357 im_X12_isWhole se_X12_isWhole (c_X12_isWhole l G Γ H88 hB.1 hU a0 h0 j43_2 (by omega) (by omega)) rfl rfl ⟨Nat.le_of_ble_eq_true rfl, Nat.le_of_ble_eq_true rfl⟩ hB.1 h0 ro_46 rfl rfl hl.1 rfl (Nat.le_of_ble_eq_true rfl) dX12_yearPasses_91 ⟨Nat.le_refl _, Nat.le_refl _⟩) hB.2.1 (fun v91 H91 locs hp hz hS => ?_)
                obtain ⟨x17, rfl, lx17, ux17, q91_0, rfl⟩ := hp
                have hB := th_B_s hB hS
                replace hF := hF.trans (congrArg (dv_k f_X12_yearPasses_4b) (congrArg (dv_k f_X12_yearPasses_43b) (dv_bn2 (q91_0))))
                refine W.eq (g2 := F0 m 94 ls [.int x17]) rfl ?_
                refine tr_if_eq (tgt := 100) hx hb dX12_yearPasses_94 (by decide) (Eq.refl _) (fun c94 => ?_) (fun c94 => ?_)
                · replace hF := hF.trans (congrArg (dv_k f_X12_yearPasses_4b) (congrArg (dv_k f_X12_yearPasses_43b) (if_pos c94)))
                  refine lv_aload_n hx hb dX12_yearPasses_100 rfl (lv_at hl 0 rfl) ?_
                  refine lv_iload_n hx hb dX12_yearPasses_101 rfl (lv_at hl 2 rfl) ?_
                  refine th_call (th_runV (As := [.int j43_2]) (rest := []) hC mf_X12_rolls km_X12_123 im_X12_rolls se_X12_rolls (c_X12_rolls l G Γ H88 hB.1 hU a0 h0 hR j43_2 (by omega) (by omega)) rfl rfl ⟨Nat.le_of_ble_eq_true rfl, Nat.le_of_ble_eq_true rfl⟩ hB.1 h0 ro_46 rfl rfl hl.1 rfl (Nat.le_of_ble_eq_true rfl) dX12_yearPasses_102 ⟨Nat.le_refl _, Nat.le_refl _⟩) hB.2.1 (fun v102 H102 locs hp hz hS => ?_)
                  obtain ⟨rfl, hI1, hf, hR, z102_0, z102_1⟩ := hp
                  have hB := th_B_c hB hI1 hS hf (by decide)
                  have mm18 := (th_F_o hf h0 ro_46 (j := 2) (by decide) (by decide)).trans mm15
                  have mm19 := (th_F_o hf h0 ro_46 (j := 30) (by decide) (by decide)).trans mm16
                  replace hF := hF.trans (congrArg (dv_k f_X12_yearPasses_4b) (congrArg (dv_k f_X12_yearPasses_43b) (dv_bn2 (z102_1))))
                  refine W.eq (g2 := F0 m 105 ls []) rfl ?_
                  refine tr_iinc (fun x20 => [(1, .int x20), (0, .ref a0), (2, .int j43_2)]) hx hb dX12_yearPasses_105 hl (k := 1) rfl (Eq.refl _) tk_1 (by omega) (by omega) (by decide) (fun _ => rfl) (fun x20 ls ex20 hl => ?_)
                  replace hF := hF.trans (congrArg (dv_k f_X12_yearPasses_4b) (congrArg (dv_k f_X12_yearPasses_43b) (dv_bn (ex20.symm))))
                  refine tr_iinc (fun x21 => [(2, .int x21), (1, .int x20), (0, .ref a0)]) hx hb dX12_yearPasses_108 hl (k := 2) rfl (Eq.refl _) tk_1 (by omega) (by omega) (by decide) (fun _ => rfl) (fun x21 ls ex21 hl => ?_)
                  replace hF := hF.trans (congrArg (dv_k f_X12_yearPasses_4b) (congrArg (dv_k f_X12_yearPasses_43b) (dv_bn (ex21.symm))))
                  refine lv_goto (tgt := 43) hx hb dX12_yearPasses_111 (by decide) ?_
                  replace hF := hF.trans (congrArg (dv_k f_X12_yearPasses_4b) (dv_kl))
                  exact ih43 H102 locs ls x20 x21 hB hR (lv_sub hl [2, 1, 0] rfl) hF (by omega) (by omega) (by omega) (by omega) (by rw [z102_0, vs88]; exact mo_sb_ro (mo_sb_st g43_4 (Or.inl ⟨by omega, by omega⟩)) (by omega) (by omega)) (by omega) (by omega)
                · replace hF := hF.trans (congrArg (dv_k f_X12_yearPasses_4b) (congrArg (dv_k f_X12_yearPasses_43b) (if_neg c94)))
                  refine lv_goto (tgt := 108) hx hb dX12_yearPasses_97 (by decide) ?_
                  refine tr_iinc (fun x22 => [(2, .int x22), (0, .ref a0), (1, .int j43_1)]) hx hb dX12_yearPasses_108 hl (k := 2) rfl (Eq.refl _) tk_1 (by omega) (by omega) (by decide) (fun _ => rfl) (fun x22 ls ex22 hl => ?_)
                  replace hF := hF.trans (congrArg (dv_k f_X12_yearPasses_4b) (congrArg (dv_k f_X12_yearPasses_43b) (dv_bn (ex22.symm))))
                  refine lv_goto (tgt := 43) hx hb dX12_yearPasses_111 (by decide) ?_
                  replace hF := hF.trans (congrArg (dv_k f_X12_yearPasses_4b) (dv_kl))
                  exact ih43 H88 locs ls j43_1 x22 hB hR (lv_sub hl [1, 2, 0] rfl) hF (by omega) (by omega) (by omega) (by omega) (by rw [vs88]; exact mo_sb_st g43_4 (Or.inl ⟨by omega, by omega⟩)) (by omega) (by omega)
              · replace hF := hF.trans (congrArg (dv_k f_X12_yearPasses_4b) (congrArg (dv_k f_X12_yearPasses_43b) (if_neg (not_not_intro c56))))
                refine lv_goto (tgt := 108) hx hb dX12_yearPasses_59 (by decide) ?_
                refine tr_iinc (fun x23 => [(2, .int x23), (0, .ref a0), (1, .int j43_1)]) hx hb dX12_yearPasses_108 hl (k := 2) rfl (Eq.refl _) tk_1 (by omega) (by omega) (by decide) (fun _ => rfl) (fun x23 ls ex23 hl => ?_)
                replace hF := hF.trans (congrArg (dv_k f_X12_yearPasses_4b) (congrArg (dv_k f_X12_yearPasses_43b) (dv_bn (ex23.symm))))
                refine lv_goto (tgt := 43) hx hb dX12_yearPasses_111 (by decide) ?_
                replace hF := hF.trans (congrArg (dv_k f_X12_yearPasses_4b) (dv_kl))
                exact ih43 H43 locs ls j43_1 x23 hB hR (lv_sub hl [1, 2, 0] rfl) hF (by omega) (by omega) (by omega) (by omega) g43_4 (by omega) (by omega)
        exact lp43 ((2147483648 : Int) - (0)).toNat H4 locs ls 0 0 hB hR (lv_sub hl [2, 1, 0] rfl) (by rw [tk_0]; exact hF) (by decide) (by decide) (by decide) (by decide) (by rw [g4_2]; exact mo_sb_rf) (by have w0 := tk_0; omega) (by have w0 := tk_0; omega)
      · replace hF := hF.trans (congrArg (dv_k f_X12_yearPasses_4b) (if_neg (Int.not_le.mpr c9)))
        refine lv_aload_n hx hb dX12_yearPasses_12 rfl (lv_at hl 1 rfl) ?_
        refine th_getO (j := 30) (r2 := 60) hC cf_X12 hB.1 h0 ro_46 rfl rfl kf_X12_69 dX12_yearPasses_13 (fun b24 mb24 hb24 => ?_)
        have sb24 := (th_F_o hB.2.2 h0 ro_46 (j := 30) (by decide) (by decide)).symm.trans mb24
        refine lv_iload_n hx hb dX12_yearPasses_16 rfl (lv_at hl 2 rfl) ?_
        refine lv_aload_n hx hb dX12_yearPasses_17 rfl (lv_at hl 1 rfl) ?_
        refine lv_iload_n hx hb dX12_yearPasses_18 rfl (lv_at hl 2 rfl) ?_
        refine th_call (th_runV (As := [.int j4_2]) (rest := [.int j4_2, .ref b24]) hC mf_X12_isLaid km_X12_137 im_X12_isLaid se_X12_isLaid (c_X12_isLaid l G Γ H4 hB.1 hU a0 h0 j4_2 (by omega) (by omega)) rfl rfl ⟨Nat.le_of_ble_eq_true rfl, Nat.le_of_ble_eq_true rfl⟩ hB.1 h0 ro_46 rfl rfl hl.1 rfl (Nat.le_of_ble_eq_true rfl) dX12_yearPasses_19 ⟨Nat.le_refl _, Nat.le_refl _⟩) hB.2.1 (fun v19 H19 locs hp hz hS => ?_)
        obtain ⟨x25, rfl, lx25, ux25, q19_0, q19_1, q19_2, rfl⟩ := hp
        have hB := th_B_s hB hS
        replace hF := hF.trans (congrArg (dv_k f_X12_yearPasses_4b) (dv_bn2 (q19_2)))
        refine W.eq (g2 := F0 m 22 ls [.int x25, .int j4_2, .ref b24]) rfl ?_
        refine tr_if_eq (tgt := 33) hx hb dX12_yearPasses_22 (by decide) (Eq.refl _) (fun c22 => ?_) (fun c22 => ?_)
        · replace hF := hF.trans (congrArg (dv_k f_X12_yearPasses_4b) (if_pos c22))
          refine lv_iconst (v := 0) hx hb dX12_yearPasses_33 (by decide) ?_
          have hIo := hB.1
          refine th_iastF hC hB hb24 (Or.inl hb24) ro_60 rfl (by decide) (Eq.refl _) (by omega) (by omega) th_sIa dX12_yearPasses_34 (fun H34 locs hB hf34 hst34 => ?_)
          have hf := hf34
          have mm26 := (th_F_o hf h0 ro_46 (j := 30) (by decide) (by decide)).trans mb24
          have hR := th_RE_F hB.1 hR h0 hf (th_T_s hb24 ro_60 hst34) (by decide)
          have vv_H34_2 : mo_v G H34 a0 2 = mo_v G H4 a0 2 := mo_v_F (r := 48) hB.1 hf h0 rfl ro_48 (by decide) (by decide)
          replace hF := hF.trans (congrArg (dv_k f_X12_yearPasses_4b) (dv_bn (dv_stoI hIo hB.1 hU hb24 ow_60 (i := j4_2.toInt) hst34 tk_0 (by omega))))
          refine tr_iinc (fun x27 => [(2, .int x27), (1, .int 0), (0, .ref a0)]) hx hb dX12_yearPasses_35 hl (k := 2) rfl (Eq.refl _) tk_1 (by omega) (by omega) (by decide) (fun _ => rfl) (fun x27 ls ex27 hl => ?_)
          replace hF := hF.trans (congrArg (dv_k f_X12_yearPasses_4b) (dv_bn (ex27.symm)))
          refine lv_goto (tgt := 4) hx hb dX12_yearPasses_38 (by decide) ?_
          replace hF := hF.trans (dv_kl)
          exact ih4 H34 locs ls x27 hB hR (lv_sub hl [1, 2, 0] rfl) hF (by omega) (by omega) (by rw [vv_H34_2]; exact g4_2) (by omega)
        · replace hF := hF.trans (congrArg (dv_k f_X12_yearPasses_4b) (if_neg c22))
          refine lv_aload_n hx hb dX12_yearPasses_25 rfl (lv_at hl 1 rfl) ?_
          refine lv_iload_n hx hb dX12_yearPasses_26 rfl (lv_at hl 2 rfl) ?_
          refine th_call (th_runV (As := [.int j4_2]) (rest := [.int j4_2, .ref b24]) hC mf_X12_wearsNow km_X12_140 im_X12_wearsNow se_X12_wearsNow (c_X12_wearsNow l G Γ H4 hB.1 hU a0 h0 hR j4_2 (by omega) (by omega)) rfl rfl ⟨Nat.le_of_ble_eq_true rfl, Nat.le_of_ble_eq_true rfl⟩ hB.1 h0 ro_46 rfl rfl hl.1 rfl (Nat.le_of_ble_eq_true rfl) dX12_yearPasses_27 ⟨Nat.le_refl _, Nat.le_refl _⟩) hB.2.1 (fun v27 H27 locs hp hz hS => ?_)
          obtain ⟨x28, rfl, lx28, ux28, hI1, hf, hR, z27_0⟩ := hp
          have hB := th_B_c hB hI1 hS hf (by decide)
          have mm29 := (th_F_o hf h0 ro_46 (j := 30) (by decide) (by decide)).trans mb24
          have vv_H27_2 : mo_v G H27 a0 2 = mo_v G H4 a0 2 := mo_v_F (r := 48) hB.1 hf h0 rfl ro_48 (by decide) (by decide)
          replace hF := hF.trans (congrArg (dv_k f_X12_yearPasses_4b) (dv_bn2 (z27_0)))
          refine W.eq (g2 := F0 m 30 ls [.int x28, .int j4_2, .ref b24]) rfl ?_
          refine lv_goto (tgt := 34) hx hb dX12_yearPasses_30 (by decide) ?_
          have hIo := hB.1
          refine th_iastF hC hB hb24 (Or.inl hb24) ro_60 rfl (by decide) (Eq.refl _) (by omega) (by omega) th_sIa dX12_yearPasses_34 (fun H34 locs hB hf34 hst34 => ?_)
          have hf := hf34
          have mm30 := (th_F_o hf h0 ro_46 (j := 30) (by decide) (by decide)).trans mm29
          have hR := th_RE_F hB.1 hR h0 hf (th_T_s hb24 ro_60 hst34) (by decide)
          have vv_H34_2 : mo_v G H34 a0 2 = mo_v G H27 a0 2 := mo_v_F (r := 48) hB.1 hf h0 rfl ro_48 (by decide) (by decide)
          replace hF := hF.trans (congrArg (dv_k f_X12_yearPasses_4b) (dv_bn (dv_stoI hIo hB.1 hU hb24 ow_60 (i := j4_2.toInt) hst34 (Eq.refl _) (by omega))))
          refine tr_iinc (fun x31 => [(2, .int x31), (1, .int 0), (0, .ref a0)]) hx hb dX12_yearPasses_35 hl (k := 2) rfl (Eq.refl _) tk_1 (by omega) (by omega) (by decide) (fun _ => rfl) (fun x31 ls ex31 hl => ?_)
          replace hF := hF.trans (congrArg (dv_k f_X12_yearPasses_4b) (dv_bn (ex31.symm)))
          refine lv_goto (tgt := 4) hx hb dX12_yearPasses_38 (by decide) ?_
          replace hF := hF.trans (dv_kl)
          exact ih4 H34 locs ls x31 hB hR (lv_sub hl [1, 2, 0] rfl) hF (by omega) (by omega) (by rw [vv_H34_2, vv_H27_2]; exact g4_2) (by omega)
  exact lp4 ((2147483648 : Int) - (0)).toNat H0 [] ls 0 hB hR (lv_sub hl [1, 2, 0] rfl) (by rw [tk_0]; exact hF) (by decide) (by decide) rfl (by have w0 := tk_0; omega)
