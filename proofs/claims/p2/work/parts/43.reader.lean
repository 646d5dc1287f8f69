set_option maxHeartbeats 4000000 in
set_option maxRecDepth 100000 in
theorem c_X5_readSums (l : Launch) (G : th_G) (Γ : th_Ga) (H0 : Heap) (hI : th_I G Γ H0) (hR : th_RD G Γ H0) (hU : dv_U Γ) (a0 : Nat) (h0 : Γ a0 = (20, 0)) (p1 : Int32) (f1 : 0 ≤ p1.toInt) (g1 : p1.toInt ≤ 3) (nn3 : ∃ b : Nat, th_sl H0 a0 (G.1.2 5 3) = .ref b ∧ Γ b = (39, 0)) (bv : Int32) (mbv : th_sl H0 a0 (G.1.2 5 7) = .int bv) (nbv : 0 ≤ bv.toInt) : Met l yX5_readSums (.code yX5_readSums cX5_readSums 3 (none) :: th_tb) ({ frames := 24, cells := 0, slots := 0, locals := 814 } : Room) (th_P [.ref a0, .int p1] G H0) (th_Q (fun (v : Option Value) (H1 : Heap) => v = none ∧ th_I G Γ H1 ∧ th_F G Γ [(20, 5), (20, 6), (20, 7), (20, 8), (40, 0), (39, 2), (41, 0)] H0 H1 ∧ th_RD G Γ H1 ∧ (th_sl H1 a0 (G.1.2 5 7) = .int bv) ∧ (f_X5_readSums (dv G Γ H0) (a0 : Int) p1.toInt = (dv G Γ H1, 0))) G) 0 0 (fun q => G.2.2 ≤ q) := by
  refine th_met RX5 (by decide) rfl (Nat.le_of_ble_eq_true rfl) ?_
  intro p e s m below meth c hC hH hr hlocks hnm ls hl
  have hx := hC.1
  have hb := hC.2.1
  have hB : th_B G Γ Γ [(20, 5), (20, 6), (20, 7), (20, 8), (40, 0), (39, 2), (41, 0)] H0 H0 [] := ⟨hI, va_S.rf, th_F_rf⟩
  have hl : lv_has ls 3 [(0, .ref a0), (1, .int p1)] := hl
  have lp1 := ti_lo p1; have up1 := ti_hi p1
  have lbv := ti_lo bv; have ubv := ti_hi bv
  obtain ⟨bn3, mbn3, hbn3⟩ := nn3
  obtain ⟨F, hF0⟩ : ∃ F, F = f_X5_readSums (dv G Γ H0) ((a0 : Int)) (p1.toInt) := ⟨_, rfl⟩
  have hF := hF0.trans (f_X5_readSums.eq_1 (dv G Γ H0) ((a0 : Int)) (p1.toInt))
  refine lv_aload_n hx hb dX5_readSums_0 rfl (lv_at hl 0 rfl) ?_
  refine th_getK hC cf_X5 hB.1 h0 ro_20 rfl (j := 3) (by decide) mbn3 kf_X5_22 dX5_readSums_1 ?_
  replace hF := hF.trans (dv_bn (dv_getR h0 ro_20 (j := 3) rfl mbn3 (by decide)))
  refine lv_iconst (v := 2) hx hb dX5_readSums_4 (by decide) ?_
  refine lv_aload_n hx hb dX5_readSums_5 rfl (lv_at hl 0 rfl) ?_
  refine th_getK hC cf_X5 hB.1 h0 ro_20 rfl (j := 3) (by decide) mbn3 kf_X5_22 dX5_readSums_6 ?_
  replace hF := hF.trans (dv_bn (dv_getR h0 ro_20 (j := 3) rfl mbn3 (by decide)))
  refine th_getI (j := 2) hC cf_X10 hB.1 hbn3 ro_39 rfl rfl kf_X5_174 dX5_readSums_9 (fun x1 mx1 lx1 ux1 => ?_)
  replace hF := hF.trans (dv_bn (dv_getI hbn3 ro_39 (j := 2) rfl mx1 (by decide)))
  refine th_call (th_runV (As := [.int 2, .int x1]) (rest := []) hC mf_X10_setMark km_X5_170 im_X10_setMark se_X10_setMark (c_X10_setMark l G Γ H0 hB.1 hR.1 hU bn3 hbn3 2 (by decide) (by decide) x1 (by have w0 := tk_2; omega)) rfl rfl ⟨Nat.le_of_ble_eq_true rfl, Nat.le_of_ble_eq_true rfl⟩ hB.1 hbn3 ro_39 rfl rfl hl.1 rfl (Nat.le_of_ble_eq_true rfl) dX5_readSums_12 ⟨Nat.le_refl _, Nat.le_refl _⟩) hB.2.1 (fun v12 H12 locs hp hz hS => ?_)
  have hRD := hR
  obtain ⟨rfl, hI1, hf, hR, z12_0⟩ := hp
  have hR := th_RD_c hR hRD hf (by decide)
  have hB := th_B_c hB hI1 hS hf (by decide)
  have mm2 := (th_F_o hf h0 ro_20 (j := 7) (by decide) (by decide)).trans mbv
  have mm3 := (th_F_o hf h0 ro_20 (j := 3) (by decide) (by decide)).trans mbn3
  have mm4 := (th_F_o hf hbn3 ro_39 (j := 2) (by decide) (by decide)).trans mx1
  have zf12 := z12_0
  rw [tk_2] at zf12
  replace hF := hF.trans (dv_bn2 (zf12))
  refine W.eq (g2 := F0 m 15 ls []) rfl ?_
  refine lv_iconst (v := 0) hx hb dX5_readSums_15 (by decide) ?_
  refine lv_istore_n (lv' := [(2, .int 0), (0, .ref a0), (1, .int p1)]) hx hb dX5_readSums_16 rfl hl (by decide) rfl (fun ls hl => ?_)
  have lp17 : ∀ (n17 : Nat) (H17 : Heap) (locs : List Loc) (ls : Array Slot) (j17_2 : Int32), th_B G Γ Γ [(20, 5), (20, 6), (20, 7), (20, 8), (40, 0), (39, 2), (41, 0)] H0 H17 locs → th_RD G Γ H17 → lv_has ls 3 [(0, .ref a0), (1, .int p1), (2, .int j17_2)] → F = dv_lp f_X5_readSums_17b (dv G Γ H17, (a0 : Int), p1.toInt, j17_2.toInt) → 0 ≤ j17_2.toInt → j17_2.toInt ≤ 3 → th_sl H17 a0 (G.1.2 5 7) = .int bv → (2147483648 : Int) - j17_2.toInt ≤ (n17 : Int) → W p l e ({ frames := 24, cells := 0, slots := 0, locals := 814 } : Room) s m ([.ref a0, .int p1] : List Value).toArray below meth c H17 locs 0 0 (MQ below (th_Q (fun (v : Option Value) (H1 : Heap) => v = none ∧ th_I G Γ H1 ∧ th_F G Γ [(20, 5), (20, 6), (20, 7), (20, 8), (40, 0), (39, 2), (41, 0)] H0 H1 ∧ th_RD G Γ H1 ∧ (th_sl H1 a0 (G.1.2 5 7) = .int bv) ∧ (f_X5_readSums (dv G Γ H0) (a0 : Int) p1.toInt = (dv G Γ H1, 0))) G) ([.ref a0, .int p1] : List Value).toArray s 0 0 (fun q => G.2.2 ≤ q)) (F0 m 17 ls []) := by
    intro n17
    induction n17 with
    | zero => intro H17 locs ls j17_2 hB hR hl hF g17_0 g17_1 g17_2 hm17; exact absurd hm17 (by have := ti_hi j17_2; omega)
    | succ n17 ih17 =>
      intro H17 locs ls j17_2 hB hR hl hF g17_0 g17_1 g17_2 hm17
      have lj17_2 := ti_lo j17_2; have uj17_2 := ti_hi j17_2
      have mm5 := (th_F_o hB.2.2 h0 ro_20 (j := 3) (by decide) (by decide)).trans mbn3
      have hm17 : (2147483648 : Int) - j17_2.toInt ≤ (n17 : Int) + 1 := by omega
      replace hF := hF.trans (dv_lp_eq)
      replace hF := hF.trans (congrArg (dv_k f_X5_readSums_17b) (f_X5_readSums_17c.eq_1 (dv G Γ H17) ((a0 : Int)) (p1.toInt) (j17_2.toInt)))
      refine lv_iload_n hx hb dX5_readSums_17 rfl (lv_at hl 2 rfl) ?_
      refine lv_iconst (v := 3) hx hb dX5_readSums_18 (by decide) ?_
      refine tr_icmp_ge (tgt := 88) hx hb dX5_readSums_19 (by decide) (Eq.refl _) tk_3 (fun c19 => ?_) (fun c19 => ?_)
      · replace hF := hF.trans (congrArg (dv_k f_X5_readSums_17b) (if_pos c19))
        replace hF := hF.trans (dv_kr)
        exact th_vret hC hH hr hlocks hB.2.1 ⟨rfl, hB.1, hB.2.2, hR, g17_2, (hF0.symm.trans hF)⟩ dX5_readSums_88
      · replace hF := hF.trans (congrArg (dv_k f_X5_readSums_17b) (if_neg (Int.not_le.mpr c19)))
        refine lv_iload_n hx hb dX5_readSums_22 rfl (lv_at hl 2 rfl) ?_
        have jn56 : ∀ (H56 : Heap) (locs : List Loc) (ls : Array Slot) , th_B G Γ Γ [(20, 5), (20, 6), (20, 7), (20, 8), (40, 0), (39, 2), (41, 0)] H0 H56 locs → th_RD G Γ H56 → lv_has ls 3 [(0, .ref a0), (1, .int p1), (2, .int j17_2)] → F = dv_k f_X5_readSums_17b (f_X5_readSums_56 (dv G Γ H56) ((a0 : Int)) (p1.toInt) (j17_2.toInt)) → th_sl H56 a0 (G.1.2 5 7) = .int bv → W p l e ({ frames := 24, cells := 0, slots := 0, locals := 814 } : Room) s m ([.ref a0, .int p1] : List Value).toArray below meth c H56 locs 0 0 (MQ below (th_Q (fun (v : Option Value) (H1 : Heap) => v = none ∧ th_I G Γ H1 ∧ th_F G Γ [(20, 5), (20, 6), (20, 7), (20, 8), (40, 0), (39, 2), (41, 0)] H0 H1 ∧ th_RD G Γ H1 ∧ (th_sl H1 a0 (G.1.2 5 7) = .int bv) ∧ (f_X5_readSums (dv G Γ H0) (a0 : Int) p1.toInt = (dv G Γ H1, 0))) G) ([.ref a0, .int p1] : List Value).toArray s 0 0 (fun q => G.2.2 ≤ q)) (F0 m 56 ls []) := by
          intro H56 locs ls hB hR hl hF g56_0
          have mm6 := (th_F_o hB.2.2 h0 ro_20 (j := 3) (by decide) (by decide)).trans mbn3
          replace hF := hF.trans (congrArg (dv_k f_X5_readSums_17b) (f_X5_readSums_56.eq_1 (dv G Γ H56) ((a0 : Int)) (p1.toInt) (j17_2.toInt)))
          refine lv_iload_n hx hb dX5_readSums_56 rfl (lv_at hl 2 rfl) ?_
          refine lv_iload_n hx hb dX5_readSums_57 rfl (lv_at hl 1 rfl) ?_
          have jn65 : ∀ (H65 : Heap) (locs : List Loc) (ls : Array Slot) , th_B G Γ Γ [(20, 5), (20, 6), (20, 7), (20, 8), (40, 0), (39, 2), (41, 0)] H0 H65 locs → th_RD G Γ H65 → lv_has ls 3 [(0, .ref a0), (1, .int p1), (2, .int j17_2)] → F = dv_k f_X5_readSums_17b (f_X5_readSums_65 (dv G Γ H65) ((a0 : Int)) (p1.toInt) (j17_2.toInt)) → th_sl H65 a0 (G.1.2 5 7) = .int bv → W p l e ({ frames := 24, cells := 0, slots := 0, locals := 814 } : Room) s m ([.ref a0, .int p1] : List Value).toArray below meth c H65 locs 0 0 (MQ below (th_Q (fun (v : Option Value) (H1 : Heap) => v = none ∧ th_I G Γ H1 ∧ th_F G Γ [(20, 5), (20, 6), (20, 7), (20, 8), (40, 0), (39, 2), (41, 0)] H0 H1 ∧ th_RD G Γ H1 ∧ (th_sl H1 a0 (G.1.2 5 7) = .int bv) ∧ (f_X5_readSums (dv G Γ H0) (a0 : Int) p1.toInt = (dv G Γ H1, 0))) G) ([.ref a0, .int p1] : List Value).toArray s 0 0 (fun q => G.2.2 ≤ q)) (F0 m 65 ls []) := by
            intro H65 locs ls hB hR hl hF g65_0
            have mm7 := (th_F_o hB.2.2 h0 ro_20 (j := 3) (by decide) (by decide)).trans mbn3
            replace hF := hF.trans (congrArg (dv_k f_X5_readSums_17b) (f_X5_readSums_65.eq_1 (dv G Γ H65) ((a0 : Int)) (p1.toInt) (j17_2.toInt)))
            refine lv_aload_n hx hb dX5_readSums_65 rfl (lv_at hl 0 rfl) ?_
            refine th_getK hC cf_X5 hB.1 h0 ro_20 rfl (j := 3) (by decide) mm7 kf_X5_22 dX5_readSums_66 ?_
            replace hF := hF.trans (congrArg (dv_k f_X5_readSums_17b) (dv_bn (dv_getR h0 ro_20 (j := 3) rfl mm7 (by decide))))
            refine lv_iconst (v := 3) hx hb dX5_readSums_69 (by decide) ?_
            refine lv_iload_n hx hb dX5_readSums_70 rfl (lv_at hl 2 rfl) ?_
            refine tr_iadd hx hb dX5_readSums_71 tk_3 (Eq.refl _) (by omega) (by omega) (fun x8 ex8 => ?_)
            replace hF := hF.trans (congrArg (dv_k f_X5_readSums_17b) (dv_bn (ex8.symm)))
            refine lv_aload_n hx hb dX5_readSums_72 rfl (lv_at hl 0 rfl) ?_
            refine th_getK hC cf_X5 hB.1 h0 ro_20 rfl (j := 3) (by decide) mm7 kf_X5_22 dX5_readSums_73 ?_
            replace hF := hF.trans (congrArg (dv_k f_X5_readSums_17b) (dv_bn (dv_getR h0 ro_20 (j := 3) rfl mm7 (by decide))))
            refine th_getI (j := 2) hC cf_X10 hB.1 hbn3 ro_39 rfl rfl kf_X5_174 dX5_readSums_76 (fun x9 mx9 lx9 ux9 => ?_)
            replace hF := hF.trans (congrArg (dv_k f_X5_readSums_17b) (dv_bn (dv_getI hbn3 ro_39 (j := 2) rfl mx9 (by decide))))
            refine th_call (th_runV (As := [.int x8, .int x9]) (rest := []) hC mf_X10_setMark km_X5_170 im_X10_setMark se_X10_setMark (c_X10_setMark l G Γ H65 hB.1 hR.1 hU bn3 hbn3 x8 (by omega) (by omega) x9 (by omega)) rfl rfl ⟨Nat.le_of_ble_eq_true rfl, Nat.le_of_ble_eq_true rfl⟩ hB.1 hbn3 ro_39 rfl rfl hl.1 rfl (Nat.le_of_ble_eq_true rfl) dX5_readSums_79 ⟨Nat.le_refl _, Nat.le_refl _⟩) hB.2.1 (fun v79 H79 locs hp hz hS => ?_)
            have hRD := hR
            obtain ⟨rfl, hI1, hf, hR, z79_0⟩ := hp
            have hR := th_RD_c hR hRD hf (by decide)
            have hB := th_B_c hB hI1 hS hf (by decide)
            have mm10 := (th_F_o hf h0 ro_20 (j := 7) (by decide) (by decide)).trans g65_0
            have mm11 := (th_F_o hf h0 ro_20 (j := 3) (by decide) (by decide)).trans mm7
            have mm12 := (th_F_o hf hbn3 ro_39 (j := 2) (by decide) (by decide)).trans mx9
            replace hF := hF.trans (congrArg (dv_k f_X5_readSums_17b) (dv_bn2 (z79_0)))
            refine W.eq (g2 := F0 m 82 ls []) rfl ?_
            refine tr_iinc (fun x13 => [(2, .int x13), (0, .ref a0), (1, .int p1)]) hx hb dX5_readSums_82 hl (k := 2) rfl (Eq.refl _) tk_1 (by omega) (by omega) (by decide) (fun _ => rfl) (fun x13 ls ex13 hl => ?_)
            replace hF := hF.trans (congrArg (dv_k f_X5_readSums_17b) (dv_bn (ex13.symm)))
            refine lv_goto (tgt := 17) hx hb dX5_readSums_85 (by decide) ?_
            replace hF := hF.trans (dv_kl)
            exact ih17 H79 locs ls x13 hB hR (lv_sub hl [1, 2, 0] rfl) hF (by omega) (by omega) mm10 (by omega)
          refine tr_icmp_ge (tgt := 65) hx hb dX5_readSums_58 (by decide) (Eq.refl _) (Eq.refl _) (fun c58 => ?_) (fun c58 => ?_)
          · replace hF := hF.trans (congrArg (dv_k f_X5_readSums_17b) (if_pos c58))
            exact jn65 H56 locs ls hB hR (lv_sub hl [0, 1, 2] rfl) hF g56_0
          · replace hF := hF.trans (congrArg (dv_k f_X5_readSums_17b) (if_neg (Int.not_le.mpr c58)))
            refine lv_aload_n hx hb dX5_readSums_61 rfl (lv_at hl 0 rfl) ?_
            refine th_call (th_runV (As := []) (rest := []) hC mf_X5_readSum km_X5_180 im_X5_readSum se_X5_readSum (c_X5_readSum l G Γ H56 hB.1 hR hU a0 h0 ⟨_, mm6, hbn3⟩ bv g56_0 (by omega)) rfl rfl ⟨Nat.le_of_ble_eq_true rfl, Nat.le_of_ble_eq_true rfl⟩ hB.1 h0 ro_20 rfl rfl hl.1 rfl (Nat.le_of_ble_eq_true rfl) dX5_readSums_62 ⟨Nat.le_refl _, Nat.le_refl _⟩) hB.2.1 (fun v62 H62 locs hp hz hS => ?_)
            obtain ⟨rfl, hI1, hf, hR, z62_0, z62_1⟩ := hp
            have hB := th_B_c hB hI1 hS hf (by decide)
            have mm14 := (th_F_o hf h0 ro_20 (j := 3) (by decide) (by decide)).trans mm6
            replace hF := hF.trans (congrArg (dv_k f_X5_readSums_17b) (dv_bn2 (z62_1)))
            refine W.eq (g2 := F0 m 65 ls []) rfl ?_
            exact jn65 H62 locs ls hB hR (lv_sub hl [0, 1, 2] rfl) hF z62_0
        refine tr_if_le (tgt := 56) hx hb dX5_readSums_23 (by decide) (Eq.refl _) (fun c23 => ?_) (fun c23 => ?_)
        · replace hF := hF.trans (congrArg (dv_k f_X5_readSums_17b) (if_pos c23))
          exact jn56 H17 locs ls hB hR (lv_sub hl [0, 1, 2] rfl) hF g17_2
        · replace hF := hF.trans (congrArg (dv_k f_X5_readSums_17b) (if_neg (Int.not_le.mpr c23)))
          refine lv_iload_n hx hb dX5_readSums_26 rfl (lv_at hl 2 rfl) ?_
          refine lv_iload_n hx hb dX5_readSums_27 rfl (lv_at hl 1 rfl) ?_
          refine tr_icmp_ge (tgt := 56) hx hb dX5_readSums_28 (by decide) (Eq.refl _) (Eq.refl _) (fun c28 => ?_) (fun c28 => ?_)
          · replace hF := hF.trans (congrArg (dv_k f_X5_readSums_17b) (if_pos c28))
            exact jn56 H17 locs ls hB hR (lv_sub hl [0, 1, 2] rfl) hF g17_2
          · replace hF := hF.trans (congrArg (dv_k f_X5_readSums_17b) (if_neg (Int.not_le.mpr c28)))
            refine lv_aload_n hx hb dX5_readSums_31 rfl (lv_at hl 0 rfl) ?_
            refine lv_iload_n hx hb dX5_readSums_32 rfl (lv_at hl 2 rfl) ?_
            refine lv_iconst (v := 1) hx hb dX5_readSums_33 (by decide) ?_
            have jn46 : ∀ (locs : List Loc) (ls : Array Slot) (s46_1 : Int32), th_B G Γ Γ [(20, 5), (20, 6), (20, 7), (20, 8), (40, 0), (39, 2), (41, 0)] H0 H17 locs → lv_has ls 3 [(0, .ref a0), (1, .int p1), (2, .int j17_2)] → F = dv_k f_X5_readSums_17b (f_X5_readSums_46 (dv G Γ H17) ((a0 : Int)) (p1.toInt) (j17_2.toInt) (s46_1.toInt)) → 310 ≤ s46_1.toInt → s46_1.toInt ≤ 311 → W p l e ({ frames := 24, cells := 0, slots := 0, locals := 814 } : Room) s m ([.ref a0, .int p1] : List Value).toArray below meth c H17 locs 0 0 (MQ below (th_Q (fun (v : Option Value) (H1 : Heap) => v = none ∧ th_I G Γ H1 ∧ th_F G Γ [(20, 5), (20, 6), (20, 7), (20, 8), (40, 0), (39, 2), (41, 0)] H0 H1 ∧ th_RD G Γ H1 ∧ (th_sl H1 a0 (G.1.2 5 7) = .int bv) ∧ (f_X5_readSums (dv G Γ H0) (a0 : Int) p1.toInt = (dv G Γ H1, 0))) G) ([.ref a0, .int p1] : List Value).toArray s 0 0 (fun q => G.2.2 ≤ q)) (F0 m 46 ls [.int s46_1, .ref a0]) := by
              intro locs ls s46_1 hB hl hF g46_0 g46_1
              have ls46_1 := ti_lo s46_1; have us46_1 := ti_hi s46_1
              replace hF := hF.trans (congrArg (dv_k f_X5_readSums_17b) (f_X5_readSums_46.eq_1 (dv G Γ H17) ((a0 : Int)) (p1.toInt) (j17_2.toInt) (s46_1.toInt)))
              refine th_call (th_runV (As := [.int s46_1]) (rest := []) hC mf_X5_take km_X5_54 im_X5_take se_X5_take (c_X5_take l G Γ H17 hB.1 hR hU a0 h0 s46_1 (by omega)) rfl rfl ⟨Nat.le_of_ble_eq_true rfl, Nat.le_of_ble_eq_true rfl⟩ hB.1 h0 ro_20 rfl rfl hl.1 rfl (Nat.le_of_ble_eq_true rfl) dX5_readSums_46 ⟨Nat.le_refl _, Nat.le_refl _⟩) hB.2.1 (fun v46 H46 locs hp hz hS => ?_)
              obtain ⟨x15, rfl, lx15, ux15, hI1, hf, hR, z46_0, z46_1⟩ := hp
              have hB := th_B_c hB hI1 hS hf (by decide)
              have mm16 := (th_F_o hf h0 ro_20 (j := 7) (by decide) (by decide)).trans g17_2
              have mm17 := (th_F_o hf h0 ro_20 (j := 3) (by decide) (by decide)).trans mm5
              replace hF := hF.trans (congrArg (dv_k f_X5_readSums_17b) (dv_bn2 (z46_1)))
              refine W.eq (g2 := F0 m 49 ls [.int x15]) rfl ?_
              refine tr_if_ne (tgt := 56) hx hb dX5_readSums_49 (by decide) (Eq.refl _) (fun c49 => ?_) (fun c49 => ?_)
              · replace hF := hF.trans (congrArg (dv_k f_X5_readSums_17b) (if_pos c49))
                exact jn56 H46 locs ls hB hR (lv_sub hl [0, 1, 2] rfl) hF mm16
              · replace hF := hF.trans (congrArg (dv_k f_X5_readSums_17b) (if_neg (not_not_intro c49)))
                refine lv_aload_n hx hb dX5_readSums_52 rfl (lv_at hl 0 rfl) ?_
                refine th_call (th_runV (As := []) (rest := []) hC mf_X5_fail km_X5_58 im_X5_fail se_X5_fail (c_X5_fail l G Γ H46 hB.1 hR hU a0 h0) rfl rfl ⟨Nat.le_of_ble_eq_true rfl, Nat.le_of_ble_eq_true rfl⟩ hB.1 h0 ro_20 rfl rfl hl.1 rfl (Nat.le_of_ble_eq_true rfl) dX5_readSums_53 ⟨Nat.le_refl _, Nat.le_refl _⟩) hB.2.1 (fun v53 H53 locs hp hz hS => ?_)
                obtain ⟨rfl, hI1, hf, hR, z53_0⟩ := hp
                have hB := th_B_c hB hI1 hS hf (by decide)
                have mm18 := (th_F_o hf h0 ro_20 (j := 7) (by decide) (by decide)).trans mm16
                have mm19 := (th_F_o hf h0 ro_20 (j := 3) (by decide) (by decide)).trans mm17
                replace hF := hF.trans (congrArg (dv_k f_X5_readSums_17b) (dv_bn2 (z53_0)))
                refine W.eq (g2 := F0 m 56 ls []) rfl ?_
                exact jn56 H53 locs ls hB hR (lv_sub hl [0, 1, 2] rfl) hF mm18
            refine tr_icmp_ne (tgt := 43) hx hb dX5_readSums_34 (by decide) (Eq.refl _) tk_1 (fun c34 => ?_) (fun c34 => ?_)
            · replace hF := hF.trans (congrArg (dv_k f_X5_readSums_17b) (if_pos c34))
              refine lv_sipush (v := 311) hx hb dX5_readSums_43 (by decide) ?_
              exact jn46 locs ls 311 hB (lv_sub hl [0, 1, 2] rfl) (by rw [tk_311]; exact hF) (by decide) (by decide)
            · replace hF := hF.trans (congrArg (dv_k f_X5_readSums_17b) (if_neg (not_not_intro c34)))
              refine lv_sipush (v := 310) hx hb dX5_readSums_37 (by decide) ?_
              refine lv_goto (tgt := 46) hx hb dX5_readSums_40 (by decide) ?_
              exact jn46 locs ls 310 hB (lv_sub hl [0, 1, 2] rfl) (by rw [tk_310]; exact hF) (by decide) (by decide)
  exact lp17 ((2147483648 : Int) - (0)).toNat H12 locs ls 0 hB hR (lv_sub hl [1, 2, 0] rfl) (by rw [tk_0]; exact hF) (by decide) (by decide) mm2 (by have w0 := tk_0; omega)

set_option maxHeartbeats 4000000 in
set_option maxRecDepth 100000 in
theorem c_X5_readClause (l : Launch) (G : th_G) (Γ : th_Ga) (H0 : Heap) (hI : th_I G Γ H0) (hR : th_RD G Γ H0) (hU : dv_U Γ) (a0 : Nat) (h0 : Γ a0 = (20, 0)) (nn3 : ∃ b : Nat, th_sl H0 a0 (G.1.2 5 3) = .ref b ∧ Γ b = (39, 0)) (bv : Int32) (mbv : th_sl H0 a0 (G.1.2 5 7) = .int bv) (nbv : 0 ≤ bv.toInt) : Met l yX5_readClause (.code yX5_readClause cX5_readClause 3 (none) :: th_tb) ({ frames := 44, cells := 0, slots := 0, locals := 1314 } : Room) (th_P [.ref a0] G H0) (th_Q (fun (v : Option Value) (H1 : Heap) => v = none ∧ th_I G Γ H1 ∧ th_F G Γ [(20, 5), (20, 6), (20, 7), (20, 8), (40, 0), (39, 2), (41, 0), (39, 3)] H0 H1 ∧ th_RD G Γ H1 ∧ (th_sl H1 a0 (G.1.2 5 7) = .int bv) ∧ (f_X5_readClause (dv G Γ H0) (a0 : Int) = (dv G Γ H1, 0))) G) 0 0 (fun q => G.2.2 ≤ q) := by
  refine th_met RX5 (by decide) rfl (Nat.le_of_ble_eq_true rfl) ?_
  intro p e s m below meth c hC hH hr hlocks hnm ls hl
  have hx := hC.1
  have hb := hC.2.1
  have hB : th_B G Γ Γ [(20, 5), (20, 6), (20, 7), (20, 8), (40, 0), (39, 2), (41, 0), (39, 3)] H0 H0 [] := ⟨hI, va_S.rf, th_F_rf⟩
  have hl : lv_has ls 3 [(0, .ref a0)] := hl
  have lbv := ti_lo bv; have ubv := ti_hi bv
  obtain ⟨bn3, mbn3, hbn3⟩ := nn3
  obtain ⟨F, hF0⟩ : ∃ F, F = f_X5_readClause (dv G Γ H0) ((a0 : Int)) := ⟨_, rfl⟩
  have hF := hF0.trans (f_X5_readClause.eq_1 (dv G Γ H0) ((a0 : Int)))
  refine lv_aload_n hx hb dX5_readClause_0 rfl (lv_at hl 0 rfl) ?_
  refine th_getO (j := 0) (r2 := 21) hC cf_X5 hB.1 h0 ro_20 rfl rfl kf_X5_11 dX5_readClause_1 (fun b1 mb1 hb1 => ?_)
  refine lv_aload_n hx hb dX5_readClause_4 rfl (lv_at hl 0 rfl) ?_
  refine th_getI (j := 5) hC cf_X5 hB.1 h0 ro_20 rfl rfl kf_X5_30 dX5_readClause_5 (fun x2 mx2 lx2 ux2 => ?_)
  obtain ⟨rax2, rbx2⟩ := th_RI_at (hR.2 _ _ h0) mx2
  replace hF := hF.trans (dv_bn (dv_getI h0 ro_20 (j := 5) rfl mx2 (by decide)))
  refine th_ialdF hC hB.1 hb1 ro_21 rfl (Eq.refl _) (by omega) (by omega) rfl dX5_readClause_8 (fun x3 mx3 lx3 ux3 => ?_)
  replace hF := hF.trans (dv_bn (dv_aldI hB.1 hU hb1 ow_21 (z := x2.toInt) mx3 (by omega)))
  refine lv_aload_n hx hb dX5_readClause_9 rfl (lv_at hl 0 rfl) ?_
  refine th_getI (j := 4) hC cf_X5 hB.1 h0 ro_20 rfl rfl kf_X5_26 dX5_readClause_10 (fun x4 mx4 lx4 ux4 => ?_)
  replace hF := hF.trans (dv_bn (dv_getI h0 ro_20 (j := 4) rfl mx4 (by decide)))
  have jn25 : ∀ (locs : List Loc) (ls : Array Slot) (s25_1 : Int32), th_B G Γ Γ [(20, 5), (20, 6), (20, 7), (20, 8), (40, 0), (39, 2), (41, 0), (39, 3)] H0 H0 locs → lv_has ls 3 [(0, .ref a0)] → F = f_X5_readClause_25 (dv G Γ H0) ((a0 : Int)) (x3.toInt) (s25_1.toInt) → 301 ≤ s25_1.toInt → s25_1.toInt ≤ 304 → W p l e ({ frames := 44, cells := 0, slots := 0, locals := 1314 } : Room) s m ([.ref a0] : List Value).toArray below meth c H0 locs 0 0 (MQ below (th_Q (fun (v : Option Value) (H1 : Heap) => v = none ∧ th_I G Γ H1 ∧ th_F G Γ [(20, 5), (20, 6), (20, 7), (20, 8), (40, 0), (39, 2), (41, 0), (39, 3)] H0 H1 ∧ th_RD G Γ H1 ∧ (th_sl H1 a0 (G.1.2 5 7) = .int bv) ∧ (f_X5_readClause (dv G Γ H0) (a0 : Int) = (dv G Γ H1, 0))) G) ([.ref a0] : List Value).toArray s 0 0 (fun q => G.2.2 ≤ q)) (F0 m 25 ls [.int s25_1, .int x3]) := by
    intro locs ls s25_1 hB hl hF g25_0 g25_1
    have ls25_1 := ti_lo s25_1; have us25_1 := ti_hi s25_1
    replace hF := hF.trans (f_X5_readClause_25.eq_1 (dv G Γ H0) ((a0 : Int)) (x3.toInt) (s25_1.toInt))
    refine lv_isub hx hb dX5_readClause_25 ?_
    refine lv_topi (fun x5 ex5 => ?_)
    have lx5 := ti_lo x5; have ux5 := ti_hi x5
    replace hF := hF.trans (dv_bn (dv_sub_e (Eq.refl _) (Eq.refl _) ex5))
    refine lv_istore_n (lv' := [(1, .int x5), (0, .ref a0)]) hx hb dX5_readClause_26 rfl hl (by decide) rfl (fun ls hl => ?_)
    refine lv_iload_n hx hb dX5_readClause_27 rfl (lv_at hl 0 rfl) ?_
    have jn47 : ∀ (locs : List Loc) (ls : Array Slot) , th_B G Γ Γ [(20, 5), (20, 6), (20, 7), (20, 8), (40, 0), (39, 2), (41, 0), (39, 3)] H0 H0 locs → lv_has ls 3 [(0, .ref a0)] → F = f_X5_readClause_47 (dv G Γ H0) ((a0 : Int)) → W p l e ({ frames := 44, cells := 0, slots := 0, locals := 1314 } : Room) s m ([.ref a0] : List Value).toArray below meth c H0 locs 0 0 (MQ below (th_Q (fun (v : Option Value) (H1 : Heap) => v = none ∧ th_I G Γ H1 ∧ th_F G Γ [(20, 5), (20, 6), (20, 7), (20, 8), (40, 0), (39, 2), (41, 0), (39, 3)] H0 H1 ∧ th_RD G Γ H1 ∧ (th_sl H1 a0 (G.1.2 5 7) = .int bv) ∧ (f_X5_readClause (dv G Γ H0) (a0 : Int) = (dv G Γ H1, 0))) G) ([.ref a0] : List Value).toArray s 0 0 (fun q => G.2.2 ≤ q)) (F0 m 47 ls []) := by
      intro locs ls hB hl hF
      replace hF := hF.trans (f_X5_readClause_47.eq_1 (dv G Γ H0) ((a0 : Int)))
      refine lv_aload_n hx hb dX5_readClause_47 rfl (lv_at hl 0 rfl) ?_
      refine th_call (th_runV (As := []) (rest := []) hC mf_X5_fail km_X5_58 im_X5_fail se_X5_fail (c_X5_fail l G Γ H0 hB.1 hR hU a0 h0) rfl rfl ⟨Nat.le_of_ble_eq_true rfl, Nat.le_of_ble_eq_true rfl⟩ hB.1 h0 ro_20 rfl rfl hl.1 rfl (Nat.le_of_ble_eq_true rfl) dX5_readClause_48 ⟨Nat.le_refl _, Nat.le_refl _⟩) hB.2.1 (fun v48 H48 locs hp hz hS => ?_)
      obtain ⟨rfl, hI1, hf, hR, z48_0⟩ := hp
      have hB := th_B_c hB hI1 hS hf (by decide)
      have mm6 := (th_F_o hf h0 ro_20 (j := 7) (by decide) (by decide)).trans mbv
      have mm7 := (th_F_o hf h0 ro_20 (j := 3) (by decide) (by decide)).trans mbn3
      have mm8 := (th_F_o hf h0 ro_20 (j := 5) (by decide) (by decide)).trans mx2
      have mm9 := (th_F_o hf h0 ro_20 (j := 4) (by decide) (by decide)).trans mx4
      replace hF := hF.trans (dv_bn2 (z48_0))
      refine W.eq (g2 := F0 m 51 ls []) rfl ?_
      exact th_vret hC hH hr hlocks hB.2.1 ⟨rfl, hB.1, hB.2.2, hR, mm6, (hF0.symm.trans hF)⟩ dX5_readClause_51
    refine tr_if_lt (tgt := 47) hx hb dX5_readClause_28 (by decide) (Eq.refl _) (fun c28 => ?_) (fun c28 => ?_)
    · replace hF := hF.trans (if_pos c28)
      exact jn47 locs ls hB (lv_sub hl [1] rfl) hF
    · replace hF := hF.trans (if_neg (Int.not_lt.mpr c28))
      refine lv_iload_n hx hb dX5_readClause_31 rfl (lv_at hl 0 rfl) ?_
      refine lv_aload_n hx hb dX5_readClause_32 rfl (lv_at hl 1 rfl) ?_
      refine th_getK hC cf_X5 hB.1 h0 ro_20 rfl (j := 4) (by decide) mx4 kf_X5_26 dX5_readClause_33 ?_
      replace hF := hF.trans (dv_bn (dv_getI h0 ro_20 (j := 4) rfl mx4 (by decide)))
      have jn44 : ∀ (locs : List Loc) (ls : Array Slot) (s44_1 : Int32), th_B G Γ Γ [(20, 5), (20, 6), (20, 7), (20, 8), (40, 0), (39, 2), (41, 0), (39, 3)] H0 H0 locs → lv_has ls 3 [(1, .int x5), (0, .ref a0)] → F = f_X5_readClause_44 (dv G Γ H0) (x5.toInt) ((a0 : Int)) (s44_1.toInt) → 2 ≤ s44_1.toInt → s44_1.toInt ≤ 3 → W p l e ({ frames := 44, cells := 0, slots := 0, locals := 1314 } : Room) s m ([.ref a0] : List Value).toArray below meth c H0 locs 0 0 (MQ below (th_Q (fun (v : Option Value) (H1 : Heap) => v = none ∧ th_I G Γ H1 ∧ th_F G Γ [(20, 5), (20, 6), (20, 7), (20, 8), (40, 0), (39, 2), (41, 0), (39, 3)] H0 H1 ∧ th_RD G Γ H1 ∧ (th_sl H1 a0 (G.1.2 5 7) = .int bv) ∧ (f_X5_readClause (dv G Γ H0) (a0 : Int) = (dv G Γ H1, 0))) G) ([.ref a0] : List Value).toArray s 0 0 (fun q => G.2.2 ≤ q)) (F0 m 44 ls [.int s44_1, .int x5]) := by
        intro locs ls s44_1 hB hl hF g44_0 g44_1
        have ls44_1 := ti_lo s44_1; have us44_1 := ti_hi s44_1
        replace hF := hF.trans (f_X5_readClause_44.eq_1 (dv G Γ H0) (x5.toInt) ((a0 : Int)) (s44_1.toInt))
        refine tr_icmp_le (tgt := 52) hx hb dX5_readClause_44 (by decide) (Eq.refl _) (Eq.refl _) (fun c44 => ?_) (fun c44 => ?_)
        · replace hF := hF.trans (if_pos c44)
          refine lv_aload_n hx hb dX5_readClause_52 rfl (lv_at hl 1 rfl) ?_
          refine lv_dup hx hb dX5_readClause_53 rfl ?_
          refine th_getK hC cf_X5 hB.1 h0 ro_20 rfl (j := 5) (by decide) mx2 kf_X5_30 dX5_readClause_54 ?_
          replace hF := hF.trans (dv_bn (dv_getI h0 ro_20 (j := 5) rfl mx2 (by decide)))
          refine lv_iconst (v := 1) hx hb dX5_readClause_57 (by decide) ?_
          refine tr_iadd hx hb dX5_readClause_58 (Eq.refl _) tk_1 (by omega) (by omega) (fun x10 ex10 => ?_)
          replace hF := hF.trans (dv_bn (ex10.symm))
          refine th_put hC cf_X5 hB h0 (Or.inl h0) ro_20 rfl (j := 5) rfl th_sIa (by decide) rfl rfl rfl kf_X5_30 dX5_readClause_59 (fun H59 locs hB hf hst59 => ?_)
          have mm11 := (th_F_o hf h0 ro_20 (j := 7) (by decide) (by decide)).trans mbv
          have mm12 := (th_F_o hf h0 ro_20 (j := 3) (by decide) (by decide)).trans mbn3
          have mm13 := (th_F_o hf h0 ro_20 (j := 4) (by decide) (by decide)).trans mx4
          replace hF := hF.trans (dv_bn (dv_putI hB.1 h0 ro_20 (j := 5) rfl (th_apart hC cf_X5) hst59 (Eq.refl _) (by decide)))
          have hR := th_RD_st (th_RC_F hB.1 hR.1 hf (th_T_s h0 ro_20 hst59) (by decide)) hR h0 hst59 (th_RD_up (th_apart hC cf_X5 0 5 (by decide) (by decide) (by decide)) (hR.2 _ _ h0) ⟨_, _, _, _, mb1, hb1, mx2, mx3, th_ksub ex5 (by omega) (by omega) (by omega)⟩ h0 mx2 (by have w1 := tk_1; omega) hst59)
          refine lv_aload_n hx hb dX5_readClause_62 rfl (lv_at hl 1 rfl) ?_
          refine th_getK hC cf_X5 hB.1 h0 ro_20 rfl (j := 3) (by decide) mm12 kf_X5_22 dX5_readClause_63 ?_
          replace hF := hF.trans (dv_bn (dv_getR h0 ro_20 (j := 3) rfl mm12 (by decide)))
          refine lv_iload_n hx hb dX5_readClause_66 rfl (lv_at hl 0 rfl) ?_
          refine th_call (th_runV (As := [.int x5]) (rest := []) hC mf_X10_openClause km_X5_160 im_X10_openClause se_X10_openClause (c_X10_openClause l G Γ H59 hB.1 hR.1 hU bn3 hbn3 x5 (by omega)) rfl rfl ⟨Nat.le_of_ble_eq_true rfl, Nat.le_of_ble_eq_true rfl⟩ hB.1 hbn3 ro_39 rfl rfl hl.1 rfl (Nat.le_of_ble_eq_true rfl) dX5_readClause_67 ⟨Nat.le_refl _, Nat.le_refl _⟩) hB.2.1 (fun v67 H67 locs hp hz hS => ?_)
          have hRD := hR
          obtain ⟨rfl, hI1, hf, hR, z67_0⟩ := hp
          have hR := th_RD_c hR hRD hf (by decide)
          have hB := th_B_c hB hI1 hS hf (by decide)
          have mm14 := (th_F_o hf h0 ro_20 (j := 7) (by decide) (by decide)).trans mm11
          have mm15 := (th_F_o hf h0 ro_20 (j := 3) (by decide) (by decide)).trans mm12
          have mm16 := (th_F_o hf h0 ro_20 (j := 4) (by decide) (by decide)).trans mm13
          replace hF := hF.trans (dv_bn2 (z67_0))
          refine W.eq (g2 := F0 m 70 ls []) rfl ?_
          refine lv_aload_n hx hb dX5_readClause_70 rfl (lv_at hl 1 rfl) ?_
          refine lv_aload_n hx hb dX5_readClause_71 rfl (lv_at hl 1 rfl) ?_
          refine th_getK hC cf_X5 hB.1 h0 ro_20 rfl (j := 4) (by decide) mm16 kf_X5_26 dX5_readClause_72 ?_
          replace hF := hF.trans (dv_bn (dv_getI h0 ro_20 (j := 4) rfl mm16 (by decide)))
          have jn109 : ∀ (locs : List Loc) (ls : Array Slot) (s109_1 : Int32), th_B G Γ Γ [(20, 5), (20, 6), (20, 7), (20, 8), (40, 0), (39, 2), (41, 0), (39, 3)] H0 H67 locs → lv_has ls 3 [(0, .ref a0)] → F = f_X5_readClause_109 (dv G Γ H67) ((a0 : Int)) (s109_1.toInt) → 0 ≤ s109_1.toInt → s109_1.toInt ≤ 3 → W p l e ({ frames := 44, cells := 0, slots := 0, locals := 1314 } : Room) s m ([.ref a0] : List Value).toArray below meth c H67 locs 0 0 (MQ below (th_Q (fun (v : Option Value) (H1 : Heap) => v = none ∧ th_I G Γ H1 ∧ th_F G Γ [(20, 5), (20, 6), (20, 7), (20, 8), (40, 0), (39, 2), (41, 0), (39, 3)] H0 H1 ∧ th_RD G Γ H1 ∧ (th_sl H1 a0 (G.1.2 5 7) = .int bv) ∧ (f_X5_readClause (dv G Γ H0) (a0 : Int) = (dv G Γ H1, 0))) G) ([.ref a0] : List Value).toArray s 0 0 (fun q => G.2.2 ≤ q)) (F0 m 109 ls [.int s109_1, .ref a0]) := by
            intro locs ls s109_1 hB hl hF g109_0 g109_1
            have ls109_1 := ti_lo s109_1; have us109_1 := ti_hi s109_1
            replace hF := hF.trans (f_X5_readClause_109.eq_1 (dv G Γ H67) ((a0 : Int)) (s109_1.toInt))
            refine th_call (th_runV (As := [.int s109_1]) (rest := []) hC mf_X5_readSums km_X5_164 im_X5_readSums se_X5_readSums (c_X5_readSums l G Γ H67 hB.1 hR hU a0 h0 s109_1 (by omega) (by omega) ⟨_, mm15, hbn3⟩ bv mm14 (by omega)) rfl rfl ⟨Nat.le_of_ble_eq_true rfl, Nat.le_of_ble_eq_true rfl⟩ hB.1 h0 ro_20 rfl rfl hl.1 rfl (Nat.le_of_ble_eq_true rfl) dX5_readClause_109 ⟨Nat.le_refl _, Nat.le_refl _⟩) hB.2.1 (fun v109 H109 locs hp hz hS => ?_)
            obtain ⟨rfl, hI1, hf, hR, z109_0, z109_1⟩ := hp
            have hB := th_B_c hB hI1 hS hf (by decide)
            have mm17 := (th_F_o hf h0 ro_20 (j := 3) (by decide) (by decide)).trans mm15
            have mm18 := (th_F_o hf h0 ro_20 (j := 4) (by decide) (by decide)).trans mm16
            replace hF := hF.trans (dv_bn2 (z109_1))
            refine W.eq (g2 := F0 m 112 ls []) rfl ?_
            refine lv_aload_n hx hb dX5_readClause_112 rfl (lv_at hl 0 rfl) ?_
            refine th_getK hC cf_X5 hB.1 h0 ro_20 rfl (j := 4) (by decide) mm18 kf_X5_26 dX5_readClause_113 ?_
            replace hF := hF.trans (dv_bn (dv_getI h0 ro_20 (j := 4) rfl mm18 (by decide)))
            have jn155 : ∀ (H155 : Heap) (locs : List Loc) (ls : Array Slot) , th_B G Γ Γ [(20, 5), (20, 6), (20, 7), (20, 8), (40, 0), (39, 2), (41, 0), (39, 3)] H0 H155 locs → th_RD G Γ H155 → lv_has ls 3 [(0, .ref a0)] → F = f_X5_readClause_155 (dv G Γ H155) ((a0 : Int)) → th_sl H155 a0 (G.1.2 5 7) = .int bv → W p l e ({ frames := 44, cells := 0, slots := 0, locals := 1314 } : Room) s m ([.ref a0] : List Value).toArray below meth c H155 locs 0 0 (MQ below (th_Q (fun (v : Option Value) (H1 : Heap) => v = none ∧ th_I G Γ H1 ∧ th_F G Γ [(20, 5), (20, 6), (20, 7), (20, 8), (40, 0), (39, 2), (41, 0), (39, 3)] H0 H1 ∧ th_RD G Γ H1 ∧ (th_sl H1 a0 (G.1.2 5 7) = .int bv) ∧ (f_X5_readClause (dv G Γ H0) (a0 : Int) = (dv G Γ H1, 0))) G) ([.ref a0] : List Value).toArray s 0 0 (fun q => G.2.2 ≤ q)) (F0 m 155 ls []) := by
              intro H155 locs ls hB hR hl hF g155_0
              have mm19 := (th_F_o hB.2.2 h0 ro_20 (j := 3) (by decide) (by decide)).trans mbn3
              replace hF := hF.trans (f_X5_readClause_155.eq_1 (dv G Γ H155) ((a0 : Int)))
              refine lv_aload_n hx hb dX5_readClause_155 rfl (lv_at hl 0 rfl) ?_
              refine th_getK hC cf_X5 hB.1 h0 ro_20 rfl (j := 3) (by decide) mm19 kf_X5_22 dX5_readClause_156 ?_
              replace hF := hF.trans (dv_bn (dv_getR h0 ro_20 (j := 3) rfl mm19 (by decide)))
              refine lv_bipush (v := 6) hx hb dX5_readClause_159 (by decide) ?_
              refine lv_aload_n hx hb dX5_readClause_161 rfl (lv_at hl 0 rfl) ?_
              refine th_getK hC cf_X5 hB.1 h0 ro_20 rfl (j := 3) (by decide) mm19 kf_X5_22 dX5_readClause_162 ?_
              replace hF := hF.trans (dv_bn (dv_getR h0 ro_20 (j := 3) rfl mm19 (by decide)))
              refine th_getI (j := 2) hC cf_X10 hB.1 hbn3 ro_39 rfl rfl kf_X5_174 dX5_readClause_165 (fun x20 mx20 lx20 ux20 => ?_)
              replace hF := hF.trans (dv_bn (dv_getI hbn3 ro_39 (j := 2) rfl mx20 (by decide)))
              refine th_call (th_runV (As := [.int 6, .int x20]) (rest := []) hC mf_X10_setMark km_X5_170 im_X10_setMark se_X10_setMark (c_X10_setMark l G Γ H155 hB.1 hR.1 hU bn3 hbn3 6 (by decide) (by decide) x20 (by have w0 := tk_6; omega)) rfl rfl ⟨Nat.le_of_ble_eq_true rfl, Nat.le_of_ble_eq_true rfl⟩ hB.1 hbn3 ro_39 rfl rfl hl.1 rfl (Nat.le_of_ble_eq_true rfl) dX5_readClause_168 ⟨Nat.le_refl _, Nat.le_refl _⟩) hB.2.1 (fun v168 H168 locs hp hz hS => ?_)
              have hRD := hR
              obtain ⟨rfl, hI1, hf, hR, z168_0⟩ := hp
              have hR := th_RD_c hR hRD hf (by decide)
              have hB := th_B_c hB hI1 hS hf (by decide)
              have mm21 := (th_F_o hf h0 ro_20 (j := 7) (by decide) (by decide)).trans g155_0
              have mm22 := (th_F_o hf h0 ro_20 (j := 3) (by decide) (by decide)).trans mm19
              have mm23 := (th_F_o hf hbn3 ro_39 (j := 2) (by decide) (by decide)).trans mx20
              have zf168 := z168_0
              rw [tk_6] at zf168
              replace hF := hF.trans (dv_bn2 (zf168))
              refine W.eq (g2 := F0 m 171 ls []) rfl ?_
              refine lv_aload_n hx hb dX5_readClause_171 rfl (lv_at hl 0 rfl) ?_
              refine lv_sipush (v := 308) hx hb dX5_readClause_172 (by decide) ?_
              refine th_call (th_runV (As := [.int 308]) (rest := []) hC mf_X5_take km_X5_54 im_X5_take se_X5_take (c_X5_take l G Γ H168 hB.1 hR hU a0 h0 308 (by decide)) rfl rfl ⟨Nat.le_of_ble_eq_true rfl, Nat.le_of_ble_eq_true rfl⟩ hB.1 h0 ro_20 rfl rfl hl.1 rfl (Nat.le_of_ble_eq_true rfl) dX5_readClause_175 ⟨Nat.le_refl _, Nat.le_refl _⟩) hB.2.1 (fun v175 H175 locs hp hz hS => ?_)
              obtain ⟨x24, rfl, lx24, ux24, hI1, hf, hR, z175_0, z175_1⟩ := hp
              have hB := th_B_c hB hI1 hS hf (by decide)
              have mm25 := (th_F_o hf h0 ro_20 (j := 7) (by decide) (by decide)).trans mm21
              have mm26 := (th_F_o hf h0 ro_20 (j := 3) (by decide) (by decide)).trans mm22
              have mm27 := (th_F_o hf hbn3 ro_39 (j := 2) (by decide) (by decide)).trans mm23
              have zf175 := z175_1
              rw [tk_308] at zf175
              replace hF := hF.trans (dv_bn2 (zf175))
              refine W.eq (g2 := F0 m 178 ls [.int x24]) rfl ?_
              have jn185 : ∀ (H185 : Heap) (locs : List Loc) (ls : Array Slot) , th_B G Γ Γ [(20, 5), (20, 6), (20, 7), (20, 8), (40, 0), (39, 2), (41, 0), (39, 3)] H0 H185 locs → th_RD G Γ H185 → lv_has ls 3 [(0, .ref a0)] → F = f_X5_readClause_185 (dv G Γ H185) ((a0 : Int)) → th_sl H185 a0 (G.1.2 5 7) = .int bv → W p l e ({ frames := 44, cells := 0, slots := 0, locals := 1314 } : Room) s m ([.ref a0] : List Value).toArray below meth c H185 locs 0 0 (MQ below (th_Q (fun (v : Option Value) (H1 : Heap) => v = none ∧ th_I G Γ H1 ∧ th_F G Γ [(20, 5), (20, 6), (20, 7), (20, 8), (40, 0), (39, 2), (41, 0), (39, 3)] H0 H1 ∧ th_RD G Γ H1 ∧ (th_sl H1 a0 (G.1.2 5 7) = .int bv) ∧ (f_X5_readClause (dv G Γ H0) (a0 : Int) = (dv G Γ H1, 0))) G) ([.ref a0] : List Value).toArray s 0 0 (fun q => G.2.2 ≤ q)) (F0 m 185 ls []) := by
                intro H185 locs ls hB hR hl hF g185_0
                have mm28 := (th_F_o hB.2.2 h0 ro_20 (j := 3) (by decide) (by decide)).trans mbn3
                replace hF := hF.trans (f_X5_readClause_185.eq_1 (dv G Γ H185) ((a0 : Int)))
                refine lv_aload_n hx hb dX5_readClause_185 rfl (lv_at hl 0 rfl) ?_
                refine th_getK hC cf_X5 hB.1 h0 ro_20 rfl (j := 3) (by decide) mm28 kf_X5_22 dX5_readClause_186 ?_
                replace hF := hF.trans (dv_bn (dv_getR h0 ro_20 (j := 3) rfl mm28 (by decide)))
                refine lv_bipush (v := 7) hx hb dX5_readClause_189 (by decide) ?_
                refine lv_aload_n hx hb dX5_readClause_191 rfl (lv_at hl 0 rfl) ?_
                refine th_getK hC cf_X5 hB.1 h0 ro_20 rfl (j := 3) (by decide) mm28 kf_X5_22 dX5_readClause_192 ?_
                replace hF := hF.trans (dv_bn (dv_getR h0 ro_20 (j := 3) rfl mm28 (by decide)))
                refine th_getI (j := 2) hC cf_X10 hB.1 hbn3 ro_39 rfl rfl kf_X5_174 dX5_readClause_195 (fun x29 mx29 lx29 ux29 => ?_)
                replace hF := hF.trans (dv_bn (dv_getI hbn3 ro_39 (j := 2) rfl mx29 (by decide)))
                refine th_call (th_runV (As := [.int 7, .int x29]) (rest := []) hC mf_X10_setMark km_X5_170 im_X10_setMark se_X10_setMark (c_X10_setMark l G Γ H185 hB.1 hR.1 hU bn3 hbn3 7 (by decide) (by decide) x29 (by have w0 := tk_7; omega)) rfl rfl ⟨Nat.le_of_ble_eq_true rfl, Nat.le_of_ble_eq_true rfl⟩ hB.1 hbn3 ro_39 rfl rfl hl.1 rfl (Nat.le_of_ble_eq_true rfl) dX5_readClause_198 ⟨Nat.le_refl _, Nat.le_refl _⟩) hB.2.1 (fun v198 H198 locs hp hz hS => ?_)
                have hRD := hR
                obtain ⟨rfl, hI1, hf, hR, z198_0⟩ := hp
                have hR := th_RD_c hR hRD hf (by decide)
                have hB := th_B_c hB hI1 hS hf (by decide)
                have mm30 := (th_F_o hf h0 ro_20 (j := 7) (by decide) (by decide)).trans g185_0
                have mm31 := (th_F_o hf h0 ro_20 (j := 3) (by decide) (by decide)).trans mm28
                have zf198 := z198_0
                rw [tk_7] at zf198
                replace hF := hF.trans (dv_bn2 (zf198))
                refine W.eq (g2 := F0 m 201 ls []) rfl ?_
                exact th_vret hC hH hr hlocks hB.2.1 ⟨rfl, hB.1, hB.2.2, hR, mm30, (hF0.symm.trans hF)⟩ dX5_readClause_201
              refine tr_if_eq (tgt := 185) hx hb dX5_readClause_178 (by decide) (Eq.refl _) (fun c178 => ?_) (fun c178 => ?_)
              · replace hF := hF.trans (if_pos c178)
                exact jn185 H175 locs ls hB hR (lv_sub hl [0] rfl) hF mm25
              · replace hF := hF.trans (if_neg c178)
                refine lv_aload_n hx hb dX5_readClause_181 rfl (lv_at hl 0 rfl) ?_
                refine th_call (th_runV (As := []) (rest := []) hC mf_X5_readTest km_X5_177 im_X5_readTest se_X5_readTest (c_X5_readTest l G Γ H175 hB.1 hR hU a0 h0 ⟨_, mm26, hbn3⟩ bv mm25 (by omega) (by omega)) rfl rfl ⟨Nat.le_of_ble_eq_true rfl, Nat.le_of_ble_eq_true rfl⟩ hB.1 h0 ro_20 rfl rfl hl.1 rfl (Nat.le_of_ble_eq_true rfl) dX5_readClause_182 ⟨Nat.le_refl _, Nat.le_refl _⟩) hB.2.1 (fun v182 H182 locs hp hz hS => ?_)
                obtain ⟨rfl, hI1, hf, hR, z182_0, z182_1⟩ := hp
                have hB := th_B_c hB hI1 hS hf (by decide)
                have mm32 := (th_F_o hf h0 ro_20 (j := 3) (by decide) (by decide)).trans mm26
                replace hF := hF.trans (dv_bn2 (z182_1))
                refine W.eq (g2 := F0 m 185 ls []) rfl ?_
                exact jn185 H182 locs ls hB hR (lv_sub hl [0] rfl) hF z182_0
            refine tr_if_eq (tgt := 155) hx hb dX5_readClause_116 (by decide) (Eq.refl _) (fun c116 => ?_) (fun c116 => ?_)
            · replace hF := hF.trans (if_pos c116)
              exact jn155 H109 locs ls hB hR (lv_sub hl [0] rfl) hF z109_0
            · replace hF := hF.trans (if_neg c116)
              refine lv_aload_n hx hb dX5_readClause_119 rfl (lv_at hl 0 rfl) ?_
              refine lv_sipush (v := 309) hx hb dX5_readClause_120 (by decide) ?_
              refine th_call (th_runV (As := [.int 309]) (rest := []) hC mf_X5_take km_X5_54 im_X5_take se_X5_take (c_X5_take l G Γ H109 hB.1 hR hU a0 h0 309 (by decide)) rfl rfl ⟨Nat.le_of_ble_eq_true rfl, Nat.le_of_ble_eq_true rfl⟩ hB.1 h0 ro_20 rfl rfl hl.1 rfl (Nat.le_of_ble_eq_true rfl) dX5_readClause_123 ⟨Nat.le_refl _, Nat.le_refl _⟩) hB.2.1 (fun v123 H123 locs hp hz hS => ?_)
              obtain ⟨x33, rfl, lx33, ux33, hI1, hf, hR, z123_0, z123_1⟩ := hp
              have hB := th_B_c hB hI1 hS hf (by decide)
              have mm34 := (th_F_o hf h0 ro_20 (j := 3) (by decide) (by decide)).trans mm17
              have mm35 := (th_F_o hf h0 ro_20 (j := 4) (by decide) (by decide)).trans mm18
              have mm36 := (th_F_o hf h0 ro_20 (j := 7) (by decide) (by decide)).trans z109_0
              have zf123 := z123_1
              rw [tk_309] at zf123
              replace hF := hF.trans (dv_bn2 (zf123))
              refine W.eq (g2 := F0 m 126 ls [.int x33]) rfl ?_
              refine tr_if_eq (tgt := 155) hx hb dX5_readClause_126 (by decide) (Eq.refl _) (fun c126 => ?_) (fun c126 => ?_)
              · replace hF := hF.trans (if_pos c126)
                exact jn155 H123 locs ls hB hR (lv_sub hl [0] rfl) hF mm36
              · replace hF := hF.trans (if_neg c126)
                refine lv_aload_n hx hb dX5_readClause_129 rfl (lv_at hl 0 rfl) ?_
                refine lv_iconst (v := 1) hx hb dX5_readClause_130 (by decide) ?_
                refine lv_bipush (v := 20) hx hb dX5_readClause_131 (by decide) ?_
                refine th_call (th_runV (As := [.int 1, .int 20]) (rest := []) hC mf_X5_takeNumber km_X5_167 im_X5_takeNumber se_X5_takeNumber (c_X5_takeNumber l G Γ H123 hB.1 hR hU a0 h0 1 (by decide) 20) rfl rfl ⟨Nat.le_of_ble_eq_true rfl, Nat.le_of_ble_eq_true rfl⟩ hB.1 h0 ro_20 rfl rfl hl.1 rfl (Nat.le_of_ble_eq_true rfl) dX5_readClause_133 ⟨Nat.le_refl _, Nat.le_refl _⟩) hB.2.1 (fun v133 H133 locs hp hz hS => ?_)
                obtain ⟨x37, rfl, lx37, q133_0, hI1, hf, hR, z133_0, z133_1⟩ := hp
                have hB := th_B_c hB hI1 hS hf (by decide)
                have mm38 := (th_F_o hf h0 ro_20 (j := 3) (by decide) (by decide)).trans mm34
                have mm39 := (th_F_o hf h0 ro_20 (j := 4) (by decide) (by decide)).trans mm35
                have mm40 := (th_F_o hf h0 ro_20 (j := 7) (by decide) (by decide)).trans mm36
                have w133_0 := tk_1
                have w133_1 := tk_20
                have zf133 := z133_1
                rw [tk_1, tk_20] at zf133
                replace hF := hF.trans (dv_bn2 (zf133))
                refine W.eq (g2 := F0 m 136 ls [.int x37]) rfl ?_
                refine lv_istore_n (lv' := [(2, .int x37), (0, .ref a0)]) hx hb dX5_readClause_136 rfl hl (by decide) rfl (fun ls hl => ?_)
                refine lv_aload_n hx hb dX5_readClause_137 rfl (lv_at hl 1 rfl) ?_
                refine th_getK hC cf_X5 hB.1 h0 ro_20 rfl (j := 3) (by decide) mm38 kf_X5_22 dX5_readClause_138 ?_
                replace hF := hF.trans (dv_bn (dv_getR h0 ro_20 (j := 3) rfl mm38 (by decide)))
                refine lv_iconst (v := 1) hx hb dX5_readClause_141 (by decide) ?_
                refine lv_iload_n hx hb dX5_readClause_142 rfl (lv_at hl 0 rfl) ?_
                refine th_call (th_runV (As := [.int 1, .int x37]) (rest := []) hC mf_X10_setMark km_X5_170 im_X10_setMark se_X10_setMark (c_X10_setMark l G Γ H133 hB.1 hR.1 hU bn3 hbn3 1 (by decide) (by decide) x37 (by have w0 := tk_1; omega)) rfl rfl ⟨Nat.le_of_ble_eq_true rfl, Nat.le_of_ble_eq_true rfl⟩ hB.1 hbn3 ro_39 rfl rfl hl.1 rfl (Nat.le_of_ble_eq_true rfl) dX5_readClause_143 ⟨Nat.le_refl _, Nat.le_refl _⟩) hB.2.1 (fun v143 H143 locs hp hz hS => ?_)
                have hRD := hR
                obtain ⟨rfl, hI1, hf, hR, z143_0⟩ := hp
                have hR := th_RD_c hR hRD hf (by decide)
                have hB := th_B_c hB hI1 hS hf (by decide)
                have mm41 := (th_F_o hf h0 ro_20 (j := 3) (by decide) (by decide)).trans mm38
                have mm42 := (th_F_o hf h0 ro_20 (j := 4) (by decide) (by decide)).trans mm39
                have mm43 := (th_F_o hf h0 ro_20 (j := 7) (by decide) (by decide)).trans mm40
                have zf143 := z143_0
                rw [tk_1] at zf143
                replace hF := hF.trans (dv_bn2 (zf143))
                refine W.eq (g2 := F0 m 146 ls []) rfl ?_
                refine lv_iload_n hx hb dX5_readClause_146 rfl (lv_at hl 0 rfl) ?_
                refine lv_iconst (v := (-1)) hx hb dX5_readClause_147 (by decide) ?_
                refine tr_icmp_ne (tgt := 155) hx hb dX5_readClause_148 (by decide) (Eq.refl _) tk_m1 (fun c148 => ?_) (fun c148 => ?_)
                · replace hF := hF.trans (if_pos c148)
                  exact jn155 H143 locs ls hB hR (lv_sub hl [1] rfl) hF mm43
                · replace hF := hF.trans (if_neg (not_not_intro c148))
                  refine lv_aload_n hx hb dX5_readClause_151 rfl (lv_at hl 1 rfl) ?_
                  refine th_call (th_runV (As := []) (rest := []) hC mf_X5_fail km_X5_58 im_X5_fail se_X5_fail (c_X5_fail l G Γ H143 hB.1 hR hU a0 h0) rfl rfl ⟨Nat.le_of_ble_eq_true rfl, Nat.le_of_ble_eq_true rfl⟩ hB.1 h0 ro_20 rfl rfl hl.1 rfl (Nat.le_of_ble_eq_true rfl) dX5_readClause_152 ⟨Nat.le_refl _, Nat.le_refl _⟩) hB.2.1 (fun v152 H152 locs hp hz hS => ?_)
                  obtain ⟨rfl, hI1, hf, hR, z152_0⟩ := hp
                  have hB := th_B_c hB hI1 hS hf (by decide)
                  have mm44 := (th_F_o hf h0 ro_20 (j := 3) (by decide) (by decide)).trans mm41
                  have mm45 := (th_F_o hf h0 ro_20 (j := 4) (by decide) (by decide)).trans mm42
                  have mm46 := (th_F_o hf h0 ro_20 (j := 7) (by decide) (by decide)).trans mm43
                  replace hF := hF.trans (dv_bn2 (z152_0))
                  refine W.eq (g2 := F0 m 155 ls []) rfl ?_
                  exact jn155 H152 locs ls hB hR (lv_sub hl [1] rfl) hF mm46
          refine tr_if_eq (tgt := 99) hx hb dX5_readClause_75 (by decide) (Eq.refl _) (fun c75 => ?_) (fun c75 => ?_)
          · replace hF := hF.trans (if_pos c75)
            refine lv_iload_n hx hb dX5_readClause_99 rfl (lv_at hl 0 rfl) ?_
            refine lv_iconst (v := 2) hx hb dX5_readClause_100 (by decide) ?_
            refine tr_icmp_ne (tgt := 108) hx hb dX5_readClause_101 (by decide) (Eq.refl _) tk_2 (fun c101 => ?_) (fun c101 => ?_)
            · replace hF := hF.trans (if_pos c101)
              refine lv_iconst (v := 1) hx hb dX5_readClause_108 (by decide) ?_
              exact jn109 locs ls 1 hB (lv_sub hl [1] rfl) (by rw [tk_1]; exact hF) (by decide) (by decide)
            · replace hF := hF.trans (if_neg (not_not_intro c101))
              refine lv_iconst (v := 0) hx hb dX5_readClause_104 (by decide) ?_
              refine lv_goto (tgt := 109) hx hb dX5_readClause_105 (by decide) ?_
              exact jn109 locs ls 0 hB (lv_sub hl [1] rfl) (by rw [tk_0]; exact hF) (by decide) (by decide)
          · replace hF := hF.trans (if_neg c75)
            refine lv_iload_n hx hb dX5_readClause_78 rfl (lv_at hl 0 rfl) ?_
            refine tr_if_ne (tgt := 86) hx hb dX5_readClause_79 (by decide) (Eq.refl _) (fun c79 => ?_) (fun c79 => ?_)
            · replace hF := hF.trans (if_pos c79)
              refine lv_iload_n hx hb dX5_readClause_86 rfl (lv_at hl 0 rfl) ?_
              refine lv_iconst (v := 1) hx hb dX5_readClause_87 (by decide) ?_
              refine tr_icmp_ne (tgt := 95) hx hb dX5_readClause_88 (by decide) (Eq.refl _) tk_1 (fun c88 => ?_) (fun c88 => ?_)
              · replace hF := hF.trans (if_pos c88)
                refine lv_iconst (v := 0) hx hb dX5_readClause_95 (by decide) ?_
                refine lv_goto (tgt := 109) hx hb dX5_readClause_96 (by decide) ?_
                exact jn109 locs ls 0 hB (lv_sub hl [1] rfl) (by rw [tk_0]; exact hF) (by decide) (by decide)
              · replace hF := hF.trans (if_neg (not_not_intro c88))
                refine lv_iconst (v := 1) hx hb dX5_readClause_91 (by decide) ?_
                refine lv_goto (tgt := 109) hx hb dX5_readClause_92 (by decide) ?_
                exact jn109 locs ls 1 hB (lv_sub hl [1] rfl) (by rw [tk_1]; exact hF) (by decide) (by decide)
            · replace hF := hF.trans (if_neg (not_not_intro c79))
              refine lv_iconst (v := 3) hx hb dX5_readClause_82 (by decide) ?_
              refine lv_goto (tgt := 109) hx hb dX5_readClause_83 (by decide) ?_
              exact jn109 locs ls 3 hB (lv_sub hl [1] rfl) (by rw [tk_3]; exact hF) (by decide) (by decide)
        · replace hF := hF.trans (if_neg (Int.not_le.mpr c44))
          exact jn47 locs ls hB (lv_sub hl [1] rfl) hF
      refine tr_if_eq (tgt := 43) hx hb dX5_readClause_36 (by decide) (Eq.refl _) (fun c36 => ?_) (fun c36 => ?_)
      · replace hF := hF.trans (if_pos c36)
        refine lv_iconst (v := 2) hx hb dX5_readClause_43 (by decide) ?_
        exact jn44 locs ls 2 hB (lv_sub hl [0, 1] rfl) (by rw [tk_2]; exact hF) (by decide) (by decide)
      · replace hF := hF.trans (if_neg c36)
        refine lv_iconst (v := 3) hx hb dX5_readClause_39 (by decide) ?_
        refine lv_goto (tgt := 44) hx hb dX5_readClause_40 (by decide) ?_
        exact jn44 locs ls 3 hB (lv_sub hl [0, 1] rfl) (by rw [tk_3]; exact hF) (by decide) (by decide)
  refine tr_if_eq (tgt := 22) hx hb dX5_readClause_13 (by decide) (Eq.refl _) (fun c13 => ?_) (fun c13 => ?_)
  · replace hF := hF.trans (if_pos c13)
    refine lv_sipush (v := 301) hx hb dX5_readClause_22 (by decide) ?_
    exact jn25 [] ls 301 hB (lv_sub hl [0] rfl) (by rw [tk_301]; exact hF) (by decide) (by decide)
  · replace hF := hF.trans (if_neg c13)
    refine lv_sipush (v := 304) hx hb dX5_readClause_16 (by decide) ?_
    refine lv_goto (tgt := 25) hx hb dX5_readClause_19 (by decide) ?_
    exact jn25 [] ls 304 hB (lv_sub hl [0] rfl) (by rw [tk_304]; exact hF) (by decide) (by decide)

set_option maxHeartbeats 4000000 in
set_option maxRecDepth 100000 in
theorem c_X5_read (l : Launch) (G : th_G) (Γ : th_Ga) (H0 : Heap) (hI : th_I G Γ H0) (hR : th_RC G Γ H0) (hU : dv_U Γ) (a0 : Nat) (h0 : Γ a0 = (20, 0)) (p1 : Nat) (h1 : Γ p1 = (37, 0)) (p2 : Nat) (h2 : Γ p2 = (39, 0)) (p3 : Int32) (f3 : 0 ≤ p3.toInt) (g3 : p3.toInt ≤ 1) (k1 : ∀ a a1 o o1 : Nat, Γ a = (20, o) → Γ a1 = (20, o1) → a = a1) : Met l yX5_read (.code yX5_read cX5_read 5 (some FieldType.int) :: th_tb) ({ frames := 45, cells := 0, slots := 0, locals := 1336 } : Room) (th_PX [.ref a0, .ref p1, .ref p2, .int p3] G H0 (fun U => th_Z G U H0)) (th_Q (fun (v : Option Value) (H1 : Heap) => ∃ r : Int32, v = some (.int r) ∧ th_I G Γ H1 ∧ th_F G Γ [(20, 5), (20, 6), (20, 7), (20, 8), (40, 0), (39, 2), (41, 0), (39, 3), (21, 0), (22, 0), (20, 2), (20, 3), (20, 4)] H0 H1 ∧ th_RC G Γ H1 ∧ (f_X5_read (dv G Γ H0) (a0 : Int) (p1 : Int) (p2 : Int) p3.toInt = (dv G Γ H1, r.toInt))) G) 0 0 (fun q => G.2.2 ≤ q) := by
  refine th_metX RX5 (by decide) rfl (Nat.le_of_ble_eq_true rfl) ?_
  intro p e s m below meth c hC hX hH hr hlocks hnm ls hl
  have hx := hC.1
  have hb := hC.2.1
  have hB : th_B G Γ Γ [(20, 5), (20, 6), (20, 7), (20, 8), (40, 0), (39, 2), (41, 0), (39, 3), (21, 0), (22, 0), (20, 2), (20, 3), (20, 4)] H0 H0 [] := ⟨hI, va_S.rf, th_F_rf⟩
  have hl : lv_has ls 5 [(0, .ref a0), (1, .ref p1), (2, .ref p2), (3, .int p3)] := hl
  have lp3 := ti_lo p3; have up3 := ti_hi p3
  obtain ⟨F, hF0⟩ : ∃ F, F = f_X5_read (dv G Γ H0) ((a0 : Int)) ((p1 : Int)) ((p2 : Int)) (p3.toInt) := ⟨_, rfl⟩
  have hF := hF0.trans (f_X5_read.eq_1 (dv G Γ H0) ((a0 : Int)) ((p1 : Int)) ((p2 : Int)) (p3.toInt))
  refine lv_aload_n hx hb dX5_read_0 rfl (lv_at hl 0 rfl) ?_
  refine lv_aload_n hx hb dX5_read_1 rfl (lv_at hl 1 rfl) ?_
  refine th_put hC cf_X5 hB h0 (Or.inl h0) ro_20 rfl (j := 2) rfl (th_sQ h1) (by decide) rfl rfl rfl kf_X5_18 dX5_read_2 (fun H2 locs hB hf hst2 => ?_)
  have hR := th_RC_F hB.1 hR hf (th_T_s h0 ro_20 hst2) (by decide)
  replace hF := hF.trans (dv_bn (dv_putR hB.1 h0 ro_20 (j := 2) rfl (th_apart hC cf_X5) hst2 (by decide)))
  have mm1 := hst2.2.1
  refine lv_aload_n hx hb dX5_read_5 rfl (lv_at hl 0 rfl) ?_
  refine lv_aload_n hx hb dX5_read_6 rfl (lv_at hl 2 rfl) ?_
  refine th_put hC cf_X5 hB h0 (Or.inl h0) ro_20 rfl (j := 3) rfl (th_sQ h2) (by decide) rfl rfl rfl kf_X5_22 dX5_read_7 (fun H7 locs hB hf hst7 => ?_)
  have mm2 := (th_F_o hf h0 ro_20 (j := 2) (by decide) (by decide)).trans mm1
  have hR := th_RC_F hB.1 hR hf (th_T_s h0 ro_20 hst7) (by decide)
  replace hF := hF.trans (dv_bn (dv_putR hB.1 h0 ro_20 (j := 3) rfl (th_apart hC cf_X5) hst7 (by decide)))
  have mm3 := hst7.2.1
  refine lv_aload_n hx hb dX5_read_10 rfl (lv_at hl 0 rfl) ?_
  refine lv_iload_n hx hb dX5_read_11 rfl (lv_at hl 3 rfl) ?_
  refine th_put hC cf_X5 hB h0 (Or.inl h0) ro_20 rfl (j := 4) rfl (th_sI (by omega) (by omega)) (by decide) rfl (th_nb (by omega) (by omega)) (th_fb (by omega) (by omega)) kf_X5_26 dX5_read_12 (fun H12 locs hB hf hst12 => ?_)
  have mm4 := (th_F_o hf h0 ro_20 (j := 2) (by decide) (by decide)).trans mm2
  have mm5 := (th_F_o hf h0 ro_20 (j := 3) (by decide) (by decide)).trans mm3
  have hR := th_RC_F hB.1 hR hf (th_T_s h0 ro_20 hst12) (by decide)
  replace hF := hF.trans (dv_bn (dv_putI hB.1 h0 ro_20 (j := 4) rfl (th_apart hC cf_X5) hst12 (Eq.refl _) (by decide)))
  refine lv_aload_n hx hb dX5_read_15 rfl (lv_at hl 0 rfl) ?_
  refine lv_iconst (v := 0) hx hb dX5_read_16 (by decide) ?_
  refine th_put hC cf_X5 hB h0 (Or.inl h0) ro_20 rfl (j := 5) rfl th_sIa (by decide) rfl rfl rfl kf_X5_30 dX5_read_17 (fun H17 locs hB hf hst17 => ?_)
  have mm6 := (th_F_o hf h0 ro_20 (j := 2) (by decide) (by decide)).trans mm4
  have mm7 := (th_F_o hf h0 ro_20 (j := 3) (by decide) (by decide)).trans mm5
  have hR := th_RC_F hB.1 hR hf (th_T_s h0 ro_20 hst17) (by decide)
  replace hF := hF.trans (dv_bn (dv_putI hB.1 h0 ro_20 (j := 5) rfl (th_apart hC cf_X5) hst17 tk_0 (by decide)))
  have mm8 := hst17.2.1
  refine lv_aload_n hx hb dX5_read_20 rfl (lv_at hl 0 rfl) ?_
  refine lv_iconst (v := 0) hx hb dX5_read_21 (by decide) ?_
  refine th_put hC cf_X5 hB h0 (Or.inl h0) ro_20 rfl (j := 6) rfl th_sIa (by decide) rfl rfl rfl kf_X5_34 dX5_read_22 (fun H22 locs hB hf hst22 => ?_)
  have mm9 := (th_F_o hf h0 ro_20 (j := 2) (by decide) (by decide)).trans mm6
  have mm10 := (th_F_o hf h0 ro_20 (j := 3) (by decide) (by decide)).trans mm7
  have mm11 := (th_F_o hf h0 ro_20 (j := 5) (by decide) (by decide)).trans mm8
  have hR := th_RC_F hB.1 hR hf (th_T_s h0 ro_20 hst22) (by decide)
  replace hF := hF.trans (dv_bn (dv_putI hB.1 h0 ro_20 (j := 6) rfl (th_apart hC cf_X5) hst22 tk_0 (by decide)))
  refine lv_aload_n hx hb dX5_read_25 rfl (lv_at hl 0 rfl) ?_
  refine lv_iconst (v := 0) hx hb dX5_read_26 (by decide) ?_
  refine th_put hC cf_X5 hB h0 (Or.inl h0) ro_20 rfl (j := 7) rfl th_sIa (by decide) rfl rfl rfl kf_X5_37 dX5_read_27 (fun H27 locs hB hf hst27 => ?_)
  have mm12 := (th_F_o hf h0 ro_20 (j := 2) (by decide) (by decide)).trans mm9
  have mm13 := (th_F_o hf h0 ro_20 (j := 3) (by decide) (by decide)).trans mm10
  have mm14 := (th_F_o hf h0 ro_20 (j := 5) (by decide) (by decide)).trans mm11
  have hR := th_RC_F hB.1 hR hf (th_T_s h0 ro_20 hst27) (by decide)
  replace hF := hF.trans (dv_bn (dv_putI hB.1 h0 ro_20 (j := 7) rfl (th_apart hC cf_X5) hst27 tk_0 (by decide)))
  have mm15 := hst27.2.1
  refine lv_aload_n hx hb dX5_read_30 rfl (lv_at hl 0 rfl) ?_
  refine lv_iconst (v := (-1)) hx hb dX5_read_31 (by decide) ?_
  refine th_put hC cf_X5 hB h0 (Or.inl h0) ro_20 rfl (j := 8) rfl th_sIa (by decide) rfl rfl rfl kf_X5_40 dX5_read_32 (fun H32 locs hB hf hst32 => ?_)
  have mm16 := (th_F_o hf h0 ro_20 (j := 2) (by decide) (by decide)).trans mm12
  have mm17 := (th_F_o hf h0 ro_20 (j := 3) (by decide) (by decide)).trans mm13
  have mm18 := (th_F_o hf h0 ro_20 (j := 5) (by decide) (by decide)).trans mm14
  have mm19 := (th_F_o hf h0 ro_20 (j := 7) (by decide) (by decide)).trans mm15
  have hR := th_RC_F hB.1 hR hf (th_T_s h0 ro_20 hst32) (by decide)
  replace hF := hF.trans (dv_bn (dv_putI hB.1 h0 ro_20 (j := 8) rfl (th_apart hC cf_X5) hst32 tk_m1 (by decide)))
  have mm20 := hst32.2.1
  refine lv_aload_n hx hb dX5_read_35 rfl (lv_at hl 0 rfl) ?_
  refine th_getK hC cf_X5 hB.1 h0 ro_20 rfl (j := 3) (by decide) mm17 kf_X5_22 dX5_read_36 ?_
  replace hF := hF.trans (dv_bn (dv_getR h0 ro_20 (j := 3) rfl mm17 (by decide)))
  refine th_call (th_runV (As := []) (rest := []) hC mf_X10_clear km_X5_43 im_X10_clear se_X10_clear (c_X10_clear l G Γ H32 hB.1 hR hU p2 h2) rfl rfl ⟨Nat.le_of_ble_eq_true rfl, Nat.le_of_ble_eq_true rfl⟩ hB.1 h2 ro_39 rfl rfl hl.1 rfl (Nat.le_of_ble_eq_true rfl) dX5_read_39 ⟨Nat.le_refl _, Nat.le_refl _⟩) hB.2.1 (fun v39 H39 locs hp hz hS => ?_)
  obtain ⟨rfl, hI1, hf, hR, z39_0⟩ := hp
  have hB := th_B_c hB hI1 hS hf (by decide)
  have mm21 := (th_F_o hf h0 ro_20 (j := 2) (by decide) (by decide)).trans mm16
  have mm22 := (th_F_o hf h0 ro_20 (j := 3) (by decide) (by decide)).trans mm17
  have mm23 := (th_F_o hf h0 ro_20 (j := 5) (by decide) (by decide)).trans mm18
  have mm24 := (th_F_o hf h0 ro_20 (j := 7) (by decide) (by decide)).trans mm19
  have mm25 := (th_F_o hf h0 ro_20 (j := 8) (by decide) (by decide)).trans mm20
  replace hF := hF.trans (dv_bn2 (z39_0))
  refine W.eq (g2 := F0 m 42 ls []) rfl ?_
  refine lv_aload_n hx hb dX5_read_42 rfl (lv_at hl 0 rfl) ?_
  refine th_call (th_runVX (As := []) (rest := []) th_mvZ (th_Z_k hX hB.2.1) hC mf_X5_scan km_X5_48 im_X5_scan se_X5_scan (c_X5_scan l G Γ H39 hB.1 hR hU a0 h0 ⟨_, mm21, h1⟩) rfl rfl ⟨Nat.le_of_ble_eq_true rfl, Nat.le_of_ble_eq_true rfl⟩ hB.1 h0 ro_20 rfl rfl hl.1 rfl (Nat.le_of_ble_eq_true rfl) dX5_read_43 ⟨Nat.le_refl _, Nat.le_refl _⟩) hB.2.1 (fun v43 H43 locs hp hz hS => ?_)
  obtain ⟨rfl, hI1, hf, hR, z43_0, z43_1⟩ := hp
  have hB := th_B_c hB hI1 hS hf (by decide)
  have mm26 := (th_F_o hf h0 ro_20 (j := 2) (by decide) (by decide)).trans mm21
  have mm27 := (th_F_o hf h0 ro_20 (j := 3) (by decide) (by decide)).trans mm22
  have mm28 := (th_F_o hf h0 ro_20 (j := 5) (by decide) (by decide)).trans mm23
  have mm29 := (th_F_o hf h0 ro_20 (j := 7) (by decide) (by decide)).trans mm24
  have mm30 := (th_F_o hf h0 ro_20 (j := 8) (by decide) (by decide)).trans mm25
  replace hF := hF.trans (dv_bn2 (z43_1))
  refine W.eq (g2 := F0 m 46 ls []) rfl ?_
  have hR : th_RD G Γ H43 := ⟨hR, fun a o ha => by
    have e9 := k1 a a0 o 0 ha h0
    subst e9
    obtain ⟨tb, o9, f9, g1, g2, g3, g4⟩ := z43_0
    exact ⟨tb, o9, f9, 0, g1, g2, g3, g4, mm28, by decide, by have w0 := tk_0; omega⟩⟩
  refine lv_iconst (v := 0) hx hb dX5_read_46 (by decide) ?_
  refine lv_istore (lv' := [(4, .int 0), (0, .ref a0), (1, .ref p1), (2, .ref p2), (3, .int p3)]) hx hb dX5_read_47 hl (by decide) rfl (fun ls hl => ?_)
  have lp49 : ∀ (n49 : Nat) (H49 : Heap) (locs : List Loc) (ls : Array Slot) (j49_4 : Int32), th_B G Γ Γ [(20, 5), (20, 6), (20, 7), (20, 8), (40, 0), (39, 2), (41, 0), (39, 3), (21, 0), (22, 0), (20, 2), (20, 3), (20, 4)] H0 H49 locs → th_RD G Γ H49 → lv_has ls 5 [(0, .ref a0), (4, .int j49_4)] → F = dv_lp f_X5_read_49b (dv G Γ H49, (a0 : Int), j49_4.toInt) → 0 ≤ j49_4.toInt → j49_4.toInt ≤ 12 → th_sl H49 a0 (G.1.2 5 3) = .ref p2 → th_sl H49 a0 (G.1.2 5 7) = .int 0 → (2147483648 : Int) - j49_4.toInt ≤ (n49 : Int) → W p l e ({ frames := 45, cells := 0, slots := 0, locals := 1336 } : Room) s m ([.ref a0, .ref p1, .ref p2, .int p3] : List Value).toArray below meth c H49 locs 0 0 (MQ below (th_Q (fun (v : Option Value) (H1 : Heap) => ∃ r : Int32, v = some (.int r) ∧ th_I G Γ H1 ∧ th_F G Γ [(20, 5), (20, 6), (20, 7), (20, 8), (40, 0), (39, 2), (41, 0), (39, 3), (21, 0), (22, 0), (20, 2), (20, 3), (20, 4)] H0 H1 ∧ th_RC G Γ H1 ∧ (f_X5_read (dv G Γ H0) (a0 : Int) (p1 : Int) (p2 : Int) p3.toInt = (dv G Γ H1, r.toInt))) G) ([.ref a0, .ref p1, .ref p2, .int p3] : List Value).toArray s 0 0 (fun q => G.2.2 ≤ q)) (F0 m 49 ls []) := by
    intro n49
    induction n49 with
    | zero => intro H49 locs ls j49_4 hB hR hl hF g49_0 g49_1 g49_2 g49_3 hm49; exact absurd hm49 (by have := ti_hi j49_4; omega)
    | succ n49 ih49 =>
      intro H49 locs ls j49_4 hB hR hl hF g49_0 g49_1 g49_2 g49_3 hm49
      have lj49_4 := ti_lo j49_4; have uj49_4 := ti_hi j49_4
      have hm49 : (2147483648 : Int) - j49_4.toInt ≤ (n49 : Int) + 1 := by omega
      replace hF := hF.trans (dv_lp_eq)
      replace hF := hF.trans (congrArg (dv_k f_X5_read_49b) (f_X5_read_49c.eq_1 (dv G Γ H49) ((a0 : Int)) (j49_4.toInt)))
      refine lv_iload hx hb dX5_read_49 (lv_at hl 1 rfl) ?_
      refine lv_bipush (v := 12) hx hb dX5_read_51 (by decide) ?_
      have jn105 : ∀ (locs : List Loc) (ls : Array Slot) , th_B G Γ Γ [(20, 5), (20, 6), (20, 7), (20, 8), (40, 0), (39, 2), (41, 0), (39, 3), (21, 0), (22, 0), (20, 2), (20, 3), (20, 4)] H0 H49 locs → lv_has ls 5 [(0, .ref a0)] → F = dv_k f_X5_read_49b (f_X5_read_105 (dv G Γ H49) ((a0 : Int))) → W p l e ({ frames := 45, cells := 0, slots := 0, locals := 1336 } : Room) s m ([.ref a0, .ref p1, .ref p2, .int p3] : List Value).toArray below meth c H49 locs 0 0 (MQ below (th_Q (fun (v : Option Value) (H1 : Heap) => ∃ r : Int32, v = some (.int r) ∧ th_I G Γ H1 ∧ th_F G Γ [(20, 5), (20, 6), (20, 7), (20, 8), (40, 0), (39, 2), (41, 0), (39, 3), (21, 0), (22, 0), (20, 2), (20, 3), (20, 4)] H0 H1 ∧ th_RC G Γ H1 ∧ (f_X5_read (dv G Γ H0) (a0 : Int) (p1 : Int) (p2 : Int) p3.toInt = (dv G Γ H1, r.toInt))) G) ([.ref a0, .ref p1, .ref p2, .int p3] : List Value).toArray s 0 0 (fun q => G.2.2 ≤ q)) (F0 m 105 ls []) := by
        intro locs ls hB hl hF
        replace hF := hF.trans (congrArg (dv_k f_X5_read_49b) (f_X5_read_105.eq_1 (dv G Γ H49) ((a0 : Int))))
        refine lv_aload_n hx hb dX5_read_105 rfl (lv_at hl 0 rfl) ?_
        refine th_call (th_runV (As := []) (rest := []) hC mf_X5_fail km_X5_58 im_X5_fail se_X5_fail (c_X5_fail l G Γ H49 hB.1 hR hU a0 h0) rfl rfl ⟨Nat.le_of_ble_eq_true rfl, Nat.le_of_ble_eq_true rfl⟩ hB.1 h0 ro_20 rfl rfl hl.1 rfl (Nat.le_of_ble_eq_true rfl) dX5_read_106 ⟨Nat.le_refl _, Nat.le_refl _⟩) hB.2.1 (fun v106 H106 locs hp hz hS => ?_)
        obtain ⟨rfl, hI1, hf, hR, z106_0⟩ := hp
        have hB := th_B_c hB hI1 hS hf (by decide)
        have mm31 := (th_F_o hf h0 ro_20 (j := 3) (by decide) (by decide)).trans g49_2
        have mm32 := (th_F_o hf h0 ro_20 (j := 7) (by decide) (by decide)).trans g49_3
        replace hF := hF.trans (congrArg (dv_k f_X5_read_49b) (dv_bn2 (z106_0)))
        refine W.eq (g2 := F0 m 109 ls []) rfl ?_
        refine lv_aload_n hx hb dX5_read_109 rfl (lv_at hl 0 rfl) ?_
        refine th_getI (j := 8) hC cf_X5 hB.1 h0 ro_20 rfl rfl kf_X5_40 dX5_read_110 (fun x33 mx33 lx33 ux33 => ?_)
        replace hF := hF.trans (congrArg (dv_k f_X5_read_49b) (dv_bn (dv_getI h0 ro_20 (j := 8) rfl mx33 (by decide))))
        replace hF := hF.trans (dv_kr)
        exact th_iret hC hH hr hlocks rfl hB.2.1 ⟨_, rfl, hB.1, hB.2.2, hR.1, (hF0.symm.trans hF)⟩ dX5_read_113
      refine tr_icmp_ge (tgt := 105) hx hb dX5_read_53 (by decide) (Eq.refl _) tk_12 (fun c53 => ?_) (fun c53 => ?_)
      · replace hF := hF.trans (congrArg (dv_k f_X5_read_49b) (if_pos c53))
        exact jn105 locs ls hB (lv_sub hl [0] rfl) hF
      · replace hF := hF.trans (congrArg (dv_k f_X5_read_49b) (if_neg (Int.not_le.mpr c53)))
        refine lv_aload_n hx hb dX5_read_56 rfl (lv_at hl 0 rfl) ?_
        refine th_getI (j := 8) hC cf_X5 hB.1 h0 ro_20 rfl rfl kf_X5_40 dX5_read_57 (fun x34 mx34 lx34 ux34 => ?_)
        replace hF := hF.trans (congrArg (dv_k f_X5_read_49b) (dv_bn (dv_getI h0 ro_20 (j := 8) rfl mx34 (by decide))))
        refine lv_iconst (v := (-1)) hx hb dX5_read_60 (by decide) ?_
        refine tr_icmp_ne (tgt := 105) hx hb dX5_read_61 (by decide) (Eq.refl _) tk_m1 (fun c61 => ?_) (fun c61 => ?_)
        · replace hF := hF.trans (congrArg (dv_k f_X5_read_49b) (if_pos c61))
          exact jn105 locs ls hB (lv_sub hl [0] rfl) hF
        · replace hF := hF.trans (congrArg (dv_k f_X5_read_49b) (if_neg (not_not_intro c61)))
          refine lv_aload_n hx hb dX5_read_64 rfl (lv_at hl 0 rfl) ?_
          refine th_call (th_runV (As := []) (rest := []) hC mf_X5_readClause km_X5_51 im_X5_readClause se_X5_readClause (c_X5_readClause l G Γ H49 hB.1 hR hU a0 h0 ⟨_, g49_2, h2⟩ 0 g49_3 (by decide)) rfl rfl ⟨Nat.le_of_ble_eq_true rfl, Nat.le_of_ble_eq_true rfl⟩ hB.1 h0 ro_20 rfl rfl hl.1 rfl (Nat.le_of_ble_eq_true rfl) dX5_read_65 ⟨Nat.le_refl _, Nat.le_refl _⟩) hB.2.1 (fun v65 H65 locs hp hz hS => ?_)
          obtain ⟨rfl, hI1, hf, hR, z65_0, z65_1⟩ := hp
          have hB := th_B_c hB hI1 hS hf (by decide)
          have mm35 := (th_F_o hf h0 ro_20 (j := 3) (by decide) (by decide)).trans g49_2
          replace hF := hF.trans (congrArg (dv_k f_X5_read_49b) (dv_bn2 (z65_1)))
          refine W.eq (g2 := F0 m 68 ls []) rfl ?_
          refine lv_aload_n hx hb dX5_read_68 rfl (lv_at hl 0 rfl) ?_
          refine lv_bipush (v := 59) hx hb dX5_read_69 (by decide) ?_
          refine th_call (th_runV (As := [.int 59]) (rest := []) hC mf_X5_take km_X5_54 im_X5_take se_X5_take (c_X5_take l G Γ H65 hB.1 hR hU a0 h0 59 (by decide)) rfl rfl ⟨Nat.le_of_ble_eq_true rfl, Nat.le_of_ble_eq_true rfl⟩ hB.1 h0 ro_20 rfl rfl hl.1 rfl (Nat.le_of_ble_eq_true rfl) dX5_read_71 ⟨Nat.le_refl _, Nat.le_refl _⟩) hB.2.1 (fun v71 H71 locs hp hz hS => ?_)
          obtain ⟨x36, rfl, lx36, ux36, hI1, hf, hR, z71_0, z71_1⟩ := hp
          have hB := th_B_c hB hI1 hS hf (by decide)
          have mm37 := (th_F_o hf h0 ro_20 (j := 3) (by decide) (by decide)).trans mm35
          have mm38 := (th_F_o hf h0 ro_20 (j := 7) (by decide) (by decide)).trans z65_0
          have zf71 := z71_1
          rw [tk_59] at zf71
          replace hF := hF.trans (congrArg (dv_k f_X5_read_49b) (dv_bn2 (zf71)))
          refine W.eq (g2 := F0 m 74 ls [.int x36]) rfl ?_
          refine tr_if_ne (tgt := 99) hx hb dX5_read_74 (by decide) (Eq.refl _) (fun c74 => ?_) (fun c74 => ?_)
          · replace hF := hF.trans (congrArg (dv_k f_X5_read_49b) (if_pos c74))
            refine tr_iinc (fun x39 => [(4, .int x39), (0, .ref a0)]) hx hb dX5_read_99 hl (k := 1) rfl (Eq.refl _) tk_1 (by omega) (by omega) (by decide) (fun _ => rfl) (fun x39 ls ex39 hl => ?_)
            replace hF := hF.trans (congrArg (dv_k f_X5_read_49b) (dv_bn (ex39.symm)))
            refine lv_goto (tgt := 49) hx hb dX5_read_102 (by decide) ?_
            replace hF := hF.trans (dv_kl)
            exact ih49 H71 locs ls x39 hB hR (lv_sub hl [1, 0] rfl) hF (by omega) (by omega) mm37 mm38 (by omega)
          · replace hF := hF.trans (congrArg (dv_k f_X5_read_49b) (if_neg (not_not_intro c74)))
            refine lv_aload_n hx hb dX5_read_77 rfl (lv_at hl 0 rfl) ?_
            refine th_getO (j := 0) (r2 := 21) hC cf_X5 hB.1 h0 ro_20 rfl rfl kf_X5_11 dX5_read_78 (fun b40 mb40 hb40 => ?_)
            refine lv_aload_n hx hb dX5_read_81 rfl (lv_at hl 0 rfl) ?_
            refine th_getI (j := 5) hC cf_X5 hB.1 h0 ro_20 rfl rfl kf_X5_30 dX5_read_82 (fun x41 mx41 lx41 ux41 => ?_)
            obtain ⟨rax41, rbx41⟩ := th_RI_at (hR.2 _ _ h0) mx41
            replace hF := hF.trans (congrArg (dv_k f_X5_read_49b) (dv_bn (dv_getI h0 ro_20 (j := 5) rfl mx41 (by decide))))
            refine th_ialdF hC hB.1 hb40 ro_21 rfl (Eq.refl _) (by omega) (by omega) rfl dX5_read_85 (fun x42 mx42 lx42 ux42 => ?_)
            replace hF := hF.trans (congrArg (dv_k f_X5_read_49b) (dv_bn (dv_aldI hB.1 hU hb40 ow_21 (z := x41.toInt) mx42 (by omega))))
            refine lv_iconst (v := (-1)) hx hb dX5_read_86 (by decide) ?_
            refine tr_icmp_eq (tgt := 94) hx hb dX5_read_87 (by decide) (Eq.refl _) tk_m1 (fun c87 => ?_) (fun c87 => ?_)
            · replace hF := hF.trans (congrArg (dv_k f_X5_read_49b) (if_pos c87))
              refine lv_aload_n hx hb dX5_read_94 rfl (lv_at hl 0 rfl) ?_
              refine th_getI (j := 8) hC cf_X5 hB.1 h0 ro_20 rfl rfl kf_X5_40 dX5_read_95 (fun x43 mx43 lx43 ux43 => ?_)
              replace hF := hF.trans (congrArg (dv_k f_X5_read_49b) (dv_bn (dv_getI h0 ro_20 (j := 8) rfl mx43 (by decide))))
              replace hF := hF.trans (dv_kr)
              exact th_iret hC hH hr hlocks rfl hB.2.1 ⟨_, rfl, hB.1, hB.2.2, hR.1, (hF0.symm.trans hF)⟩ dX5_read_98
            · replace hF := hF.trans (congrArg (dv_k f_X5_read_49b) (if_neg c87))
              refine lv_aload_n hx hb dX5_read_90 rfl (lv_at hl 0 rfl) ?_
              refine th_call (th_runV (As := []) (rest := []) hC mf_X5_fail km_X5_58 im_X5_fail se_X5_fail (c_X5_fail l G Γ H71 hB.1 hR hU a0 h0) rfl rfl ⟨Nat.le_of_ble_eq_true rfl, Nat.le_of_ble_eq_true rfl⟩ hB.1 h0 ro_20 rfl rfl hl.1 rfl (Nat.le_of_ble_eq_true rfl) dX5_read_91 ⟨Nat.le_refl _, Nat.le_refl _⟩) hB.2.1 (fun v91 H91 locs hp hz hS => ?_)
              obtain ⟨rfl, hI1, hf, hR, z91_0⟩ := hp
              have hB := th_B_c hB hI1 hS hf (by decide)
              have mm44 := (th_F_o hf h0 ro_20 (j := 3) (by decide) (by decide)).trans mm37
              have mm45 := (th_F_o hf h0 ro_20 (j := 7) (by decide) (by decide)).trans mm38
              replace hF := hF.trans (congrArg (dv_k f_X5_read_49b) (dv_bn2 (z91_0)))
              refine W.eq (g2 := F0 m 94 ls []) rfl ?_
              refine lv_aload_n hx hb dX5_read_94 rfl (lv_at hl 0 rfl) ?_
              refine th_getI (j := 8) hC cf_X5 hB.1 h0 ro_20 rfl rfl kf_X5_40 dX5_read_95 (fun x46 mx46 lx46 ux46 => ?_)
              replace hF := hF.trans (congrArg (dv_k f_X5_read_49b) (dv_bn (dv_getI h0 ro_20 (j := 8) rfl mx46 (by decide))))
              replace hF := hF.trans (dv_kr)
              exact th_iret hC hH hr hlocks rfl hB.2.1 ⟨_, rfl, hB.1, hB.2.2, hR.1, (hF0.symm.trans hF)⟩ dX5_read_98
  exact lp49 ((2147483648 : Int) - (0)).toNat H43 locs ls 0 hB hR (lv_sub hl [1, 0] rfl) (by rw [tk_0]; exact hF) (by decide) (by decide) mm27 mm29 (by have w0 := tk_0; omega)
