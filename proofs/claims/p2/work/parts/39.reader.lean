def s_X5_readPart (d : Nat) : Prop := ∀ (l : Launch) (G : th_G) (Γ : th_Ga) (H0 : Heap) (hI : th_I G Γ H0) (hR : th_RD G Γ H0) (hU : dv_U Γ) (a0 : Nat) (h0 : Γ a0 = (20, 0)) (nn3 : ∃ b : Nat, th_sl H0 a0 (G.1.2 5 3) = .ref b ∧ Γ b = (39, 0)) (bv : Int32) (mbv : th_sl H0 a0 (G.1.2 5 7) = .int bv) (hdm : 8 ≤ bv.toInt + (d : Int)), Met l yX5_readPart (.code yX5_readPart cX5_readPart 4 (none) :: th_tb) ({ frames := 6 + 2 * d, cells := 0, slots := 0, locals := 400 + d * 46 } : Room) (th_P [.ref a0] G H0) (th_Q (fun (v : Option Value) (H1 : Heap) => v = none ∧ th_I G Γ H1 ∧ th_F G Γ [(20, 5), (20, 6), (20, 7), (20, 8), (40, 0), (39, 2)] H0 H1 ∧ th_RD G Γ H1 ∧ (th_sl H1 a0 (G.1.2 5 7) = .int bv) ∧ (f_X5_readPart d (dv G Γ H0) (a0 : Int) = (dv G Γ H1, 0))) G) 0 0 (fun q => G.2.2 ≤ q)

def s_X5_readSum (d : Nat) : Prop := ∀ (l : Launch) (G : th_G) (Γ : th_Ga) (H0 : Heap) (hI : th_I G Γ H0) (hR : th_RD G Γ H0) (hU : dv_U Γ) (a0 : Nat) (h0 : Γ a0 = (20, 0)) (nn3 : ∃ b : Nat, th_sl H0 a0 (G.1.2 5 3) = .ref b ∧ Γ b = (39, 0)) (bv : Int32) (mbv : th_sl H0 a0 (G.1.2 5 7) = .int bv) (hdm : 8 ≤ bv.toInt + (d : Int)), Met l yX5_readSum (.code yX5_readSum cX5_readSum 4 (none) :: th_tb) ({ frames := 7 + 2 * d, cells := 0, slots := 0, locals := 423 + d * 46 } : Room) (th_P [.ref a0] G H0) (th_Q (fun (v : Option Value) (H1 : Heap) => v = none ∧ th_I G Γ H1 ∧ th_F G Γ [(20, 5), (20, 6), (20, 7), (20, 8), (40, 0), (39, 2)] H0 H1 ∧ th_RD G Γ H1 ∧ (th_sl H1 a0 (G.1.2 5 7) = .int bv) ∧ (f_X5_readSum d (dv G Γ H0) (a0 : Int) = (dv G Γ H1, 0))) G) 0 0 (fun q => G.2.2 ≤ q)

set_option maxHeartbeats 4000000 in
set_option maxRecDepth 100000 in
theorem c_X5_readPart_s (d : Nat) (ihd : ∀ d', d = d' + 1 → s_X5_readSum d') : s_X5_readPart d := by
  intro l G Γ H0 hI hR hU a0 h0 nn3 bv mbv hdm
  refine th_met RX5 (by decide) rfl (Nat.le_of_ble_eq_true rfl) ?_
  intro p e s m below meth c hC hH hr hlocks hnm ls hl
  have hx := hC.1
  have hb := hC.2.1
  have hB : th_B G Γ Γ [(20, 5), (20, 6), (20, 7), (20, 8), (40, 0), (39, 2)] H0 H0 [] := ⟨hI, va_S.rf, th_F_rf⟩
  have hl : lv_has ls 4 [(0, .ref a0)] := hl
  have lbv := ti_lo bv; have ubv := ti_hi bv
  obtain ⟨bn3, mbn3, hbn3⟩ := nn3
  obtain ⟨F, hF0⟩ : ∃ F, F = f_X5_readPart d (dv G Γ H0) ((a0 : Int)) := ⟨_, rfl⟩
  have hF := hF0.trans ((f_X5_readPart_d d (dv G Γ H0) ((a0 : Int))).trans (f_X5_readPart_B.eq_1 d (dv_pre (fun _ _ => dv_z) f_X5_readSum d) (dv G Γ H0) ((a0 : Int))))
  refine lv_aload_n hx hb dX5_readPart_0 rfl (lv_at hl 0 rfl) ?_
  refine th_call (th_runV (As := []) (rest := []) hC mf_X5_seenToken km_X5_186 im_X5_seenToken se_X5_seenToken (c_X5_seenToken l G Γ H0 hB.1 hR hU a0 h0) rfl rfl ⟨by dsimp only; omega, by dsimp only; omega⟩ hB.1 h0 ro_20 rfl rfl hl.1 rfl (Nat.le_of_ble_eq_true rfl) dX5_readPart_1 ⟨Nat.le_refl _, Nat.le_refl _⟩) hB.2.1 (fun v1 H1 locs hp hz hS => ?_)
  obtain ⟨x1, rfl, q1_0, q1_1, rfl⟩ := hp
  have hB := th_B_s hB hS
  replace hF := hF.trans (dv_bn2 (q1_1))
  refine W.eq (g2 := F0 m 4 ls [.int x1]) rfl ?_
  refine lv_istore_n (lv' := [(1, .int x1), (0, .ref a0)]) hx hb dX5_readPart_4 rfl hl (by decide) rfl (fun ls hl => ?_)
  refine lv_iload_n hx hb dX5_readPart_5 rfl (lv_at hl 0 rfl) ?_
  refine lv_bipush (v := 91) hx hb dX5_readPart_6 (by decide) ?_
  refine tr_icmp_ne (tgt := 46) hx hb dX5_readPart_8 (by decide) (Eq.refl _) tk_91 (fun c8 => ?_) (fun c8 => ?_)
  · replace hF := hF.trans (if_pos c8)
    refine lv_aload_n hx hb dX5_readPart_46 rfl (lv_at hl 1 rfl) ?_
    refine th_getI (j := 6) hC cf_X5 hB.1 h0 ro_20 rfl rfl kf_X5_34 dX5_readPart_47 (fun x2 mx2 lx2 ux2 => ?_)
    replace hF := hF.trans (dv_bn (dv_getI h0 ro_20 (j := 6) rfl mx2 (by decide)))
    refine lv_bipush (v := 50) hx hb dX5_readPart_50 (by decide) ?_
    refine tr_icmp_lt (tgt := 60) hx hb dX5_readPart_52 (by decide) (Eq.refl _) tk_50 (fun c52 => ?_) (fun c52 => ?_)
    · replace hF := hF.trans (if_pos c52)
      refine lv_aload_n hx hb dX5_readPart_60 rfl (lv_at hl 1 rfl) ?_
      refine lv_dup hx hb dX5_readPart_61 rfl ?_
      refine th_getK hC cf_X5 hB.1 h0 ro_20 rfl (j := 6) (by decide) mx2 kf_X5_34 dX5_readPart_62 ?_
      replace hF := hF.trans (dv_bn (dv_getI h0 ro_20 (j := 6) rfl mx2 (by decide)))
      refine lv_iconst (v := 1) hx hb dX5_readPart_65 (by decide) ?_
      refine tr_iadd hx hb dX5_readPart_66 (Eq.refl _) tk_1 (by omega) (by omega) (fun x3 ex3 => ?_)
      replace hF := hF.trans (dv_bn (ex3.symm))
      refine th_put hC cf_X5 hB h0 (Or.inl h0) ro_20 rfl (j := 6) rfl th_sIa (by decide) rfl rfl rfl kf_X5_34 dX5_readPart_67 (fun H67 locs hB hf hst67 => ?_)
      have mm4 := (th_F_o hf h0 ro_20 (j := 7) (by decide) (by decide)).trans mbv
      have mm5 := (th_F_o hf h0 ro_20 (j := 3) (by decide) (by decide)).trans mbn3
      have mc6 := th_TKi_F q1_0 h0 hf (by decide)
      have hR := th_RD_F hB.1 hR hf (th_T_s h0 ro_20 hst67) (by decide)
      replace hF := hF.trans (dv_bn (dv_putI hB.1 h0 ro_20 (j := 6) rfl (th_apart hC cf_X5) hst67 (Eq.refl _) (by decide)))
      refine lv_iload_n hx hb dX5_readPart_70 rfl (lv_at hl 0 rfl) ?_
      refine lv_sipush (v := 400) hx hb dX5_readPart_71 (by decide) ?_
      refine tr_icmp_lt (tgt := 88) hx hb dX5_readPart_74 (by decide) (Eq.refl _) tk_400 (fun c74 => ?_) (fun c74 => ?_)
      · replace hF := hF.trans (if_pos c74)
        refine lv_aload_n hx hb dX5_readPart_88 rfl (lv_at hl 1 rfl) ?_
        refine th_getI (j := 4) hC cf_X5 hB.1 h0 ro_20 rfl rfl kf_X5_26 dX5_readPart_89 (fun x7 mx7 lx7 ux7 => ?_)
        replace hF := hF.trans (dv_bn (dv_getI h0 ro_20 (j := 4) rfl mx7 (by decide)))
        have sx7 := (th_F_o hB.2.2 h0 ro_20 (j := 4) (by decide) (by decide)).symm.trans mx7
        refine tr_if_eq (tgt := 102) hx hb dX5_readPart_92 (by decide) (Eq.refl _) (fun c92 => ?_) (fun c92 => ?_)
        · replace hF := hF.trans (if_pos c92)
          refine lv_iload_n hx hb dX5_readPart_102 rfl (lv_at hl 0 rfl) ?_
          refine th_call (th_runS (As := [.int x1]) (rest := []) hC mf_X5_lawCode km_X5_211 st_X5_lawCode (c_X5_lawCode l G Γ H67 hB.1 hU x1) rfl rfl ⟨by dsimp only; omega, by dsimp only; omega⟩ rfl hl.1 rfl (Nat.le_of_ble_eq_true rfl) dX5_readPart_103 ⟨Nat.le_refl _, Nat.le_refl _⟩) hB.2.1 (fun v103 H103 locs hp hz hS => ?_)
          obtain ⟨x8, rfl, lx8, ux8, q103_0, q103_1, rfl⟩ := hp
          have hB := th_B_s hB hS
          replace hF := hF.trans (dv_bn2 (q103_1))
          refine W.eq (g2 := F0 m 106 ls [.int x8]) rfl ?_
          refine lv_istore_n (lv' := [(2, .int x8), (1, .int x1), (0, .ref a0)]) hx hb dX5_readPart_106 rfl hl (by decide) rfl (fun ls hl => ?_)
          refine lv_aload_n hx hb dX5_readPart_107 rfl (lv_at hl 2 rfl) ?_
          refine lv_dup hx hb dX5_readPart_108 rfl ?_
          refine th_getI (j := 5) hC cf_X5 hB.1 h0 ro_20 rfl rfl kf_X5_30 dX5_readPart_109 (fun x9 mx9 lx9 ux9 => ?_)
          obtain ⟨rax9, rbx9⟩ := th_RI_at (hR.2 _ _ h0) mx9
          replace hF := hF.trans (dv_bn (dv_getI h0 ro_20 (j := 5) rfl mx9 (by decide)))
          refine lv_iload_n hx hb dX5_readPart_112 rfl (lv_at hl 0 rfl) ?_
          refine lv_iconst (v := (-1)) hx hb dX5_readPart_113 (by decide) ?_
          refine tr_icmp_eq (tgt := 128) hx hb dX5_readPart_114 (by decide) (Eq.refl _) tk_m1 (fun c114 => ?_) (fun c114 => ?_)
          · replace hF := hF.trans (if_pos c114)
            refine lv_iconst (v := 0) hx hb dX5_readPart_128 (by decide) ?_
            refine tr_iadd hx hb dX5_readPart_129 (Eq.refl _) tk_0 (by omega) (by omega) (fun x10 ex10 => ?_)
            replace hF := hF.trans (dv_bn (ex10.symm))
            refine th_put hC cf_X5 hB h0 (Or.inl h0) ro_20 rfl (j := 5) rfl th_sIa (by decide) rfl rfl rfl kf_X5_30 dX5_readPart_130 (fun H130 locs hB hf hst130 => ?_)
            have mm11 := (th_F_o hf h0 ro_20 (j := 7) (by decide) (by decide)).trans mm4
            have mm12 := (th_F_o hf h0 ro_20 (j := 3) (by decide) (by decide)).trans mm5
            have mm13 := (th_F_o hf h0 ro_20 (j := 4) (by decide) (by decide)).trans mx7
            replace hF := hF.trans (dv_bn (dv_putI hB.1 h0 ro_20 (j := 5) rfl (th_apart hC cf_X5) hst130 (Eq.refl _) (by decide)))
            have hR := th_RD_st (th_RC_F hB.1 hR.1 hf (th_T_s h0 ro_20 hst130) (by decide)) hR h0 hst130 (th_RI_same (th_apart hC cf_X5 0 5 (by decide) (by decide) (by decide)) (hR.2 _ _ h0) h0 mx9 (by have w0 := tk_0; omega) hst130)
            refine lv_aload_n hx hb dX5_readPart_133 rfl (lv_at hl 2 rfl) ?_
            refine th_getK hC cf_X5 hB.1 h0 ro_20 rfl (j := 4) (by decide) mm13 kf_X5_26 dX5_readPart_134 ?_
            replace hF := hF.trans (dv_bn (dv_getI h0 ro_20 (j := 4) rfl mm13 (by decide)))
            have jn175 : ∀ (H175 : Heap) (locs : List Loc) (ls : Array Slot) (j175_2 : Int32), th_B G Γ Γ [(20, 5), (20, 6), (20, 7), (20, 8), (40, 0), (39, 2)] H0 H175 locs → th_RD G Γ H175 → lv_has ls 4 [(0, .ref a0), (2, .int j175_2)] → F = f_X5_readPart_175 d (dv_pre (fun _ _ => dv_z) f_X5_readSum d) (dv G Γ H175) ((a0 : Int)) (j175_2.toInt) → (-1) ≤ j175_2.toInt → j175_2.toInt ≤ 16383 → th_sl H175 a0 (G.1.2 5 7) = .int bv → W p l e ({ frames := 6 + 2 * d, cells := 0, slots := 0, locals := 400 + d * 46 } : Room) s m ([.ref a0] : List Value).toArray below meth c H175 locs 0 0 (MQ below (th_Q (fun (v : Option Value) (H1 : Heap) => v = none ∧ th_I G Γ H1 ∧ th_F G Γ [(20, 5), (20, 6), (20, 7), (20, 8), (40, 0), (39, 2)] H0 H1 ∧ th_RD G Γ H1 ∧ (th_sl H1 a0 (G.1.2 5 7) = .int bv) ∧ (f_X5_readPart d (dv G Γ H0) (a0 : Int) = (dv G Γ H1, 0))) G) ([.ref a0] : List Value).toArray s 0 0 (fun q => G.2.2 ≤ q)) (F0 m 175 ls []) := by
              intro H175 locs ls j175_2 hB hR hl hF g175_0 g175_1 g175_2
              have lj175_2 := ti_lo j175_2; have uj175_2 := ti_hi j175_2
              have mm14 := (th_F_o hB.2.2 h0 ro_20 (j := 3) (by decide) (by decide)).trans mbn3
              replace hF := hF.trans (f_X5_readPart_175.eq_1 d (dv_pre (fun _ _ => dv_z) f_X5_readSum d) (dv G Γ H175) ((a0 : Int)) (j175_2.toInt))
              refine lv_iload_n hx hb dX5_readPart_175 rfl (lv_at hl 1 rfl) ?_
              refine lv_iconst (v := (-1)) hx hb dX5_readPart_176 (by decide) ?_
              have jn184 : ∀ (H184 : Heap) (locs : List Loc) (ls : Array Slot) , th_B G Γ Γ [(20, 5), (20, 6), (20, 7), (20, 8), (40, 0), (39, 2)] H0 H184 locs → th_RD G Γ H184 → lv_has ls 4 [(0, .ref a0), (2, .int j175_2)] → F = f_X5_readPart_184 d (dv_pre (fun _ _ => dv_z) f_X5_readSum d) (dv G Γ H184) ((a0 : Int)) (j175_2.toInt) → th_sl H184 a0 (G.1.2 5 7) = .int bv → W p l e ({ frames := 6 + 2 * d, cells := 0, slots := 0, locals := 400 + d * 46 } : Room) s m ([.ref a0] : List Value).toArray below meth c H184 locs 0 0 (MQ below (th_Q (fun (v : Option Value) (H1 : Heap) => v = none ∧ th_I G Γ H1 ∧ th_F G Γ [(20, 5), (20, 6), (20, 7), (20, 8), (40, 0), (39, 2)] H0 H1 ∧ th_RD G Γ H1 ∧ (th_sl H1 a0 (G.1.2 5 7) = .int bv) ∧ (f_X5_readPart d (dv G Γ H0) (a0 : Int) = (dv G Γ H1, 0))) G) ([.ref a0] : List Value).toArray s 0 0 (fun q => G.2.2 ≤ q)) (F0 m 184 ls []) := by
                intro H184 locs ls hB hR hl hF g184_0
                have mm15 := (th_F_o hB.2.2 h0 ro_20 (j := 3) (by decide) (by decide)).trans mbn3
                replace hF := hF.trans (f_X5_readPart_184.eq_1 d (dv_pre (fun _ _ => dv_z) f_X5_readSum d) (dv G Γ H184) ((a0 : Int)) (j175_2.toInt))
                refine lv_aload_n hx hb dX5_readPart_184 rfl (lv_at hl 0 rfl) ?_
                refine th_getK hC cf_X5 hB.1 h0 ro_20 rfl (j := 3) (by decide) mm15 kf_X5_22 dX5_readPart_185 ?_
                replace hF := hF.trans (dv_bn (dv_getR h0 ro_20 (j := 3) rfl mm15 (by decide)))
                refine lv_iload_n hx hb dX5_readPart_188 rfl (lv_at hl 1 rfl) ?_
                refine th_call (th_runV (As := [.int j175_2]) (rest := []) hC mf_X10_add km_X5_199 im_X10_add se_X10_add (c_X10_add l G Γ H184 hB.1 hR.1 hU bn3 hbn3 j175_2 (by omega)) rfl rfl ⟨by dsimp only; omega, by dsimp only; omega⟩ hB.1 hbn3 ro_39 rfl rfl hl.1 rfl (Nat.le_of_ble_eq_true rfl) dX5_readPart_189 ⟨Nat.le_refl _, Nat.le_refl _⟩) hB.2.1 (fun v189 H189 locs hp hz hS => ?_)
                have hRD := hR
                obtain ⟨rfl, hI1, hf, hR, z189_0⟩ := hp
                have hR := th_RD_c hR hRD hf (by decide)
                have hB := th_B_c hB hI1 hS hf (by decide)
                have mm16 := (th_F_o hf h0 ro_20 (j := 7) (by decide) (by decide)).trans g184_0
                have mm17 := (th_F_o hf h0 ro_20 (j := 3) (by decide) (by decide)).trans mm15
                replace hF := hF.trans (dv_bn2 (z189_0))
                refine W.eq (g2 := F0 m 192 ls []) rfl ?_
                exact th_vret hC hH hr hlocks hB.2.1 ⟨rfl, hB.1, hB.2.2, hR, mm16, (hF0.symm.trans hF)⟩ dX5_readPart_192
              refine tr_icmp_ne (tgt := 184) hx hb dX5_readPart_177 (by decide) (Eq.refl _) tk_m1 (fun c177 => ?_) (fun c177 => ?_)
              · replace hF := hF.trans (if_pos c177)
                exact jn184 H175 locs ls hB hR (lv_sub hl [0, 1] rfl) hF g175_2
              · replace hF := hF.trans (if_neg (not_not_intro c177))
                refine lv_aload_n hx hb dX5_readPart_180 rfl (lv_at hl 0 rfl) ?_
                refine th_call (th_runV (As := []) (rest := []) hC mf_X5_fail km_X5_58 im_X5_fail se_X5_fail (c_X5_fail l G Γ H175 hB.1 hR hU a0 h0) rfl rfl ⟨by dsimp only; omega, by dsimp only; omega⟩ hB.1 h0 ro_20 rfl rfl hl.1 rfl (Nat.le_of_ble_eq_true rfl) dX5_readPart_181 ⟨Nat.le_refl _, Nat.le_refl _⟩) hB.2.1 (fun v181 H181 locs hp hz hS => ?_)
                obtain ⟨rfl, hI1, hf, hR, z181_0⟩ := hp
                have hB := th_B_c hB hI1 hS hf (by decide)
                have mm18 := (th_F_o hf h0 ro_20 (j := 7) (by decide) (by decide)).trans g175_2
                have mm19 := (th_F_o hf h0 ro_20 (j := 3) (by decide) (by decide)).trans mm14
                replace hF := hF.trans (dv_bn2 (z181_0))
                refine W.eq (g2 := F0 m 184 ls []) rfl ?_
                exact jn184 H181 locs ls hB hR (lv_sub hl [0, 1] rfl) hF mm18
            refine tr_if_eq (tgt := 175) hx hb dX5_readPart_137 (by decide) (Eq.refl _) (fun c137 => ?_) (fun c137 => ?_)
            · replace hF := hF.trans (if_pos c137)
              exact jn175 H130 locs ls x8 hB hR (lv_sub hl [2, 0] rfl) hF (by omega) (by omega) mm11
            · exfalso; omega
          · replace hF := hF.trans (if_neg c114)
            refine lv_iload_n hx hb dX5_readPart_117 rfl (lv_at hl 1 rfl) ?_
            refine lv_sipush (v := 400) hx hb dX5_readPart_118 (by decide) ?_
            refine tr_icmp_ge (tgt := 128) hx hb dX5_readPart_121 (by decide) (Eq.refl _) tk_400 (fun c121 => ?_) (fun c121 => ?_)
            · exfalso; omega
            · replace hF := hF.trans (if_neg (Int.not_le.mpr c121))
              refine lv_iconst (v := 1) hx hb dX5_readPart_124 (by decide) ?_
              refine lv_goto (tgt := 129) hx hb dX5_readPart_125 (by decide) ?_
              refine tr_iadd hx hb dX5_readPart_129 (Eq.refl _) tk_1 (by omega) (by omega) (fun x20 ex20 => ?_)
              replace hF := hF.trans (dv_bn (ex20.symm))
              refine th_put hC cf_X5 hB h0 (Or.inl h0) ro_20 rfl (j := 5) rfl th_sIa (by decide) rfl rfl rfl kf_X5_30 dX5_readPart_130 (fun H130 locs hB hf hst130 => ?_)
              have mm21 := (th_F_o hf h0 ro_20 (j := 7) (by decide) (by decide)).trans mm4
              have mm22 := (th_F_o hf h0 ro_20 (j := 3) (by decide) (by decide)).trans mm5
              have mm23 := (th_F_o hf h0 ro_20 (j := 4) (by decide) (by decide)).trans mx7
              replace hF := hF.trans (dv_bn (dv_putI hB.1 h0 ro_20 (j := 5) rfl (th_apart hC cf_X5) hst130 (Eq.refl _) (by decide)))
              have hR := th_RD_st (th_RC_F hB.1 hR.1 hf (th_T_s h0 ro_20 hst130) (by decide)) hR h0 hst130 (th_RD_up (th_apart hC cf_X5 0 5 (by decide) (by decide) (by decide)) (hR.2 _ _ h0) (mc6 (by omega)) h0 mx9 (by have w1 := tk_1; omega) hst130)
              refine lv_aload_n hx hb dX5_readPart_133 rfl (lv_at hl 2 rfl) ?_
              refine th_getK hC cf_X5 hB.1 h0 ro_20 rfl (j := 4) (by decide) mm23 kf_X5_26 dX5_readPart_134 ?_
              replace hF := hF.trans (dv_bn (dv_getI h0 ro_20 (j := 4) rfl mm23 (by decide)))
              have jn175 : ∀ (H175 : Heap) (locs : List Loc) (ls : Array Slot) (j175_2 : Int32), th_B G Γ Γ [(20, 5), (20, 6), (20, 7), (20, 8), (40, 0), (39, 2)] H0 H175 locs → th_RD G Γ H175 → lv_has ls 4 [(0, .ref a0), (2, .int j175_2)] → F = f_X5_readPart_175x2 d (dv_pre (fun _ _ => dv_z) f_X5_readSum d) (dv G Γ H175) ((a0 : Int)) (j175_2.toInt) → (-1) ≤ j175_2.toInt → j175_2.toInt ≤ 16383 → th_sl H175 a0 (G.1.2 5 7) = .int bv → W p l e ({ frames := 6 + 2 * d, cells := 0, slots := 0, locals := 400 + d * 46 } : Room) s m ([.ref a0] : List Value).toArray below meth c H175 locs 0 0 (MQ below (th_Q (fun (v : Option Value) (H1 : Heap) => v = none ∧ th_I G Γ H1 ∧ th_F G Γ [(20, 5), (20, 6), (20, 7), (20, 8), (40, 0), (39, 2)] H0 H1 ∧ th_RD G Γ H1 ∧ (th_sl H1 a0 (G.1.2 5 7) = .int bv) ∧ (f_X5_readPart d (dv G Γ H0) (a0 : Int) = (dv G Γ H1, 0))) G) ([.ref a0] : List Value).toArray s 0 0 (fun q => G.2.2 ≤ q)) (F0 m 175 ls []) := by
                intro H175 locs ls j175_2 hB hR hl hF g175_0 g175_1 g175_2
                have lj175_2 := ti_lo j175_2; have uj175_2 := ti_hi j175_2
                have mm24 := (th_F_o hB.2.2 h0 ro_20 (j := 3) (by decide) (by decide)).trans mbn3
                replace hF := hF.trans (f_X5_readPart_175x2.eq_1 d (dv_pre (fun _ _ => dv_z) f_X5_readSum d) (dv G Γ H175) ((a0 : Int)) (j175_2.toInt))
                refine lv_iload_n hx hb dX5_readPart_175 rfl (lv_at hl 1 rfl) ?_
                refine lv_iconst (v := (-1)) hx hb dX5_readPart_176 (by decide) ?_
                have jn184 : ∀ (H184 : Heap) (locs : List Loc) (ls : Array Slot) , th_B G Γ Γ [(20, 5), (20, 6), (20, 7), (20, 8), (40, 0), (39, 2)] H0 H184 locs → th_RD G Γ H184 → lv_has ls 4 [(0, .ref a0), (2, .int j175_2)] → F = f_X5_readPart_184x2 d (dv_pre (fun _ _ => dv_z) f_X5_readSum d) (dv G Γ H184) ((a0 : Int)) (j175_2.toInt) → th_sl H184 a0 (G.1.2 5 7) = .int bv → W p l e ({ frames := 6 + 2 * d, cells := 0, slots := 0, locals := 400 + d * 46 } : Room) s m ([.ref a0] : List Value).toArray below meth c H184 locs 0 0 (MQ below (th_Q (fun (v : Option Value) (H1 : Heap) => v = none ∧ th_I G Γ H1 ∧ th_F G Γ [(20, 5), (20, 6), (20, 7), (20, 8), (40, 0), (39, 2)] H0 H1 ∧ th_RD G Γ H1 ∧ (th_sl H1 a0 (G.1.2 5 7) = .int bv) ∧ (f_X5_readPart d (dv G Γ H0) (a0 : Int) = (dv G Γ H1, 0))) G) ([.ref a0] : List Value).toArray s 0 0 (fun q => G.2.2 ≤ q)) (F0 m 184 ls []) := by
                  intro H184 locs ls hB hR hl hF g184_0
                  have mm25 := (th_F_o hB.2.2 h0 ro_20 (j := 3) (by decide) (by decide)).trans mbn3
                  replace hF := hF.trans (f_X5_readPart_184x2.eq_1 d (dv_pre (fun _ _ => dv_z) f_X5_readSum d) (dv G Γ H184) ((a0 : Int)) (j175_2.toInt))
                  refine lv_aload_n hx hb dX5_readPart_184 rfl (lv_at hl 0 rfl) ?_
                  refine th_getK hC cf_X5 hB.1 h0 ro_20 rfl (j := 3) (by decide) mm25 kf_X5_22 dX5_readPart_185 ?_
                  replace hF := hF.trans (dv_bn (dv_getR h0 ro_20 (j := 3) rfl mm25 (by decide)))
                  refine lv_iload_n hx hb dX5_readPart_188 rfl (lv_at hl 1 rfl) ?_
                  refine th_call (th_runV (As := [.int j175_2]) (rest := []) hC mf_X10_add km_X5_199 im_X10_add se_X10_add (c_X10_add l G Γ H184 hB.1 hR.1 hU bn3 hbn3 j175_2 (by omega)) rfl rfl ⟨by dsimp only; omega, by dsimp only; omega⟩ hB.1 hbn3 ro_39 rfl rfl hl.1 rfl (Nat.le_of_ble_eq_true rfl) dX5_readPart_189 ⟨Nat.le_refl _, Nat.le_refl _⟩) hB.2.1 (fun v189 H189 locs hp hz hS => ?_)
                  have hRD := hR
                  obtain ⟨rfl, hI1, hf, hR, z189_0⟩ := hp
                  have hR := th_RD_c hR hRD hf (by decide)
                  have hB := th_B_c hB hI1 hS hf (by decide)
                  have mm26 := (th_F_o hf h0 ro_20 (j := 7) (by decide) (by decide)).trans g184_0
                  have mm27 := (th_F_o hf h0 ro_20 (j := 3) (by decide) (by decide)).trans mm25
                  replace hF := hF.trans (dv_bn2 (z189_0))
                  refine W.eq (g2 := F0 m 192 ls []) rfl ?_
                  exact th_vret hC hH hr hlocks hB.2.1 ⟨rfl, hB.1, hB.2.2, hR, mm26, (hF0.symm.trans hF)⟩ dX5_readPart_192
                refine tr_icmp_ne (tgt := 184) hx hb dX5_readPart_177 (by decide) (Eq.refl _) tk_m1 (fun c177 => ?_) (fun c177 => ?_)
                · replace hF := hF.trans (if_pos c177)
                  exact jn184 H175 locs ls hB hR (lv_sub hl [0, 1] rfl) hF g175_2
                · replace hF := hF.trans (if_neg (not_not_intro c177))
                  refine lv_aload_n hx hb dX5_readPart_180 rfl (lv_at hl 0 rfl) ?_
                  refine th_call (th_runV (As := []) (rest := []) hC mf_X5_fail km_X5_58 im_X5_fail se_X5_fail (c_X5_fail l G Γ H175 hB.1 hR hU a0 h0) rfl rfl ⟨by dsimp only; omega, by dsimp only; omega⟩ hB.1 h0 ro_20 rfl rfl hl.1 rfl (Nat.le_of_ble_eq_true rfl) dX5_readPart_181 ⟨Nat.le_refl _, Nat.le_refl _⟩) hB.2.1 (fun v181 H181 locs hp hz hS => ?_)
                  obtain ⟨rfl, hI1, hf, hR, z181_0⟩ := hp
                  have hB := th_B_c hB hI1 hS hf (by decide)
                  have mm28 := (th_F_o hf h0 ro_20 (j := 7) (by decide) (by decide)).trans g175_2
                  have mm29 := (th_F_o hf h0 ro_20 (j := 3) (by decide) (by decide)).trans mm24
                  replace hF := hF.trans (dv_bn2 (z181_0))
                  refine W.eq (g2 := F0 m 184 ls []) rfl ?_
                  exact jn184 H181 locs ls hB hR (lv_sub hl [0, 1] rfl) hF mm28
              refine tr_if_eq (tgt := 175) hx hb dX5_readPart_137 (by decide) (Eq.refl _) (fun c137 => ?_) (fun c137 => ?_)
              · replace hF := hF.trans (if_pos c137)
                exact jn175 H130 locs ls x8 hB hR (lv_sub hl [2, 0] rfl) hF (by omega) (by omega) mm21
              · exfalso; omega
        · replace hF := hF.trans (if_neg c92)
          refine lv_iload_n hx hb dX5_readPart_95 rfl (lv_at hl 0 rfl) ?_
          refine th_call (th_runS (As := [.int x1]) (rest := []) hC mf_X5_orderCode km_X5_208 st_X5_orderCode (c_X5_orderCode l G Γ H67 hB.1 hU x1) rfl rfl ⟨by dsimp only; omega, by dsimp only; omega⟩ rfl hl.1 rfl (Nat.le_of_ble_eq_true rfl) dX5_readPart_96 ⟨Nat.le_refl _, Nat.le_refl _⟩) hB.2.1 (fun v96 H96 locs hp hz hS => ?_)
          obtain ⟨x30, rfl, lx30, ux30, q96_0, q96_1, rfl⟩ := hp
          have hB := th_B_s hB hS
          replace hF := hF.trans (dv_bn2 (q96_1))
          refine W.eq (g2 := F0 m 99 ls [.int x30]) rfl ?_
          refine lv_goto (tgt := 106) hx hb dX5_readPart_99 (by decide) ?_
          refine lv_istore_n (lv' := [(2, .int x30), (1, .int x1), (0, .ref a0)]) hx hb dX5_readPart_106 rfl hl (by decide) rfl (fun ls hl => ?_)
          refine lv_aload_n hx hb dX5_readPart_107 rfl (lv_at hl 2 rfl) ?_
          refine lv_dup hx hb dX5_readPart_108 rfl ?_
          refine th_getI (j := 5) hC cf_X5 hB.1 h0 ro_20 rfl rfl kf_X5_30 dX5_readPart_109 (fun x31 mx31 lx31 ux31 => ?_)
          obtain ⟨rax31, rbx31⟩ := th_RI_at (hR.2 _ _ h0) mx31
          replace hF := hF.trans (dv_bn (dv_getI h0 ro_20 (j := 5) rfl mx31 (by decide)))
          refine lv_iload_n hx hb dX5_readPart_112 rfl (lv_at hl 0 rfl) ?_
          refine lv_iconst (v := (-1)) hx hb dX5_readPart_113 (by decide) ?_
          refine tr_icmp_eq (tgt := 128) hx hb dX5_readPart_114 (by decide) (Eq.refl _) tk_m1 (fun c114 => ?_) (fun c114 => ?_)
          · replace hF := hF.trans (if_pos c114)
            refine lv_iconst (v := 0) hx hb dX5_readPart_128 (by decide) ?_
            refine tr_iadd hx hb dX5_readPart_129 (Eq.refl _) tk_0 (by omega) (by omega) (fun x32 ex32 => ?_)
            replace hF := hF.trans (dv_bn (ex32.symm))
            refine th_put hC cf_X5 hB h0 (Or.inl h0) ro_20 rfl (j := 5) rfl th_sIa (by decide) rfl rfl rfl kf_X5_30 dX5_readPart_130 (fun H130 locs hB hf hst130 => ?_)
            have mm33 := (th_F_o hf h0 ro_20 (j := 7) (by decide) (by decide)).trans mm4
            have mm34 := (th_F_o hf h0 ro_20 (j := 3) (by decide) (by decide)).trans mm5
            have mm35 := (th_F_o hf h0 ro_20 (j := 4) (by decide) (by decide)).trans mx7
            replace hF := hF.trans (dv_bn (dv_putI hB.1 h0 ro_20 (j := 5) rfl (th_apart hC cf_X5) hst130 (Eq.refl _) (by decide)))
            have hR := th_RD_st (th_RC_F hB.1 hR.1 hf (th_T_s h0 ro_20 hst130) (by decide)) hR h0 hst130 (th_RI_same (th_apart hC cf_X5 0 5 (by decide) (by decide) (by decide)) (hR.2 _ _ h0) h0 mx31 (by have w0 := tk_0; omega) hst130)
            refine lv_aload_n hx hb dX5_readPart_133 rfl (lv_at hl 2 rfl) ?_
            refine th_getK hC cf_X5 hB.1 h0 ro_20 rfl (j := 4) (by decide) mm35 kf_X5_26 dX5_readPart_134 ?_
            replace hF := hF.trans (dv_bn (dv_getI h0 ro_20 (j := 4) rfl mm35 (by decide)))
            have jn175 : ∀ (H175 : Heap) (locs : List Loc) (ls : Array Slot) (j175_2 : Int32), th_B G Γ Γ [(20, 5), (20, 6), (20, 7), (20, 8), (40, 0), (39, 2)] H0 H175 locs → th_RD G Γ H175 → lv_has ls 4 [(0, .ref a0), (2, .int j175_2)] → F = f_X5_readPart_175x3 d (dv_pre (fun _ _ => dv_z) f_X5_readSum d) (dv G Γ H175) ((a0 : Int)) (j175_2.toInt) → (-1) ≤ j175_2.toInt → j175_2.toInt ≤ 16383 → th_sl H175 a0 (G.1.2 5 7) = .int bv → W p l e ({ frames := 6 + 2 * d, cells := 0, slots := 0, locals := 400 + d * 46 } : Room) s m ([.ref a0] : List Value).toArray below meth c H175 locs 0 0 (MQ below (th_Q (fun (v : Option Value) (H1 : Heap) => v = none ∧ th_I G Γ H1 ∧ th_F G Γ [(20, 5), (20, 6), (20, 7), (20, 8), (40, 0), (39, 2)] H0 H1 ∧ th_RD G Γ H1 ∧ (th_sl H1 a0 (G.1.2 5 7) = .int bv) ∧ (f_X5_readPart d (dv G Γ H0) (a0 : Int) = (dv G Γ H1, 0))) G) ([.ref a0] : List Value).toArray s 0 0 (fun q => G.2.2 ≤ q)) (F0 m 175 ls []) := by
              intro H175 locs ls j175_2 hB hR hl hF g175_0 g175_1 g175_2
              have lj175_2 := ti_lo j175_2; have uj175_2 := ti_hi j175_2
              have mm36 := (th_F_o hB.2.2 h0 ro_20 (j := 3) (by decide) (by decide)).trans mbn3
              replace hF := hF.trans (f_X5_readPart_175x3.eq_1 d (dv_pre (fun _ _ => dv_z) f_X5_readSum d) (dv G Γ H175) ((a0 : Int)) (j175_2.toInt))
              refine lv_iload_n hx hb dX5_readPart_175 rfl (lv_at hl 1 rfl) ?_
              refine lv_iconst (v := (-1)) hx hb dX5_readPart_176 (by decide) ?_
              have jn184 : ∀ (H184 : Heap) (locs : List Loc) (ls : Array Slot) , th_B G Γ Γ [(20, 5), (20, 6), (20, 7), (20, 8), (40, 0), (39, 2)] H0 H184 locs → th_RD G Γ H184 → lv_has ls 4 [(0, .ref a0), (2, .int j175_2)] → F = f_X5_readPart_184x3 d (dv_pre (fun _ _ => dv_z) f_X5_readSum d) (dv G Γ H184) ((a0 : Int)) (j175_2.toInt) → th_sl H184 a0 (G.1.2 5 7) = .int bv → W p l e ({ frames := 6 + 2 * d, cells := 0, slots := 0, locals := 400 + d * 46 } : Room) s m ([.ref a0] : List Value).toArray below meth c H184 locs 0 0 (MQ below (th_Q (fun (v : Option Value) (H1 : Heap) => v = none ∧ th_I G Γ H1 ∧ th_F G Γ [(20, 5), (20, 6), (20, 7), (20, 8), (40, 0), (39, 2)] H0 H1 ∧ th_RD G Γ H1 ∧ (th_sl H1 a0 (G.1.2 5 7) = .int bv) ∧ (f_X5_readPart d (dv G Γ H0) (a0 : Int) = (dv G Γ H1, 0))) G) ([.ref a0] : List Value).toArray s 0 0 (fun q => G.2.2 ≤ q)) (F0 m 184 ls []) := by
                intro H184 locs ls hB hR hl hF g184_0
                have mm37 := (th_F_o hB.2.2 h0 ro_20 (j := 3) (by decide) (by decide)).trans mbn3
                replace hF := hF.trans (f_X5_readPart_184x3.eq_1 d (dv_pre (fun _ _ => dv_z) f_X5_readSum d) (dv G Γ H184) ((a0 : Int)) (j175_2.toInt))
                refine lv_aload_n hx hb dX5_readPart_184 rfl (lv_at hl 0 rfl) ?_
                refine th_getK hC cf_X5 hB.1 h0 ro_20 rfl (j := 3) (by decide) mm37 kf_X5_22 dX5_readPart_185 ?_
                replace hF := hF.trans (dv_bn (dv_getR h0 ro_20 (j := 3) rfl mm37 (by decide)))
                refine lv_iload_n hx hb dX5_readPart_188 rfl (lv_at hl 1 rfl) ?_
                refine th_call (th_runV (As := [.int j175_2]) (rest := []) hC mf_X10_add km_X5_199 im_X10_add se_X10_add (c_X10_add l G Γ H184 hB.1 hR.1 hU bn3 hbn3 j175_2 (by omega)) rfl rfl ⟨by dsimp only; omega, by dsimp only; omega⟩ hB.1 hbn3 ro_39 rfl rfl hl.1 rfl (Nat.le_of_ble_eq_true rfl) dX5_readPart_189 ⟨Nat.le_refl _, Nat.le_refl _⟩) hB.2.1 (fun v189 H189 locs hp hz hS => ?_)
                have hRD := hR
                obtain ⟨rfl, hI1, hf, hR, z189_0⟩ := hp
                have hR := th_RD_c hR hRD hf (by decide)
                have hB := th_B_c hB hI1 hS hf (by decide)
                have mm38 := (th_F_o hf h0 ro_20 (j := 7) (by decide) (by decide)).trans g184_0
                have mm39 := (th_F_o hf h0 ro_20 (j := 3) (by decide) (by decide)).trans mm37
                replace hF := hF.trans (dv_bn2 (z189_0))
                refine W.eq (g2 := F0 m 192 ls []) rfl ?_
                exact th_vret hC hH hr hlocks hB.2.1 ⟨rfl, hB.1, hB.2.2, hR, mm38, (hF0.symm.trans hF)⟩ dX5_readPart_192
              refine tr_icmp_ne (tgt := 184) hx hb dX5_readPart_177 (by decide) (Eq.refl _) tk_m1 (fun c177 => ?_) (fun c177 => ?_)
              · replace hF := hF.trans (if_pos c177)
                exact jn184 H175 locs ls hB hR (lv_sub hl [0, 1] rfl) hF g175_2
              · replace hF := hF.trans (if_neg (not_not_intro c177))
                refine lv_aload_n hx hb dX5_readPart_180 rfl (lv_at hl 0 rfl) ?_
                refine th_call (th_runV (As := []) (rest := []) hC mf_X5_fail km_X5_58 im_X5_fail se_X5_fail (c_X5_fail l G Γ H175 hB.1 hR hU a0 h0) rfl rfl ⟨by dsimp only; omega, by dsimp only; omega⟩ hB.1 h0 ro_20 rfl rfl hl.1 rfl (Nat.le_of_ble_eq_true rfl) dX5_readPart_181 ⟨Nat.le_refl _, Nat.le_refl _⟩) hB.2.1 (fun v181 H181 locs hp hz hS => ?_)
                obtain ⟨rfl, hI1, hf, hR, z181_0⟩ := hp
                have hB := th_B_c hB hI1 hS hf (by decide)
                have mm40 := (th_F_o hf h0 ro_20 (j := 7) (by decide) (by decide)).trans g175_2
                have mm41 := (th_F_o hf h0 ro_20 (j := 3) (by decide) (by decide)).trans mm36
                replace hF := hF.trans (dv_bn2 (z181_0))
                refine W.eq (g2 := F0 m 184 ls []) rfl ?_
                exact jn184 H181 locs ls hB hR (lv_sub hl [0, 1] rfl) hF mm40
            refine tr_if_eq (tgt := 175) hx hb dX5_readPart_137 (by decide) (Eq.refl _) (fun c137 => ?_) (fun c137 => ?_)
            · exfalso; omega
            · replace hF := hF.trans (if_neg c137)
              refine lv_iload_n hx hb dX5_readPart_140 rfl (lv_at hl 1 rfl) ?_
              refine lv_sipush (v := 318) hx hb dX5_readPart_141 (by decide) ?_
              have jn154 : ∀ (locs : List Loc) (ls : Array Slot) , th_B G Γ Γ [(20, 5), (20, 6), (20, 7), (20, 8), (40, 0), (39, 2)] H0 H130 locs → lv_has ls 4 [(2, .int x30), (0, .ref a0)] → F = f_X5_readPart_154 d (dv_pre (fun _ _ => dv_z) f_X5_readSum d) (dv G Γ H130) (x30.toInt) ((a0 : Int)) → W p l e ({ frames := 6 + 2 * d, cells := 0, slots := 0, locals := 400 + d * 46 } : Room) s m ([.ref a0] : List Value).toArray below meth c H130 locs 0 0 (MQ below (th_Q (fun (v : Option Value) (H1 : Heap) => v = none ∧ th_I G Γ H1 ∧ th_F G Γ [(20, 5), (20, 6), (20, 7), (20, 8), (40, 0), (39, 2)] H0 H1 ∧ th_RD G Γ H1 ∧ (th_sl H1 a0 (G.1.2 5 7) = .int bv) ∧ (f_X5_readPart d (dv G Γ H0) (a0 : Int) = (dv G Γ H1, 0))) G) ([.ref a0] : List Value).toArray s 0 0 (fun q => G.2.2 ≤ q)) (F0 m 154 ls []) := by
                intro locs ls hB hl hF
                replace hF := hF.trans (f_X5_readPart_154.eq_1 d (dv_pre (fun _ _ => dv_z) f_X5_readSum d) (dv G Γ H130) (x30.toInt) ((a0 : Int)))
                refine lv_aload_n hx hb dX5_readPart_154 rfl (lv_at hl 1 rfl) ?_
                refine lv_iconst (v := 0) hx hb dX5_readPart_155 (by decide) ?_
                refine lv_bipush (v := 8) hx hb dX5_readPart_156 (by decide) ?_
                refine th_call (th_runV (As := [.int 0, .int 8]) (rest := []) hC mf_X5_takeNumber km_X5_167 im_X5_takeNumber se_X5_takeNumber (c_X5_takeNumber l G Γ H130 hB.1 hR hU a0 h0 0 (by decide) 8) rfl rfl ⟨by dsimp only; omega, by dsimp only; omega⟩ hB.1 h0 ro_20 rfl rfl hl.1 rfl (Nat.le_of_ble_eq_true rfl) dX5_readPart_158 ⟨Nat.le_refl _, Nat.le_refl _⟩) hB.2.1 (fun v158 H158 locs hp hz hS => ?_)
                obtain ⟨x42, rfl, lx42, q158_0, hI1, hf, hR, z158_0, z158_1⟩ := hp
                have hB := th_B_c hB hI1 hS hf (by decide)
                have mm43 := (th_F_o hf h0 ro_20 (j := 7) (by decide) (by decide)).trans mm33
                have mm44 := (th_F_o hf h0 ro_20 (j := 3) (by decide) (by decide)).trans mm34
                have mm45 := (th_F_o hf h0 ro_20 (j := 4) (by decide) (by decide)).trans mm35
                have w158_0 := tk_0
                have w158_1 := tk_8
                have zf158 := z158_1
                rw [tk_0, tk_8] at zf158
                replace hF := hF.trans (dv_bn2 (zf158))
                refine W.eq (g2 := F0 m 161 ls [.int x42]) rfl ?_
                refine lv_istore_n (lv' := [(3, .int x42), (2, .int x30), (0, .ref a0)]) hx hb dX5_readPart_161 rfl hl (by decide) rfl (fun ls hl => ?_)
                refine lv_iload_n hx hb dX5_readPart_162 rfl (lv_at hl 0 rfl) ?_
                refine lv_iconst (v := (-1)) hx hb dX5_readPart_163 (by decide) ?_
                refine tr_icmp_ne (tgt := 171) hx hb dX5_readPart_164 (by decide) (Eq.refl _) tk_m1 (fun c164 => ?_) (fun c164 => ?_)
                · replace hF := hF.trans (if_pos c164)
                  refine lv_iload_n hx hb dX5_readPart_171 rfl (lv_at hl 1 rfl) ?_
                  refine lv_iload_n hx hb dX5_readPart_172 rfl (lv_at hl 0 rfl) ?_
                  refine tr_iadd hx hb dX5_readPart_173 (Eq.refl _) (Eq.refl _) (by omega) (by omega) (fun x46 ex46 => ?_)
                  replace hF := hF.trans (dv_bn (ex46.symm))
                  refine lv_istore_n (lv' := [(2, .int x46), (3, .int x42), (0, .ref a0)]) hx hb dX5_readPart_174 rfl hl (by decide) rfl (fun ls hl => ?_)
                  exact jn175 H158 locs ls x46 hB hR (lv_sub hl [2, 0] rfl) hF (by omega) (by omega) mm43
                · replace hF := hF.trans (if_neg (not_not_intro c164))
                  refine lv_iconst (v := (-1)) hx hb dX5_readPart_167 (by decide) ?_
                  refine lv_goto (tgt := 174) hx hb dX5_readPart_168 (by decide) ?_
                  refine lv_istore_n (lv' := [(2, .int (-1)), (3, .int x42), (0, .ref a0)]) hx hb dX5_readPart_174 rfl hl (by decide) rfl (fun ls hl => ?_)
                  exact jn175 H158 locs ls (-1) hB hR (lv_sub hl [2, 0] rfl) (by rw [tk_m1]; exact hF) (by decide) (by decide) mm43
              refine tr_icmp_eq (tgt := 154) hx hb dX5_readPart_144 (by decide) (Eq.refl _) tk_318 (fun c144 => ?_) (fun c144 => ?_)
              · replace hF := hF.trans (if_pos c144)
                exact jn154 locs ls hB (lv_sub hl [0, 2] rfl) hF
              · replace hF := hF.trans (if_neg c144)
                refine lv_iload_n hx hb dX5_readPart_147 rfl (lv_at hl 1 rfl) ?_
                refine lv_sipush (v := 327) hx hb dX5_readPart_148 (by decide) ?_
                refine tr_icmp_ne (tgt := 175) hx hb dX5_readPart_151 (by decide) (Eq.refl _) tk_327 (fun c151 => ?_) (fun c151 => ?_)
                · replace hF := hF.trans (if_pos c151)
                  exact jn175 H130 locs ls x30 hB hR (lv_sub hl [2, 0] rfl) hF (by omega) (by omega) mm33
                · replace hF := hF.trans (if_neg (not_not_intro c151))
                  exact jn154 locs ls hB (lv_sub hl [0, 2] rfl) hF
          · replace hF := hF.trans (if_neg c114)
            refine lv_iload_n hx hb dX5_readPart_117 rfl (lv_at hl 1 rfl) ?_
            refine lv_sipush (v := 400) hx hb dX5_readPart_118 (by decide) ?_
            refine tr_icmp_ge (tgt := 128) hx hb dX5_readPart_121 (by decide) (Eq.refl _) tk_400 (fun c121 => ?_) (fun c121 => ?_)
            · exfalso; omega
            · replace hF := hF.trans (if_neg (Int.not_le.mpr c121))
              refine lv_iconst (v := 1) hx hb dX5_readPart_124 (by decide) ?_
              refine lv_goto (tgt := 129) hx hb dX5_readPart_125 (by decide) ?_
              refine tr_iadd hx hb dX5_readPart_129 (Eq.refl _) tk_1 (by omega) (by omega) (fun x47 ex47 => ?_)
              replace hF := hF.trans (dv_bn (ex47.symm))
              refine th_put hC cf_X5 hB h0 (Or.inl h0) ro_20 rfl (j := 5) rfl th_sIa (by decide) rfl rfl rfl kf_X5_30 dX5_readPart_130 (fun H130 locs hB hf hst130 => ?_)
              have mm48 := (th_F_o hf h0 ro_20 (j := 7) (by decide) (by decide)).trans mm4
              have mm49 := (th_F_o hf h0 ro_20 (j := 3) (by decide) (by decide)).trans mm5
              have mm50 := (th_F_o hf h0 ro_20 (j := 4) (by decide) (by decide)).trans mx7
              replace hF := hF.trans (dv_bn (dv_putI hB.1 h0 ro_20 (j := 5) rfl (th_apart hC cf_X5) hst130 (Eq.refl _) (by decide)))
              have hR := th_RD_st (th_RC_F hB.1 hR.1 hf (th_T_s h0 ro_20 hst130) (by decide)) hR h0 hst130 (th_RD_up (th_apart hC cf_X5 0 5 (by decide) (by decide) (by decide)) (hR.2 _ _ h0) (mc6 (by omega)) h0 mx31 (by have w1 := tk_1; omega) hst130)
              refine lv_aload_n hx hb dX5_readPart_133 rfl (lv_at hl 2 rfl) ?_
              refine th_getK hC cf_X5 hB.1 h0 ro_20 rfl (j := 4) (by decide) mm50 kf_X5_26 dX5_readPart_134 ?_
              replace hF := hF.trans (dv_bn (dv_getI h0 ro_20 (j := 4) rfl mm50 (by decide)))
              have jn175 : ∀ (H175 : Heap) (locs : List Loc) (ls : Array Slot) (j175_2 : Int32), th_B G Γ Γ [(20, 5), (20, 6), (20, 7), (20, 8), (40, 0), (39, 2)] H0 H175 locs → th_RD G Γ H175 → lv_has ls 4 [(0, .ref a0), (2, .int j175_2)] → F = f_X5_readPart_175x4 d (dv_pre (fun _ _ => dv_z) f_X5_readSum d) (dv G Γ H175) ((a0 : Int)) (j175_2.toInt) → (-1) ≤ j175_2.toInt → j175_2.toInt ≤ 16383 → th_sl H175 a0 (G.1.2 5 7) = .int bv → W p l e ({ frames := 6 + 2 * d, cells := 0, slots := 0, locals := 400 + d * 46 } : Room) s m ([.ref a0] : List Value).toArray below meth c H175 locs 0 0 (MQ below (th_Q (fun (v : Option Value) (H1 : Heap) => v = none ∧ th_I G Γ H1 ∧ th_F G Γ [(20, 5), (20, 6), (20, 7), (20, 8), (40, 0), (39, 2)] H0 H1 ∧ th_RD G Γ H1 ∧ (th_sl H1 a0 (G.1.2 5 7) = .int bv) ∧ (f_X5_readPart d (dv G Γ H0) (a0 : Int) = (dv G Γ H1, 0))) G) ([.ref a0] : List Value).toArray s 0 0 (fun q => G.2.2 ≤ q)) (F0 m 175 ls []) := by
                intro H175 locs ls j175_2 hB hR hl hF g175_0 g175_1 g175_2
                have lj175_2 := ti_lo j175_2; have uj175_2 := ti_hi j175_2
                have mm51 := (th_F_o hB.2.2 h0 ro_20 (j := 3) (by decide) (by decide)).trans mbn3
                replace hF := hF.trans (f_X5_readPart_175x4.eq_1 d (dv_pre (fun _ _ => dv_z) f_X5_readSum d) (dv G Γ H175) ((a0 : Int)) (j175_2.toInt))
                refine lv_iload_n hx hb dX5_readPart_175 rfl (lv_at hl 1 rfl) ?_
                refine lv_iconst (v := (-1)) hx hb dX5_readPart_176 (by decide) ?_
                have jn184 : ∀ (H184 : Heap) (locs : List Loc) (ls : Array Slot) , th_B G Γ Γ [(20, 5), (20, 6), (20, 7), (20, 8), (40, 0), (39, 2)] H0 H184 locs → th_RD G Γ H184 → lv_has ls 4 [(0, .ref a0), (2, .int j175_2)] → F = f_X5_readPart_184x4 d (dv_pre (fun _ _ => dv_z) f_X5_readSum d) (dv G Γ H184) ((a0 : Int)) (j175_2.toInt) → th_sl H184 a0 (G.1.2 5 7) = .int bv → W p l e ({ frames := 6 + 2 * d, cells := 0, slots := 0, locals := 400 + d * 46 } : Room) s m ([.ref a0] : List Value).toArray below meth c H184 locs 0 0 (MQ below (th_Q (fun (v : Option Value) (H1 : Heap) => v = none ∧ th_I G Γ H1 ∧ th_F G Γ [(20, 5), (20, 6), (20, 7), (20, 8), (40, 0), (39, 2)] H0 H1 ∧ th_RD G Γ H1 ∧ (th_sl H1 a0 (G.1.2 5 7) = .int bv) ∧ (f_X5_readPart d (dv G Γ H0) (a0 : Int) = (dv G Γ H1, 0))) G) ([.ref a0] : List Value).toArray s 0 0 (fun q => G.2.2 ≤ q)) (F0 m 184 ls []) := by
                  intro H184 locs ls hB hR hl hF g184_0
                  have mm52 := (th_F_o hB.2.2 h0 ro_20 (j := 3) (by decide) (by decide)).trans mbn3
                  replace hF := hF.trans (f_X5_readPart_184x4.eq_1 d (dv_pre (fun _ _ => dv_z) f_X5_readSum d) (dv G Γ H184) ((a0 : Int)) (j175_2.toInt))
                  refine lv_aload_n hx hb dX5_readPart_184 rfl (lv_at hl 0 rfl) ?_
                  refine th_getK hC cf_X5 hB.1 h0 ro_20 rfl (j := 3) (by decide) mm52 kf_X5_22 dX5_readPart_185 ?_
                  replace hF := hF.trans (dv_bn (dv_getR h0 ro_20 (j := 3) rfl mm52 (by decide)))
                  refine lv_iload_n hx hb dX5_readPart_188 rfl (lv_at hl 1 rfl) ?_
                  refine th_call (th_runV (As := [.int j175_2]) (rest := []) hC mf_X10_add km_X5_199 im_X10_add se_X10_add (c_X10_add l G Γ H184 hB.1 hR.1 hU bn3 hbn3 j175_2 (by omega)) rfl rfl ⟨by dsimp only; omega, by dsimp only; omega⟩ hB.1 hbn3 ro_39 rfl rfl hl.1 rfl (Nat.le_of_ble_eq_true rfl) dX5_readPart_189 ⟨Nat.le_refl _, Nat.le_refl _⟩) hB.2.1 (fun v189 H189 locs hp hz hS => ?_)
                  have hRD := hR
                  obtain ⟨rfl, hI1, hf, hR, z189_0⟩ := hp
                  have hR := th_RD_c hR hRD hf (by decide)
                  have hB := th_B_c hB hI1 hS hf (by decide)
                  have mm53 := (th_F_o hf h0 ro_20 (j := 7) (by decide) (by decide)).trans g184_0
                  have mm54 := (th_F_o hf h0 ro_20 (j := 3) (by decide) (by decide)).trans mm52
                  replace hF := hF.trans (dv_bn2 (z189_0))
                  refine W.eq (g2 := F0 m 192 ls []) rfl ?_
                  exact th_vret hC hH hr hlocks hB.2.1 ⟨rfl, hB.1, hB.2.2, hR, mm53, (hF0.symm.trans hF)⟩ dX5_readPart_192
                refine tr_icmp_ne (tgt := 184) hx hb dX5_readPart_177 (by decide) (Eq.refl _) tk_m1 (fun c177 => ?_) (fun c177 => ?_)
                · replace hF := hF.trans (if_pos c177)
                  exact jn184 H175 locs ls hB hR (lv_sub hl [0, 1] rfl) hF g175_2
                · replace hF := hF.trans (if_neg (not_not_intro c177))
                  refine lv_aload_n hx hb dX5_readPart_180 rfl (lv_at hl 0 rfl) ?_
                  refine th_call (th_runV (As := []) (rest := []) hC mf_X5_fail km_X5_58 im_X5_fail se_X5_fail (c_X5_fail l G Γ H175 hB.1 hR hU a0 h0) rfl rfl ⟨by dsimp only; omega, by dsimp only; omega⟩ hB.1 h0 ro_20 rfl rfl hl.1 rfl (Nat.le_of_ble_eq_true rfl) dX5_readPart_181 ⟨Nat.le_refl _, Nat.le_refl _⟩) hB.2.1 (fun v181 H181 locs hp hz hS => ?_)
                  obtain ⟨rfl, hI1, hf, hR, z181_0⟩ := hp
                  have hB := th_B_c hB hI1 hS hf (by decide)
                  have mm55 := (th_F_o hf h0 ro_20 (j := 7) (by decide) (by decide)).trans g175_2
                  have mm56 := (th_F_o hf h0 ro_20 (j := 3) (by decide) (by decide)).trans mm51
                  replace hF := hF.trans (dv_bn2 (z181_0))
                  refine W.eq (g2 := F0 m 184 ls []) rfl ?_
                  exact jn184 H181 locs ls hB hR (lv_sub hl [0, 1] rfl) hF mm55
              refine tr_if_eq (tgt := 175) hx hb dX5_readPart_137 (by decide) (Eq.refl _) (fun c137 => ?_) (fun c137 => ?_)
              · exfalso; omega
              · replace hF := hF.trans (if_neg c137)
                refine lv_iload_n hx hb dX5_readPart_140 rfl (lv_at hl 1 rfl) ?_
                refine lv_sipush (v := 318) hx hb dX5_readPart_141 (by decide) ?_
                have jn154 : ∀ (locs : List Loc) (ls : Array Slot) , th_B G Γ Γ [(20, 5), (20, 6), (20, 7), (20, 8), (40, 0), (39, 2)] H0 H130 locs → lv_has ls 4 [(2, .int x30), (0, .ref a0)] → F = f_X5_readPart_154x2 d (dv_pre (fun _ _ => dv_z) f_X5_readSum d) (dv G Γ H130) (x30.toInt) ((a0 : Int)) → W p l e ({ frames := 6 + 2 * d, cells := 0, slots := 0, locals := 400 + d * 46 } : Room) s m ([.ref a0] : List Value).toArray below meth c H130 locs 0 0 (MQ below (th_Q (fun (v : Option Value) (H1 : Heap) => v = none ∧ th_I G Γ H1 ∧ th_F G Γ [(20, 5), (20, 6), (20, 7), (20, 8), (40, 0), (39, 2)] H0 H1 ∧ th_RD G Γ H1 ∧ (th_sl H1 a0 (G.1.2 5 7) = .int bv) ∧ (f_X5_readPart d (dv G Γ H0) (a0 : Int) = (dv G Γ H1, 0))) G) ([.ref a0] : List Value).toArray s 0 0 (fun q => G.2.2 ≤ q)) (F0 m 154 ls []) := by
                  intro locs ls hB hl hF
                  replace hF := hF.trans (f_X5_readPart_154x2.eq_1 d (dv_pre (fun _ _ => dv_z) f_X5_readSum d) (dv G Γ H130) (x30.toInt) ((a0 : Int)))
                  refine lv_aload_n hx hb dX5_readPart_154 rfl (lv_at hl 1 rfl) ?_
                  refine lv_iconst (v := 0) hx hb dX5_readPart_155 (by decide) ?_
                  refine lv_bipush (v := 8) hx hb dX5_readPart_156 (by decide) ?_
                  refine th_call (th_runV (As := [.int 0, .int 8]) (rest := []) hC mf_X5_takeNumber km_X5_167 im_X5_takeNumber se_X5_takeNumber (c_X5_takeNumber l G Γ H130 hB.1 hR hU a0 h0 0 (by decide) 8) rfl rfl ⟨by dsimp only; omega, by dsimp only; omega⟩ hB.1 h0 ro_20 rfl rfl hl.1 rfl (Nat.le_of_ble_eq_true rfl) dX5_readPart_158 ⟨Nat.le_refl _, Nat.le_refl _⟩) hB.2.1 (fun v158 H158 locs hp hz hS => ?_)
                  obtain ⟨x57, rfl, lx57, q158_0, hI1, hf, hR, z158_0, z158_1⟩ := hp
                  have hB := th_B_c hB hI1 hS hf (by decide)
                  have mm58 := (th_F_o hf h0 ro_20 (j := 7) (by decide) (by decide)).trans mm48
                  have mm59 := (th_F_o hf h0 ro_20 (j := 3) (by decide) (by decide)).trans mm49
                  have mm60 := (th_F_o hf h0 ro_20 (j := 4) (by decide) (by decide)).trans mm50
                  have w158_0 := tk_0
                  have w158_1 := tk_8
                  have zf158 := z158_1
                  rw [tk_0, tk_8] at zf158
                  replace hF := hF.trans (dv_bn2 (zf158))
                  refine W.eq (g2 := F0 m 161 ls [.int x57]) rfl ?_
                  refine lv_istore_n (lv' := [(3, .int x57), (2, .int x30), (0, .ref a0)]) hx hb dX5_readPart_161 rfl hl (by decide) rfl (fun ls hl => ?_)
                  refine lv_iload_n hx hb dX5_readPart_162 rfl (lv_at hl 0 rfl) ?_
                  refine lv_iconst (v := (-1)) hx hb dX5_readPart_163 (by decide) ?_
                  refine tr_icmp_ne (tgt := 171) hx hb dX5_readPart_164 (by decide) (Eq.refl _) tk_m1 (fun c164 => ?_) (fun c164 => ?_)
                  · replace hF := hF.trans (if_pos c164)
                    refine lv_iload_n hx hb dX5_readPart_171 rfl (lv_at hl 1 rfl) ?_
                    refine lv_iload_n hx hb dX5_readPart_172 rfl (lv_at hl 0 rfl) ?_
                    refine tr_iadd hx hb dX5_readPart_173 (Eq.refl _) (Eq.refl _) (by omega) (by omega) (fun x61 ex61 => ?_)
                    replace hF := hF.trans (dv_bn (ex61.symm))
                    refine lv_istore_n (lv' := [(2, .int x61), (3, .int x57), (0, .ref a0)]) hx hb dX5_readPart_174 rfl hl (by decide) rfl (fun ls hl => ?_)
                    exact jn175 H158 locs ls x61 hB hR (lv_sub hl [2, 0] rfl) hF (by omega) (by omega) mm58
                  · replace hF := hF.trans (if_neg (not_not_intro c164))
                    refine lv_iconst (v := (-1)) hx hb dX5_readPart_167 (by decide) ?_
                    refine lv_goto (tgt := 174) hx hb dX5_readPart_168 (by decide) ?_
                    refine lv_istore_n (lv' := [(2, .int (-1)), (3, .int x57), (0, .ref a0)]) hx hb dX5_readPart_174 rfl hl (by decide) rfl (fun ls hl => ?_)
                    exact jn175 H158 locs ls (-1) hB hR (lv_sub hl [2, 0] rfl) (by rw [tk_m1]; exact hF) (by decide) (by decide) mm58
                refine tr_icmp_eq (tgt := 154) hx hb dX5_readPart_144 (by decide) (Eq.refl _) tk_318 (fun c144 => ?_) (fun c144 => ?_)
                · replace hF := hF.trans (if_pos c144)
                  exact jn154 locs ls hB (lv_sub hl [0, 2] rfl) hF
                · replace hF := hF.trans (if_neg c144)
                  refine lv_iload_n hx hb dX5_readPart_147 rfl (lv_at hl 1 rfl) ?_
                  refine lv_sipush (v := 327) hx hb dX5_readPart_148 (by decide) ?_
                  refine tr_icmp_ne (tgt := 175) hx hb dX5_readPart_151 (by decide) (Eq.refl _) tk_327 (fun c151 => ?_) (fun c151 => ?_)
                  · replace hF := hF.trans (if_pos c151)
                    exact jn175 H130 locs ls x30 hB hR (lv_sub hl [2, 0] rfl) hF (by omega) (by omega) mm48
                  · replace hF := hF.trans (if_neg (not_not_intro c151))
                    exact jn154 locs ls hB (lv_sub hl [0, 2] rfl) hF
      · replace hF := hF.trans (if_neg (Int.not_lt.mpr c74))
        refine lv_aload_n hx hb dX5_readPart_77 rfl (lv_at hl 1 rfl) ?_
        refine lv_iconst (v := 0) hx hb dX5_readPart_78 (by decide) ?_
        refine lv_sipush (v := 1000) hx hb dX5_readPart_79 (by decide) ?_
        refine th_call (th_runV (As := [.int 0, .int 1000]) (rest := []) hC mf_X5_takeNumber km_X5_167 im_X5_takeNumber se_X5_takeNumber (c_X5_takeNumber l G Γ H67 hB.1 hR hU a0 h0 0 (by decide) 1000) rfl rfl ⟨by dsimp only; omega, by dsimp only; omega⟩ hB.1 h0 ro_20 rfl rfl hl.1 rfl (Nat.le_of_ble_eq_true rfl) dX5_readPart_82 ⟨Nat.le_refl _, Nat.le_refl _⟩) hB.2.1 (fun v82 H82 locs hp hz hS => ?_)
        obtain ⟨x62, rfl, lx62, q82_0, hI1, hf, hR, z82_0, z82_1⟩ := hp
        have hB := th_B_c hB hI1 hS hf (by decide)
        have mm63 := (th_F_o hf h0 ro_20 (j := 7) (by decide) (by decide)).trans mm4
        have mm64 := (th_F_o hf h0 ro_20 (j := 3) (by decide) (by decide)).trans mm5
        have w82_0 := tk_0
        have w82_1 := tk_1000
        have zf82 := z82_1
        rw [tk_0, tk_1000] at zf82
        replace hF := hF.trans (dv_bn2 (zf82))
        refine W.eq (g2 := F0 m 85 ls [.int x62]) rfl ?_
        refine lv_goto (tgt := 106) hx hb dX5_readPart_85 (by decide) ?_
        refine lv_istore_n (lv' := [(2, .int x62), (1, .int x1), (0, .ref a0)]) hx hb dX5_readPart_106 rfl hl (by decide) rfl (fun ls hl => ?_)
        refine lv_aload_n hx hb dX5_readPart_107 rfl (lv_at hl 2 rfl) ?_
        refine lv_dup hx hb dX5_readPart_108 rfl ?_
        refine th_getI (j := 5) hC cf_X5 hB.1 h0 ro_20 rfl rfl kf_X5_30 dX5_readPart_109 (fun x65 mx65 lx65 ux65 => ?_)
        obtain ⟨rax65, rbx65⟩ := th_RI_at (hR.2 _ _ h0) mx65
        replace hF := hF.trans (dv_bn (dv_getI h0 ro_20 (j := 5) rfl mx65 (by decide)))
        refine lv_iload_n hx hb dX5_readPart_112 rfl (lv_at hl 0 rfl) ?_
        refine lv_iconst (v := (-1)) hx hb dX5_readPart_113 (by decide) ?_
        refine tr_icmp_eq (tgt := 128) hx hb dX5_readPart_114 (by decide) (Eq.refl _) tk_m1 (fun c114 => ?_) (fun c114 => ?_)
        · replace hF := hF.trans (if_pos c114)
          refine lv_iconst (v := 0) hx hb dX5_readPart_128 (by decide) ?_
          refine tr_iadd hx hb dX5_readPart_129 (Eq.refl _) tk_0 (by omega) (by omega) (fun x66 ex66 => ?_)
          replace hF := hF.trans (dv_bn (ex66.symm))
          refine th_put hC cf_X5 hB h0 (Or.inl h0) ro_20 rfl (j := 5) rfl th_sIa (by decide) rfl rfl rfl kf_X5_30 dX5_readPart_130 (fun H130 locs hB hf hst130 => ?_)
          have mm67 := (th_F_o hf h0 ro_20 (j := 7) (by decide) (by decide)).trans mm63
          have mm68 := (th_F_o hf h0 ro_20 (j := 3) (by decide) (by decide)).trans mm64
          replace hF := hF.trans (dv_bn (dv_putI hB.1 h0 ro_20 (j := 5) rfl (th_apart hC cf_X5) hst130 (Eq.refl _) (by decide)))
          have hR := th_RD_st (th_RC_F hB.1 hR.1 hf (th_T_s h0 ro_20 hst130) (by decide)) hR h0 hst130 (th_RI_same (th_apart hC cf_X5 0 5 (by decide) (by decide) (by decide)) (hR.2 _ _ h0) h0 mx65 (by have w0 := tk_0; omega) hst130)
          refine lv_aload_n hx hb dX5_readPart_133 rfl (lv_at hl 2 rfl) ?_
          refine th_getI (j := 4) hC cf_X5 hB.1 h0 ro_20 rfl rfl kf_X5_26 dX5_readPart_134 (fun x69 mx69 lx69 ux69 => ?_)
          replace hF := hF.trans (dv_bn (dv_getI h0 ro_20 (j := 4) rfl mx69 (by decide)))
          have jn175 : ∀ (H175 : Heap) (locs : List Loc) (ls : Array Slot) (j175_2 : Int32), th_B G Γ Γ [(20, 5), (20, 6), (20, 7), (20, 8), (40, 0), (39, 2)] H0 H175 locs → th_RD G Γ H175 → lv_has ls 4 [(0, .ref a0), (2, .int j175_2)] → F = f_X5_readPart_175x5 d (dv_pre (fun _ _ => dv_z) f_X5_readSum d) (dv G Γ H175) ((a0 : Int)) (j175_2.toInt) → (-1) ≤ j175_2.toInt → j175_2.toInt ≤ 16383 → th_sl H175 a0 (G.1.2 5 7) = .int bv → W p l e ({ frames := 6 + 2 * d, cells := 0, slots := 0, locals := 400 + d * 46 } : Room) s m ([.ref a0] : List Value).toArray below meth c H175 locs 0 0 (MQ below (th_Q (fun (v : Option Value) (H1 : Heap) => v = none ∧ th_I G Γ H1 ∧ th_F G Γ [(20, 5), (20, 6), (20, 7), (20, 8), (40, 0), (39, 2)] H0 H1 ∧ th_RD G Γ H1 ∧ (th_sl H1 a0 (G.1.2 5 7) = .int bv) ∧ (f_X5_readPart d (dv G Γ H0) (a0 : Int) = (dv G Γ H1, 0))) G) ([.ref a0] : List Value).toArray s 0 0 (fun q => G.2.2 ≤ q)) (F0 m 175 ls []) := by
            intro H175 locs ls j175_2 hB hR hl hF g175_0 g175_1 g175_2
            have lj175_2 := ti_lo j175_2; have uj175_2 := ti_hi j175_2
            have mm70 := (th_F_o hB.2.2 h0 ro_20 (j := 3) (by decide) (by decide)).trans mbn3
            replace hF := hF.trans (f_X5_readPart_175x5.eq_1 d (dv_pre (fun _ _ => dv_z) f_X5_readSum d) (dv G Γ H175) ((a0 : Int)) (j175_2.toInt))
            refine lv_iload_n hx hb dX5_readPart_175 rfl (lv_at hl 1 rfl) ?_
            refine lv_iconst (v := (-1)) hx hb dX5_readPart_176 (by decide) ?_
            have jn184 : ∀ (H184 : Heap) (locs : List Loc) (ls : Array Slot) , th_B G Γ Γ [(20, 5), (20, 6), (20, 7), (20, 8), (40, 0), (39, 2)] H0 H184 locs → th_RD G Γ H184 → lv_has ls 4 [(0, .ref a0), (2, .int j175_2)] → F = f_X5_readPart_184x5 d (dv_pre (fun _ _ => dv_z) f_X5_readSum d) (dv G Γ H184) ((a0 : Int)) (j175_2.toInt) → th_sl H184 a0 (G.1.2 5 7) = .int bv → W p l e ({ frames := 6 + 2 * d, cells := 0, slots := 0, locals := 400 + d * 46 } : Room) s m ([.ref a0] : List Value).toArray below meth c H184 locs 0 0 (MQ below (th_Q (fun (v : Option Value) (H1 : Heap) => v = none ∧ th_I G Γ H1 ∧ th_F G Γ [(20, 5), (20, 6), (20, 7), (20, 8), (40, 0), (39, 2)] H0 H1 ∧ th_RD G Γ H1 ∧ (th_sl H1 a0 (G.1.2 5 7) = .int bv) ∧ (f_X5_readPart d (dv G Γ H0) (a0 : Int) = (dv G Γ H1, 0))) G) ([.ref a0] : List Value).toArray s 0 0 (fun q => G.2.2 ≤ q)) (F0 m 184 ls []) := by
              intro H184 locs ls hB hR hl hF g184_0
              have mm71 := (th_F_o hB.2.2 h0 ro_20 (j := 3) (by decide) (by decide)).trans mbn3
              replace hF := hF.trans (f_X5_readPart_184x5.eq_1 d (dv_pre (fun _ _ => dv_z) f_X5_readSum d) (dv G Γ H184) ((a0 : Int)) (j175_2.toInt))
              refine lv_aload_n hx hb dX5_readPart_184 rfl (lv_at hl 0 rfl) ?_
              refine th_getK hC cf_X5 hB.1 h0 ro_20 rfl (j := 3) (by decide) mm71 kf_X5_22 dX5_readPart_185 ?_
              replace hF := hF.trans (dv_bn (dv_getR h0 ro_20 (j := 3) rfl mm71 (by decide)))
              refine lv_iload_n hx hb dX5_readPart_188 rfl (lv_at hl 1 rfl) ?_
              refine th_call (th_runV (As := [.int j175_2]) (rest := []) hC mf_X10_add km_X5_199 im_X10_add se_X10_add (c_X10_add l G Γ H184 hB.1 hR.1 hU bn3 hbn3 j175_2 (by omega)) rfl rfl ⟨by dsimp only; omega, by dsimp only; omega⟩ hB.1 hbn3 ro_39 rfl rfl hl.1 rfl (Nat.le_of_ble_eq_true rfl) dX5_readPart_189 ⟨Nat.le_refl _, Nat.le_refl _⟩) hB.2.1 (fun v189 H189 locs hp hz hS => ?_)
              have hRD := hR
              obtain ⟨rfl, hI1, hf, hR, z189_0⟩ := hp
              have hR := th_RD_c hR hRD hf (by decide)
              have hB := th_B_c hB hI1 hS hf (by decide)
              have mm72 := (th_F_o hf h0 ro_20 (j := 7) (by decide) (by decide)).trans g184_0
              have mm73 := (th_F_o hf h0 ro_20 (j := 3) (by decide) (by decide)).trans mm71
              replace hF := hF.trans (dv_bn2 (z189_0))
              refine W.eq (g2 := F0 m 192 ls []) rfl ?_
              exact th_vret hC hH hr hlocks hB.2.1 ⟨rfl, hB.1, hB.2.2, hR, mm72, (hF0.symm.trans hF)⟩ dX5_readPart_192
            refine tr_icmp_ne (tgt := 184) hx hb dX5_readPart_177 (by decide) (Eq.refl _) tk_m1 (fun c177 => ?_) (fun c177 => ?_)
            · replace hF := hF.trans (if_pos c177)
              exact jn184 H175 locs ls hB hR (lv_sub hl [0, 1] rfl) hF g175_2
            · replace hF := hF.trans (if_neg (not_not_intro c177))
              refine lv_aload_n hx hb dX5_readPart_180 rfl (lv_at hl 0 rfl) ?_
              refine th_call (th_runV (As := []) (rest := []) hC mf_X5_fail km_X5_58 im_X5_fail se_X5_fail (c_X5_fail l G Γ H175 hB.1 hR hU a0 h0) rfl rfl ⟨by dsimp only; omega, by dsimp only; omega⟩ hB.1 h0 ro_20 rfl rfl hl.1 rfl (Nat.le_of_ble_eq_true rfl) dX5_readPart_181 ⟨Nat.le_refl _, Nat.le_refl _⟩) hB.2.1 (fun v181 H181 locs hp hz hS => ?_)
              obtain ⟨rfl, hI1, hf, hR, z181_0⟩ := hp
              have hB := th_B_c hB hI1 hS hf (by decide)
              have mm74 := (th_F_o hf h0 ro_20 (j := 7) (by decide) (by decide)).trans g175_2
              have mm75 := (th_F_o hf h0 ro_20 (j := 3) (by decide) (by decide)).trans mm70
              replace hF := hF.trans (dv_bn2 (z181_0))
              refine W.eq (g2 := F0 m 184 ls []) rfl ?_
              exact jn184 H181 locs ls hB hR (lv_sub hl [0, 1] rfl) hF mm74
          refine tr_if_eq (tgt := 175) hx hb dX5_readPart_137 (by decide) (Eq.refl _) (fun c137 => ?_) (fun c137 => ?_)
          · replace hF := hF.trans (if_pos c137)
            exact jn175 H130 locs ls x62 hB hR (lv_sub hl [2, 0] rfl) hF (by omega) (by omega) mm67
          · replace hF := hF.trans (if_neg c137)
            refine lv_iload_n hx hb dX5_readPart_140 rfl (lv_at hl 1 rfl) ?_
            refine lv_sipush (v := 318) hx hb dX5_readPart_141 (by decide) ?_
            have jn154 : ∀ (locs : List Loc) (ls : Array Slot) , th_B G Γ Γ [(20, 5), (20, 6), (20, 7), (20, 8), (40, 0), (39, 2)] H0 H130 locs → lv_has ls 4 [(2, .int x62), (0, .ref a0)] → F = f_X5_readPart_154x3 d (dv_pre (fun _ _ => dv_z) f_X5_readSum d) (dv G Γ H130) (x62.toInt) ((a0 : Int)) → W p l e ({ frames := 6 + 2 * d, cells := 0, slots := 0, locals := 400 + d * 46 } : Room) s m ([.ref a0] : List Value).toArray below meth c H130 locs 0 0 (MQ below (th_Q (fun (v : Option Value) (H1 : Heap) => v = none ∧ th_I G Γ H1 ∧ th_F G Γ [(20, 5), (20, 6), (20, 7), (20, 8), (40, 0), (39, 2)] H0 H1 ∧ th_RD G Γ H1 ∧ (th_sl H1 a0 (G.1.2 5 7) = .int bv) ∧ (f_X5_readPart d (dv G Γ H0) (a0 : Int) = (dv G Γ H1, 0))) G) ([.ref a0] : List Value).toArray s 0 0 (fun q => G.2.2 ≤ q)) (F0 m 154 ls []) := by
              intro locs ls hB hl hF
              replace hF := hF.trans (f_X5_readPart_154x3.eq_1 d (dv_pre (fun _ _ => dv_z) f_X5_readSum d) (dv G Γ H130) (x62.toInt) ((a0 : Int)))
              refine lv_aload_n hx hb dX5_readPart_154 rfl (lv_at hl 1 rfl) ?_
              refine lv_iconst (v := 0) hx hb dX5_readPart_155 (by decide) ?_
              refine lv_bipush (v := 8) hx hb dX5_readPart_156 (by decide) ?_
              refine th_call (th_runV (As := [.int 0, .int 8]) (rest := []) hC mf_X5_takeNumber km_X5_167 im_X5_takeNumber se_X5_takeNumber (c_X5_takeNumber l G Γ H130 hB.1 hR hU a0 h0 0 (by decide) 8) rfl rfl ⟨by dsimp only; omega, by dsimp only; omega⟩ hB.1 h0 ro_20 rfl rfl hl.1 rfl (Nat.le_of_ble_eq_true rfl) dX5_readPart_158 ⟨Nat.le_refl _, Nat.le_refl _⟩) hB.2.1 (fun v158 H158 locs hp hz hS => ?_)
              obtain ⟨x76, rfl, lx76, q158_0, hI1, hf, hR, z158_0, z158_1⟩ := hp
              have hB := th_B_c hB hI1 hS hf (by decide)
              have mm77 := (th_F_o hf h0 ro_20 (j := 7) (by decide) (by decide)).trans mm67
              have mm78 := (th_F_o hf h0 ro_20 (j := 3) (by decide) (by decide)).trans mm68
              have w158_0 := tk_0
              have w158_1 := tk_8
              have zf158 := z158_1
              rw [tk_0, tk_8] at zf158
              replace hF := hF.trans (dv_bn2 (zf158))
              refine W.eq (g2 := F0 m 161 ls [.int x76]) rfl ?_
              refine lv_istore_n (lv' := [(3, .int x76), (2, .int x62), (0, .ref a0)]) hx hb dX5_readPart_161 rfl hl (by decide) rfl (fun ls hl => ?_)
              refine lv_iload_n hx hb dX5_readPart_162 rfl (lv_at hl 0 rfl) ?_
              refine lv_iconst (v := (-1)) hx hb dX5_readPart_163 (by decide) ?_
              refine tr_icmp_ne (tgt := 171) hx hb dX5_readPart_164 (by decide) (Eq.refl _) tk_m1 (fun c164 => ?_) (fun c164 => ?_)
              · replace hF := hF.trans (if_pos c164)
                refine lv_iload_n hx hb dX5_readPart_171 rfl (lv_at hl 1 rfl) ?_
                refine lv_iload_n hx hb dX5_readPart_172 rfl (lv_at hl 0 rfl) ?_
                refine tr_iadd hx hb dX5_readPart_173 (Eq.refl _) (Eq.refl _) (by omega) (by omega) (fun x79 ex79 => ?_)
                replace hF := hF.trans (dv_bn (ex79.symm))
                refine lv_istore_n (lv' := [(2, .int x79), (3, .int x76), (0, .ref a0)]) hx hb dX5_readPart_174 rfl hl (by decide) rfl (fun ls hl => ?_)
                exact jn175 H158 locs ls x79 hB hR (lv_sub hl [2, 0] rfl) hF (by omega) (by omega) mm77
              · replace hF := hF.trans (if_neg (not_not_intro c164))
                refine lv_iconst (v := (-1)) hx hb dX5_readPart_167 (by decide) ?_
                refine lv_goto (tgt := 174) hx hb dX5_readPart_168 (by decide) ?_
                refine lv_istore_n (lv' := [(2, .int (-1)), (3, .int x76), (0, .ref a0)]) hx hb dX5_readPart_174 rfl hl (by decide) rfl (fun ls hl => ?_)
                exact jn175 H158 locs ls (-1) hB hR (lv_sub hl [2, 0] rfl) (by rw [tk_m1]; exact hF) (by decide) (by decide) mm77
            refine tr_icmp_eq (tgt := 154) hx hb dX5_readPart_144 (by decide) (Eq.refl _) tk_318 (fun c144 => ?_) (fun c144 => ?_)
            · exfalso; omega
            · replace hF := hF.trans (if_neg c144)
              refine lv_iload_n hx hb dX5_readPart_147 rfl (lv_at hl 1 rfl) ?_
              refine lv_sipush (v := 327) hx hb dX5_readPart_148 (by decide) ?_
              refine tr_icmp_ne (tgt := 175) hx hb dX5_readPart_151 (by decide) (Eq.refl _) tk_327 (fun c151 => ?_) (fun c151 => ?_)
              · replace hF := hF.trans (if_pos c151)
                exact jn175 H130 locs ls x62 hB hR (lv_sub hl [2, 0] rfl) hF (by omega) (by omega) mm67
              · exfalso; omega
        · replace hF := hF.trans (if_neg c114)
          refine lv_iload_n hx hb dX5_readPart_117 rfl (lv_at hl 1 rfl) ?_
          refine lv_sipush (v := 400) hx hb dX5_readPart_118 (by decide) ?_
          refine tr_icmp_ge (tgt := 128) hx hb dX5_readPart_121 (by decide) (Eq.refl _) tk_400 (fun c121 => ?_) (fun c121 => ?_)
          · replace hF := hF.trans (if_pos c121)
            refine lv_iconst (v := 0) hx hb dX5_readPart_128 (by decide) ?_
            refine tr_iadd hx hb dX5_readPart_129 (Eq.refl _) tk_0 (by omega) (by omega) (fun x80 ex80 => ?_)
            replace hF := hF.trans (dv_bn (ex80.symm))
            refine th_put hC cf_X5 hB h0 (Or.inl h0) ro_20 rfl (j := 5) rfl th_sIa (by decide) rfl rfl rfl kf_X5_30 dX5_readPart_130 (fun H130 locs hB hf hst130 => ?_)
            have mm81 := (th_F_o hf h0 ro_20 (j := 7) (by decide) (by decide)).trans mm63
            have mm82 := (th_F_o hf h0 ro_20 (j := 3) (by decide) (by decide)).trans mm64
            replace hF := hF.trans (dv_bn (dv_putI hB.1 h0 ro_20 (j := 5) rfl (th_apart hC cf_X5) hst130 (Eq.refl _) (by decide)))
            have hR := th_RD_st (th_RC_F hB.1 hR.1 hf (th_T_s h0 ro_20 hst130) (by decide)) hR h0 hst130 (th_RI_same (th_apart hC cf_X5 0 5 (by decide) (by decide) (by decide)) (hR.2 _ _ h0) h0 mx65 (by have w0 := tk_0; omega) hst130)
            refine lv_aload_n hx hb dX5_readPart_133 rfl (lv_at hl 2 rfl) ?_
            refine th_getI (j := 4) hC cf_X5 hB.1 h0 ro_20 rfl rfl kf_X5_26 dX5_readPart_134 (fun x83 mx83 lx83 ux83 => ?_)
            replace hF := hF.trans (dv_bn (dv_getI h0 ro_20 (j := 4) rfl mx83 (by decide)))
            have jn175 : ∀ (H175 : Heap) (locs : List Loc) (ls : Array Slot) (j175_2 : Int32), th_B G Γ Γ [(20, 5), (20, 6), (20, 7), (20, 8), (40, 0), (39, 2)] H0 H175 locs → th_RD G Γ H175 → lv_has ls 4 [(0, .ref a0), (2, .int j175_2)] → F = f_X5_readPart_175x6 d (dv_pre (fun _ _ => dv_z) f_X5_readSum d) (dv G Γ H175) ((a0 : Int)) (j175_2.toInt) → (-1) ≤ j175_2.toInt → j175_2.toInt ≤ 16383 → th_sl H175 a0 (G.1.2 5 7) = .int bv → W p l e ({ frames := 6 + 2 * d, cells := 0, slots := 0, locals := 400 + d * 46 } : Room) s m ([.ref a0] : List Value).toArray below meth c H175 locs 0 0 (MQ below (th_Q (fun (v : Option Value) (H1 : Heap) => v = none ∧ th_I G Γ H1 ∧ th_F G Γ [(20, 5), (20, 6), (20, 7), (20, 8), (40, 0), (39, 2)] H0 H1 ∧ th_RD G Γ H1 ∧ (th_sl H1 a0 (G.1.2 5 7) = .int bv) ∧ (f_X5_readPart d (dv G Γ H0) (a0 : Int) = (dv G Γ H1, 0))) G) ([.ref a0] : List Value).toArray s 0 0 (fun q => G.2.2 ≤ q)) (F0 m 175 ls []) := by
              intro H175 locs ls j175_2 hB hR hl hF g175_0 g175_1 g175_2
              have lj175_2 := ti_lo j175_2; have uj175_2 := ti_hi j175_2
              have mm84 := (th_F_o hB.2.2 h0 ro_20 (j := 3) (by decide) (by decide)).trans mbn3
              replace hF := hF.trans (f_X5_readPart_175x6.eq_1 d (dv_pre (fun _ _ => dv_z) f_X5_readSum d) (dv G Γ H175) ((a0 : Int)) (j175_2.toInt))
              refine lv_iload_n hx hb dX5_readPart_175 rfl (lv_at hl 1 rfl) ?_
              refine lv_iconst (v := (-1)) hx hb dX5_readPart_176 (by decide) ?_
              have jn184 : ∀ (H184 : Heap) (locs : List Loc) (ls : Array Slot) , th_B G Γ Γ [(20, 5), (20, 6), (20, 7), (20, 8), (40, 0), (39, 2)] H0 H184 locs → th_RD G Γ H184 → lv_has ls 4 [(0, .ref a0), (2, .int j175_2)] → F = f_X5_readPart_184x6 d (dv_pre (fun _ _ => dv_z) f_X5_readSum d) (dv G Γ H184) ((a0 : Int)) (j175_2.toInt) → th_sl H184 a0 (G.1.2 5 7) = .int bv → W p l e ({ frames := 6 + 2 * d, cells := 0, slots := 0, locals := 400 + d * 46 } : Room) s m ([.ref a0] : List Value).toArray below meth c H184 locs 0 0 (MQ below (th_Q (fun (v : Option Value) (H1 : Heap) => v = none ∧ th_I G Γ H1 ∧ th_F G Γ [(20, 5), (20, 6), (20, 7), (20, 8), (40, 0), (39, 2)] H0 H1 ∧ th_RD G Γ H1 ∧ (th_sl H1 a0 (G.1.2 5 7) = .int bv) ∧ (f_X5_readPart d (dv G Γ H0) (a0 : Int) = (dv G Γ H1, 0))) G) ([.ref a0] : List Value).toArray s 0 0 (fun q => G.2.2 ≤ q)) (F0 m 184 ls []) := by
                intro H184 locs ls hB hR hl hF g184_0
                have mm85 := (th_F_o hB.2.2 h0 ro_20 (j := 3) (by decide) (by decide)).trans mbn3
                replace hF := hF.trans (f_X5_readPart_184x6.eq_1 d (dv_pre (fun _ _ => dv_z) f_X5_readSum d) (dv G Γ H184) ((a0 : Int)) (j175_2.toInt))
                refine lv_aload_n hx hb dX5_readPart_184 rfl (lv_at hl 0 rfl) ?_
                refine th_getK hC cf_X5 hB.1 h0 ro_20 rfl (j := 3) (by decide) mm85 kf_X5_22 dX5_readPart_185 ?_
                replace hF := hF.trans (dv_bn (dv_getR h0 ro_20 (j := 3) rfl mm85 (by decide)))
                refine lv_iload_n hx hb dX5_readPart_188 rfl (lv_at hl 1 rfl) ?_
                refine th_call (th_runV (As := [.int j175_2]) (rest := []) hC mf_X10_add km_X5_199 im_X10_add se_X10_add (c_X10_add l G Γ H184 hB.1 hR.1 hU bn3 hbn3 j175_2 (by omega)) rfl rfl ⟨by dsimp only; omega, by dsimp only; omega⟩ hB.1 hbn3 ro_39 rfl rfl hl.1 rfl (Nat.le_of_ble_eq_true rfl) dX5_readPart_189 ⟨Nat.le_refl _, Nat.le_refl _⟩) hB.2.1 (fun v189 H189 locs hp hz hS => ?_)
                have hRD := hR
                obtain ⟨rfl, hI1, hf, hR, z189_0⟩ := hp
                have hR := th_RD_c hR hRD hf (by decide)
                have hB := th_B_c hB hI1 hS hf (by decide)
                have mm86 := (th_F_o hf h0 ro_20 (j := 7) (by decide) (by decide)).trans g184_0
                have mm87 := (th_F_o hf h0 ro_20 (j := 3) (by decide) (by decide)).trans mm85
                replace hF := hF.trans (dv_bn2 (z189_0))
                refine W.eq (g2 := F0 m 192 ls []) rfl ?_
                exact th_vret hC hH hr hlocks hB.2.1 ⟨rfl, hB.1, hB.2.2, hR, mm86, (hF0.symm.trans hF)⟩ dX5_readPart_192
              refine tr_icmp_ne (tgt := 184) hx hb dX5_readPart_177 (by decide) (Eq.refl _) tk_m1 (fun c177 => ?_) (fun c177 => ?_)
              · replace hF := hF.trans (if_pos c177)
                exact jn184 H175 locs ls hB hR (lv_sub hl [0, 1] rfl) hF g175_2
              · replace hF := hF.trans (if_neg (not_not_intro c177))
                refine lv_aload_n hx hb dX5_readPart_180 rfl (lv_at hl 0 rfl) ?_
                refine th_call (th_runV (As := []) (rest := []) hC mf_X5_fail km_X5_58 im_X5_fail se_X5_fail (c_X5_fail l G Γ H175 hB.1 hR hU a0 h0) rfl rfl ⟨by dsimp only; omega, by dsimp only; omega⟩ hB.1 h0 ro_20 rfl rfl hl.1 rfl (Nat.le_of_ble_eq_true rfl) dX5_readPart_181 ⟨Nat.le_refl _, Nat.le_refl _⟩) hB.2.1 (fun v181 H181 locs hp hz hS => ?_)
                obtain ⟨rfl, hI1, hf, hR, z181_0⟩ := hp
                have hB := th_B_c hB hI1 hS hf (by decide)
                have mm88 := (th_F_o hf h0 ro_20 (j := 7) (by decide) (by decide)).trans g175_2
                have mm89 := (th_F_o hf h0 ro_20 (j := 3) (by decide) (by decide)).trans mm84
                replace hF := hF.trans (dv_bn2 (z181_0))
                refine W.eq (g2 := F0 m 184 ls []) rfl ?_
                exact jn184 H181 locs ls hB hR (lv_sub hl [0, 1] rfl) hF mm88
            refine tr_if_eq (tgt := 175) hx hb dX5_readPart_137 (by decide) (Eq.refl _) (fun c137 => ?_) (fun c137 => ?_)
            · replace hF := hF.trans (if_pos c137)
              exact jn175 H130 locs ls x62 hB hR (lv_sub hl [2, 0] rfl) hF (by omega) (by omega) mm81
            · replace hF := hF.trans (if_neg c137)
              refine lv_iload_n hx hb dX5_readPart_140 rfl (lv_at hl 1 rfl) ?_
              refine lv_sipush (v := 318) hx hb dX5_readPart_141 (by decide) ?_
              have jn154 : ∀ (locs : List Loc) (ls : Array Slot) , th_B G Γ Γ [(20, 5), (20, 6), (20, 7), (20, 8), (40, 0), (39, 2)] H0 H130 locs → lv_has ls 4 [(2, .int x62), (0, .ref a0)] → F = f_X5_readPart_154x4 d (dv_pre (fun _ _ => dv_z) f_X5_readSum d) (dv G Γ H130) (x62.toInt) ((a0 : Int)) → W p l e ({ frames := 6 + 2 * d, cells := 0, slots := 0, locals := 400 + d * 46 } : Room) s m ([.ref a0] : List Value).toArray below meth c H130 locs 0 0 (MQ below (th_Q (fun (v : Option Value) (H1 : Heap) => v = none ∧ th_I G Γ H1 ∧ th_F G Γ [(20, 5), (20, 6), (20, 7), (20, 8), (40, 0), (39, 2)] H0 H1 ∧ th_RD G Γ H1 ∧ (th_sl H1 a0 (G.1.2 5 7) = .int bv) ∧ (f_X5_readPart d (dv G Γ H0) (a0 : Int) = (dv G Γ H1, 0))) G) ([.ref a0] : List Value).toArray s 0 0 (fun q => G.2.2 ≤ q)) (F0 m 154 ls []) := by
                intro locs ls hB hl hF
                replace hF := hF.trans (f_X5_readPart_154x4.eq_1 d (dv_pre (fun _ _ => dv_z) f_X5_readSum d) (dv G Γ H130) (x62.toInt) ((a0 : Int)))
                refine lv_aload_n hx hb dX5_readPart_154 rfl (lv_at hl 1 rfl) ?_
                refine lv_iconst (v := 0) hx hb dX5_readPart_155 (by decide) ?_
                refine lv_bipush (v := 8) hx hb dX5_readPart_156 (by decide) ?_
                refine th_call (th_runV (As := [.int 0, .int 8]) (rest := []) hC mf_X5_takeNumber km_X5_167 im_X5_takeNumber se_X5_takeNumber (c_X5_takeNumber l G Γ H130 hB.1 hR hU a0 h0 0 (by decide) 8) rfl rfl ⟨by dsimp only; omega, by dsimp only; omega⟩ hB.1 h0 ro_20 rfl rfl hl.1 rfl (Nat.le_of_ble_eq_true rfl) dX5_readPart_158 ⟨Nat.le_refl _, Nat.le_refl _⟩) hB.2.1 (fun v158 H158 locs hp hz hS => ?_)
                obtain ⟨x90, rfl, lx90, q158_0, hI1, hf, hR, z158_0, z158_1⟩ := hp
                have hB := th_B_c hB hI1 hS hf (by decide)
                have mm91 := (th_F_o hf h0 ro_20 (j := 7) (by decide) (by decide)).trans mm81
                have mm92 := (th_F_o hf h0 ro_20 (j := 3) (by decide) (by decide)).trans mm82
                have w158_0 := tk_0
                have w158_1 := tk_8
                have zf158 := z158_1
                rw [tk_0, tk_8] at zf158
                replace hF := hF.trans (dv_bn2 (zf158))
                refine W.eq (g2 := F0 m 161 ls [.int x90]) rfl ?_
                refine lv_istore_n (lv' := [(3, .int x90), (2, .int x62), (0, .ref a0)]) hx hb dX5_readPart_161 rfl hl (by decide) rfl (fun ls hl => ?_)
                refine lv_iload_n hx hb dX5_readPart_162 rfl (lv_at hl 0 rfl) ?_
                refine lv_iconst (v := (-1)) hx hb dX5_readPart_163 (by decide) ?_
                refine tr_icmp_ne (tgt := 171) hx hb dX5_readPart_164 (by decide) (Eq.refl _) tk_m1 (fun c164 => ?_) (fun c164 => ?_)
                · replace hF := hF.trans (if_pos c164)
                  refine lv_iload_n hx hb dX5_readPart_171 rfl (lv_at hl 1 rfl) ?_
                  refine lv_iload_n hx hb dX5_readPart_172 rfl (lv_at hl 0 rfl) ?_
                  refine tr_iadd hx hb dX5_readPart_173 (Eq.refl _) (Eq.refl _) (by omega) (by omega) (fun x93 ex93 => ?_)
                  replace hF := hF.trans (dv_bn (ex93.symm))
                  refine lv_istore_n (lv' := [(2, .int x93), (3, .int x90), (0, .ref a0)]) hx hb dX5_readPart_174 rfl hl (by decide) rfl (fun ls hl => ?_)
                  exact jn175 H158 locs ls x93 hB hR (lv_sub hl [2, 0] rfl) hF (by omega) (by omega) mm91
                · replace hF := hF.trans (if_neg (not_not_intro c164))
                  refine lv_iconst (v := (-1)) hx hb dX5_readPart_167 (by decide) ?_
                  refine lv_goto (tgt := 174) hx hb dX5_readPart_168 (by decide) ?_
                  refine lv_istore_n (lv' := [(2, .int (-1)), (3, .int x90), (0, .ref a0)]) hx hb dX5_readPart_174 rfl hl (by decide) rfl (fun ls hl => ?_)
                  exact jn175 H158 locs ls (-1) hB hR (lv_sub hl [2, 0] rfl) (by rw [tk_m1]; exact hF) (by decide) (by decide) mm91
              refine tr_icmp_eq (tgt := 154) hx hb dX5_readPart_144 (by decide) (Eq.refl _) tk_318 (fun c144 => ?_) (fun c144 => ?_)
              · exfalso; omega
              · replace hF := hF.trans (if_neg c144)
                refine lv_iload_n hx hb dX5_readPart_147 rfl (lv_at hl 1 rfl) ?_
                refine lv_sipush (v := 327) hx hb dX5_readPart_148 (by decide) ?_
                refine tr_icmp_ne (tgt := 175) hx hb dX5_readPart_151 (by decide) (Eq.refl _) tk_327 (fun c151 => ?_) (fun c151 => ?_)
                · replace hF := hF.trans (if_pos c151)
                  exact jn175 H130 locs ls x62 hB hR (lv_sub hl [2, 0] rfl) hF (by omega) (by omega) mm81
                · exfalso; omega
          · exfalso; omega
    · replace hF := hF.trans (if_neg (Int.not_lt.mpr c52))
      refine lv_aload_n hx hb dX5_readPart_55 rfl (lv_at hl 1 rfl) ?_
      refine th_call (th_runV (As := []) (rest := []) hC mf_X5_fail km_X5_58 im_X5_fail se_X5_fail (c_X5_fail l G Γ H0 hB.1 hR hU a0 h0) rfl rfl ⟨by dsimp only; omega, by dsimp only; omega⟩ hB.1 h0 ro_20 rfl rfl hl.1 rfl (Nat.le_of_ble_eq_true rfl) dX5_readPart_56 ⟨Nat.le_refl _, Nat.le_refl _⟩) hB.2.1 (fun v56 H56 locs hp hz hS => ?_)
      obtain ⟨rfl, hI1, hf, hR, z56_0⟩ := hp
      have hB := th_B_c hB hI1 hS hf (by decide)
      have mm94 := (th_F_o hf h0 ro_20 (j := 7) (by decide) (by decide)).trans mbv
      have mm95 := (th_F_o hf h0 ro_20 (j := 3) (by decide) (by decide)).trans mbn3
      have mm96 := (th_F_o hf h0 ro_20 (j := 6) (by decide) (by decide)).trans mx2
      have mc97 := th_TKi_F q1_0 h0 hf (by decide)
      replace hF := hF.trans (dv_bn2 (z56_0))
      refine W.eq (g2 := F0 m 59 ls []) rfl ?_
      exact th_vret hC hH hr hlocks hB.2.1 ⟨rfl, hB.1, hB.2.2, hR, mm94, (hF0.symm.trans hF)⟩ dX5_readPart_59
  · replace hF := hF.trans (if_neg (not_not_intro c8))
    refine lv_aload_n hx hb dX5_readPart_11 rfl (lv_at hl 1 rfl) ?_
    have tk0 := q1_0 (by omega)
    refine th_call (th_runV (As := []) (rest := []) hC mf_X5_openBracket km_X5_195 im_X5_openBracket se_X5_openBracket (c_X5_openBracket l G Γ H0 hB.1 hR hU a0 h0 tk0 bv mbv) rfl rfl ⟨by dsimp only; omega, by dsimp only; omega⟩ hB.1 h0 ro_20 rfl rfl hl.1 rfl (Nat.le_of_ble_eq_true rfl) dX5_readPart_12 ⟨Nat.le_refl _, Nat.le_refl _⟩) hB.2.1 (fun v12 H12 locs hp hz hS => ?_)
    obtain ⟨x98, rfl, lx98, ux98, hI1, hf, hR, z12_0, z12_1, z12_2⟩ := hp
    have hB := th_B_c hB hI1 hS hf (by decide)
    have mm99 := (th_F_o hf h0 ro_20 (j := 3) (by decide) (by decide)).trans mbn3
    replace hF := hF.trans (dv_bn2 (z12_2))
    refine W.eq (g2 := F0 m 15 ls [.int x98]) rfl ?_
    refine tr_if_eq (tgt := 32) hx hb dX5_readPart_15 (by decide) (Eq.refl _) (fun c15 => ?_) (fun c15 => ?_)
    · replace hF := hF.trans (if_pos c15)
      refine lv_aload_n hx hb dX5_readPart_32 rfl (lv_at hl 1 rfl) ?_
      have mb2x : th_sl H12 a0 (G.1.2 5 7) = .int bv := by rw [z12_1 (by omega)]; exact mbv
      refine lv_bipush (v := 93) hx hb dX5_readPart_33 (by decide) ?_
      refine th_call (th_runV (As := [.int 93]) (rest := []) hC mf_X5_take km_X5_54 im_X5_take se_X5_take (c_X5_take l G Γ H12 hB.1 hR hU a0 h0 93 (by decide)) rfl rfl ⟨by dsimp only; omega, by dsimp only; omega⟩ hB.1 h0 ro_20 rfl rfl hl.1 rfl (Nat.le_of_ble_eq_true rfl) dX5_readPart_35 ⟨Nat.le_refl _, Nat.le_refl _⟩) hB.2.1 (fun v35 H35 locs hp hz hS => ?_)
      obtain ⟨x100, rfl, lx100, ux100, hI1, hf, hR, z35_0, z35_1⟩ := hp
      have hB := th_B_c hB hI1 hS hf (by decide)
      have mm101 := (th_F_o hf h0 ro_20 (j := 3) (by decide) (by decide)).trans mm99
      have mm102 := (th_F_o hf h0 ro_20 (j := 7) (by decide) (by decide)).trans mb2x
      have zf35 := z35_1
      rw [tk_93] at zf35
      replace hF := hF.trans (dv_bn2 (zf35))
      refine W.eq (g2 := F0 m 38 ls [.int x100]) rfl ?_
      refine tr_if_ne (tgt := 45) hx hb dX5_readPart_38 (by decide) (Eq.refl _) (fun c38 => ?_) (fun c38 => ?_)
      · replace hF := hF.trans (if_pos c38)
        exact th_vret hC hH hr hlocks hB.2.1 ⟨rfl, hB.1, hB.2.2, hR, mm102, (hF0.symm.trans hF)⟩ dX5_readPart_45
      · replace hF := hF.trans (if_neg (not_not_intro c38))
        refine lv_aload_n hx hb dX5_readPart_41 rfl (lv_at hl 1 rfl) ?_
        refine th_call (th_runV (As := []) (rest := []) hC mf_X5_fail km_X5_58 im_X5_fail se_X5_fail (c_X5_fail l G Γ H35 hB.1 hR hU a0 h0) rfl rfl ⟨by dsimp only; omega, by dsimp only; omega⟩ hB.1 h0 ro_20 rfl rfl hl.1 rfl (Nat.le_of_ble_eq_true rfl) dX5_readPart_42 ⟨Nat.le_refl _, Nat.le_refl _⟩) hB.2.1 (fun v42 H42 locs hp hz hS => ?_)
        obtain ⟨rfl, hI1, hf, hR, z42_0⟩ := hp
        have hB := th_B_c hB hI1 hS hf (by decide)
        have mm103 := (th_F_o hf h0 ro_20 (j := 3) (by decide) (by decide)).trans mm101
        have mm104 := (th_F_o hf h0 ro_20 (j := 7) (by decide) (by decide)).trans mm102
        replace hF := hF.trans (dv_bn2 (z42_0))
        refine W.eq (g2 := F0 m 45 ls []) rfl ?_
        exact th_vret hC hH hr hlocks hB.2.1 ⟨rfl, hB.1, hB.2.2, hR, mm104, (hF0.symm.trans hF)⟩ dX5_readPart_45
    · replace hF := hF.trans (if_neg c15)
      refine lv_aload_n hx hb dX5_readPart_18 rfl (lv_at hl 1 rfl) ?_
      obtain ⟨ob1, b1x, mb1x, eb1⟩ := z12_0 (by omega)
      have lb1x := ti_lo b1x; have ub1x := ti_hi b1x
      obtain ⟨d', hd'⟩ : ∃ d', d = d' + 1 := ⟨d - 1, by omega⟩
      refine th_call (th_runV (As := []) (rest := []) hC mf_X5_readSum km_X5_180 im_X5_readSum se_X5_readSum (ihd d' hd' l G Γ H12 hB.1 hR hU a0 h0 ⟨_, mm99, hbn3⟩ b1x mb1x (by omega)) rfl rfl ⟨by dsimp only; omega, by dsimp only; omega⟩ hB.1 h0 ro_20 rfl rfl hl.1 rfl (Nat.le_of_ble_eq_true rfl) dX5_readPart_19 ⟨Nat.le_refl _, Nat.le_refl _⟩) hB.2.1 (fun v19 H19 locs hp hz hS => ?_)
      obtain ⟨rfl, hI1, hf, hR, z19_0, z19_1⟩ := hp
      have hB := th_B_c hB hI1 hS hf (by decide)
      have mm105 := (th_F_o hf h0 ro_20 (j := 3) (by decide) (by decide)).trans mm99
      have zf19 := z19_1
      rw [← dv_pre_s (z := (fun _ _ => dv_z)) (f := f_X5_readSum) hd'] at zf19
      replace hF := hF.trans (dv_bn2 (zf19))
      refine W.eq (g2 := F0 m 22 ls []) rfl ?_
      refine lv_aload_n hx hb dX5_readPart_22 rfl (lv_at hl 1 rfl) ?_
      refine lv_dup hx hb dX5_readPart_23 rfl ?_
      refine th_getK hC cf_X5 hB.1 h0 ro_20 rfl (j := 7) (by decide) z19_0 kf_X5_37 dX5_readPart_24 ?_
      replace hF := hF.trans (dv_bn (dv_getI h0 ro_20 (j := 7) rfl z19_0 (by decide)))
      refine lv_iconst (v := 1) hx hb dX5_readPart_27 (by decide) ?_
      refine tr_isub hx hb dX5_readPart_28 (Eq.refl _) tk_1 (by omega) (by omega) (fun x106 ex106 => ?_)
      replace hF := hF.trans (dv_bn (ex106.symm))
      refine th_put hC cf_X5 hB h0 (Or.inl h0) ro_20 rfl (j := 7) rfl th_sIa (by decide) rfl rfl rfl kf_X5_37 dX5_readPart_29 (fun H29 locs hB hf hst29 => ?_)
      have mm107 := (th_F_o hf h0 ro_20 (j := 3) (by decide) (by decide)).trans mm105
      have hR := th_RD_F hB.1 hR hf (th_T_s h0 ro_20 hst29) (by decide)
      replace hF := hF.trans (dv_bn (dv_putI hB.1 h0 ro_20 (j := 7) rfl (th_apart hC cf_X5) hst29 (Eq.refl _) (by decide)))
      have mm108 := hst29.2.1
      have e29 : x106 = bv := Int32.toInt_inj.mp (by omega)
      have mb3x : th_sl H29 a0 (G.1.2 5 7) = .int bv := by rw [← e29]; exact mm108
      refine lv_aload_n hx hb dX5_readPart_32 rfl (lv_at hl 1 rfl) ?_
      refine lv_bipush (v := 93) hx hb dX5_readPart_33 (by decide) ?_
      refine th_call (th_runV (As := [.int 93]) (rest := []) hC mf_X5_take km_X5_54 im_X5_take se_X5_take (c_X5_take l G Γ H29 hB.1 hR hU a0 h0 93 (by decide)) rfl rfl ⟨by dsimp only; omega, by dsimp only; omega⟩ hB.1 h0 ro_20 rfl rfl hl.1 rfl (Nat.le_of_ble_eq_true rfl) dX5_readPart_35 ⟨Nat.le_refl _, Nat.le_refl _⟩) hB.2.1 (fun v35 H35 locs hp hz hS => ?_)
      obtain ⟨x109, rfl, lx109, ux109, hI1, hf, hR, z35_0, z35_1⟩ := hp
      have hB := th_B_c hB hI1 hS hf (by decide)
      have mm110 := (th_F_o hf h0 ro_20 (j := 3) (by decide) (by decide)).trans mm107
      have mm111 := (th_F_o hf h0 ro_20 (j := 7) (by decide) (by decide)).trans mb3x
      have zf35 := z35_1
      rw [tk_93] at zf35
      replace hF := hF.trans (dv_bn2 (zf35))
      refine W.eq (g2 := F0 m 38 ls [.int x109]) rfl ?_
      refine tr_if_ne (tgt := 45) hx hb dX5_readPart_38 (by decide) (Eq.refl _) (fun c38 => ?_) (fun c38 => ?_)
      · replace hF := hF.trans (if_pos c38)
        exact th_vret hC hH hr hlocks hB.2.1 ⟨rfl, hB.1, hB.2.2, hR, mm111, (hF0.symm.trans hF)⟩ dX5_readPart_45
      · replace hF := hF.trans (if_neg (not_not_intro c38))
        refine lv_aload_n hx hb dX5_readPart_41 rfl (lv_at hl 1 rfl) ?_
        refine th_call (th_runV (As := []) (rest := []) hC mf_X5_fail km_X5_58 im_X5_fail se_X5_fail (c_X5_fail l G Γ H35 hB.1 hR hU a0 h0) rfl rfl ⟨by dsimp only; omega, by dsimp only; omega⟩ hB.1 h0 ro_20 rfl rfl hl.1 rfl (Nat.le_of_ble_eq_true rfl) dX5_readPart_42 ⟨Nat.le_refl _, Nat.le_refl _⟩) hB.2.1 (fun v42 H42 locs hp hz hS => ?_)
        obtain ⟨rfl, hI1, hf, hR, z42_0⟩ := hp
        have hB := th_B_c hB hI1 hS hf (by decide)
        have mm112 := (th_F_o hf h0 ro_20 (j := 3) (by decide) (by decide)).trans mm110
        have mm113 := (th_F_o hf h0 ro_20 (j := 7) (by decide) (by decide)).trans mm111
        replace hF := hF.trans (dv_bn2 (z42_0))
        refine W.eq (g2 := F0 m 45 ls []) rfl ?_
        exact th_vret hC hH hr hlocks hB.2.1 ⟨rfl, hB.1, hB.2.2, hR, mm113, (hF0.symm.trans hF)⟩ dX5_readPart_45

set_option maxHeartbeats 4000000 in
set_option maxRecDepth 100000 in
theorem c_X5_readSum_s (d : Nat) (ihp : s_X5_readPart d) : s_X5_readSum d := by
  intro l G Γ H0 hI hR hU a0 h0 nn3 bv mbv hdm
  refine th_met RX5 (by decide) rfl (Nat.le_of_ble_eq_true rfl) ?_
  intro p e s m below meth c hC hH hr hlocks hnm ls hl
  have hx := hC.1
  have hb := hC.2.1
  have hB : th_B G Γ Γ [(20, 5), (20, 6), (20, 7), (20, 8), (40, 0), (39, 2)] H0 H0 [] := ⟨hI, va_S.rf, th_F_rf⟩
  have hl : lv_has ls 4 [(0, .ref a0)] := hl
  have lbv := ti_lo bv; have ubv := ti_hi bv
  obtain ⟨bn3, mbn3, hbn3⟩ := nn3
  obtain ⟨F, hF0⟩ : ∃ F, F = f_X5_readSum d (dv G Γ H0) ((a0 : Int)) := ⟨_, rfl⟩
  have hF := hF0.trans ((f_X5_readSum_d d (dv G Γ H0) ((a0 : Int))).trans (f_X5_readSum_B.eq_1 d (f_X5_readPart d) (dv G Γ H0) ((a0 : Int))))
  refine lv_aload_n hx hb dX5_readSum_0 rfl (lv_at hl 0 rfl) ?_
  refine th_call (th_runV (As := []) (rest := []) hC mf_X5_readPart km_X5_202 im_X5_readPart se_X5_readPart (ihp l G Γ H0 hB.1 hR hU a0 h0 ⟨_, mbn3, hbn3⟩ bv mbv (by omega)) rfl rfl ⟨by dsimp only; omega, by dsimp only; omega⟩ hB.1 h0 ro_20 rfl rfl hl.1 rfl (Nat.le_of_ble_eq_true rfl) dX5_readSum_1 ⟨Nat.le_refl _, Nat.le_refl _⟩) hB.2.1 (fun v1 H1 locs hp hz hS => ?_)
  obtain ⟨rfl, hI1, hf, hR, z1_0, z1_1⟩ := hp
  have hB := th_B_c hB hI1 hS hf (by decide)
  have mm1 := (th_F_o hf h0 ro_20 (j := 3) (by decide) (by decide)).trans mbn3
  replace hF := hF.trans (dv_bn2 (z1_1))
  refine W.eq (g2 := F0 m 4 ls []) rfl ?_
  refine lv_iconst (v := (-1)) hx hb dX5_readSum_4 (by decide) ?_
  refine lv_istore_n (lv' := [(1, .int (-1)), (0, .ref a0)]) hx hb dX5_readSum_5 rfl hl (by decide) rfl (fun ls hl => ?_)
  refine lv_iconst (v := 0) hx hb dX5_readSum_6 (by decide) ?_
  refine lv_istore_n (lv' := [(2, .int 0), (1, .int (-1)), (0, .ref a0)]) hx hb dX5_readSum_7 rfl hl (by decide) rfl (fun ls hl => ?_)
  have lp8 : ∀ (n8 : Nat) (H8 : Heap) (locs : List Loc) (ls : Array Slot) (j8_1 : Int32) (j8_2 : Int32), th_B G Γ Γ [(20, 5), (20, 6), (20, 7), (20, 8), (40, 0), (39, 2)] H0 H8 locs → th_RD G Γ H8 → lv_has ls 4 [(0, .ref a0), (1, .int j8_1), (2, .int j8_2)] → F = dv_lp (f_X5_readSum_8b d (f_X5_readPart d)) (dv G Γ H8, (a0 : Int), j8_1.toInt, j8_2.toInt) → (-1) ≤ j8_1.toInt → j8_1.toInt ≤ 3001 → 0 ≤ j8_2.toInt → j8_2.toInt ≤ 400 → th_sl H8 a0 (G.1.2 5 7) = .int bv → (2147483648 : Int) - j8_2.toInt ≤ (n8 : Int) → W p l e ({ frames := 7 + 2 * d, cells := 0, slots := 0, locals := 423 + d * 46 } : Room) s m ([.ref a0] : List Value).toArray below meth c H8 locs 0 0 (MQ below (th_Q (fun (v : Option Value) (H1 : Heap) => v = none ∧ th_I G Γ H1 ∧ th_F G Γ [(20, 5), (20, 6), (20, 7), (20, 8), (40, 0), (39, 2)] H0 H1 ∧ th_RD G Γ H1 ∧ (th_sl H1 a0 (G.1.2 5 7) = .int bv) ∧ (f_X5_readSum d (dv G Γ H0) (a0 : Int) = (dv G Γ H1, 0))) G) ([.ref a0] : List Value).toArray s 0 0 (fun q => G.2.2 ≤ q)) (F0 m 8 ls []) := by
    intro n8
    induction n8 with
    | zero => intro H8 locs ls j8_1 j8_2 hB hR hl hF g8_0 g8_1 g8_2 g8_3 g8_4 hm8; exact absurd hm8 (by have := ti_hi j8_2; omega)
    | succ n8 ih8 =>
      intro H8 locs ls j8_1 j8_2 hB hR hl hF g8_0 g8_1 g8_2 g8_3 g8_4 hm8
      have lj8_1 := ti_lo j8_1; have uj8_1 := ti_hi j8_1
      have lj8_2 := ti_lo j8_2; have uj8_2 := ti_hi j8_2
      have mm2 := (th_F_o hB.2.2 h0 ro_20 (j := 3) (by decide) (by decide)).trans mbn3
      have hm8 : (2147483648 : Int) - j8_2.toInt ≤ (n8 : Int) + 1 := by omega
      replace hF := hF.trans (dv_lp_eq)
      replace hF := hF.trans (congrArg (dv_k (f_X5_readSum_8b d (f_X5_readPart d))) (f_X5_readSum_8c.eq_1 d (f_X5_readPart d) (dv G Γ H8) ((a0 : Int)) (j8_1.toInt) (j8_2.toInt)))
      refine lv_iload_n hx hb dX5_readSum_8 rfl (lv_at hl 2 rfl) ?_
      refine lv_sipush (v := 400) hx hb dX5_readSum_9 (by decide) ?_
      have jn90 : ∀ (locs : List Loc) (ls : Array Slot) , th_B G Γ Γ [(20, 5), (20, 6), (20, 7), (20, 8), (40, 0), (39, 2)] H0 H8 locs → lv_has ls 4 [(0, .ref a0), (1, .int j8_1)] → F = dv_k (f_X5_readSum_8b d (f_X5_readPart d)) (f_X5_readSum_90 d (f_X5_readPart d) (dv G Γ H8) ((a0 : Int)) (j8_1.toInt)) → W p l e ({ frames := 7 + 2 * d, cells := 0, slots := 0, locals := 423 + d * 46 } : Room) s m ([.ref a0] : List Value).toArray below meth c H8 locs 0 0 (MQ below (th_Q (fun (v : Option Value) (H1 : Heap) => v = none ∧ th_I G Γ H1 ∧ th_F G Γ [(20, 5), (20, 6), (20, 7), (20, 8), (40, 0), (39, 2)] H0 H1 ∧ th_RD G Γ H1 ∧ (th_sl H1 a0 (G.1.2 5 7) = .int bv) ∧ (f_X5_readSum d (dv G Γ H0) (a0 : Int) = (dv G Γ H1, 0))) G) ([.ref a0] : List Value).toArray s 0 0 (fun q => G.2.2 ≤ q)) (F0 m 90 ls []) := by
        intro locs ls hB hl hF
        replace hF := hF.trans (congrArg (dv_k (f_X5_readSum_8b d (f_X5_readPart d))) (f_X5_readSum_90.eq_1 d (f_X5_readPart d) (dv G Γ H8) ((a0 : Int)) (j8_1.toInt)))
        refine lv_aload_n hx hb dX5_readSum_90 rfl (lv_at hl 0 rfl) ?_
        refine th_getK hC cf_X5 hB.1 h0 ro_20 rfl (j := 3) (by decide) mm2 kf_X5_22 dX5_readSum_91 ?_
        replace hF := hF.trans (congrArg (dv_k (f_X5_readSum_8b d (f_X5_readPart d))) (dv_bn (dv_getR h0 ro_20 (j := 3) rfl mm2 (by decide))))
        refine lv_iload_n hx hb dX5_readSum_94 rfl (lv_at hl 1 rfl) ?_
        refine th_call (th_runV (As := [.int j8_1]) (rest := []) hC mf_X10_add km_X5_199 im_X10_add se_X10_add (c_X10_add l G Γ H8 hB.1 hR.1 hU bn3 hbn3 j8_1 (by omega)) rfl rfl ⟨by dsimp only; omega, by dsimp only; omega⟩ hB.1 hbn3 ro_39 rfl rfl hl.1 rfl (Nat.le_of_ble_eq_true rfl) dX5_readSum_95 ⟨Nat.le_refl _, Nat.le_refl _⟩) hB.2.1 (fun v95 H95 locs hp hz hS => ?_)
        have hRD := hR
        obtain ⟨rfl, hI1, hf, hR, z95_0⟩ := hp
        have hR := th_RD_c hR hRD hf (by decide)
        have hB := th_B_c hB hI1 hS hf (by decide)
        have mm3 := (th_F_o hf h0 ro_20 (j := 7) (by decide) (by decide)).trans g8_4
        have mm4 := (th_F_o hf h0 ro_20 (j := 3) (by decide) (by decide)).trans mm2
        replace hF := hF.trans (congrArg (dv_k (f_X5_readSum_8b d (f_X5_readPart d))) (dv_bn2 (z95_0)))
        refine W.eq (g2 := F0 m 98 ls []) rfl ?_
        replace hF := hF.trans (dv_kr)
        exact th_vret hC hH hr hlocks hB.2.1 ⟨rfl, hB.1, hB.2.2, hR, mm3, (hF0.symm.trans hF)⟩ dX5_readSum_98
      refine tr_icmp_ge (tgt := 90) hx hb dX5_readSum_12 (by decide) (Eq.refl _) tk_400 (fun c12 => ?_) (fun c12 => ?_)
      · replace hF := hF.trans (congrArg (dv_k (f_X5_readSum_8b d (f_X5_readPart d))) (if_pos c12))
        exact jn90 locs ls hB (lv_sub hl [0, 1] rfl) hF
      · replace hF := hF.trans (congrArg (dv_k (f_X5_readSum_8b d (f_X5_readPart d))) (if_neg (Int.not_le.mpr c12)))
        refine lv_aload_n hx hb dX5_readSum_15 rfl (lv_at hl 0 rfl) ?_
        refine th_call (th_runV (As := []) (rest := []) hC mf_X5_seenToken km_X5_186 im_X5_seenToken se_X5_seenToken (c_X5_seenToken l G Γ H8 hB.1 hR hU a0 h0) rfl rfl ⟨by dsimp only; omega, by dsimp only; omega⟩ hB.1 h0 ro_20 rfl rfl hl.1 rfl (Nat.le_of_ble_eq_true rfl) dX5_readSum_16 ⟨Nat.le_refl _, Nat.le_refl _⟩) hB.2.1 (fun v16 H16 locs hp hz hS => ?_)
        obtain ⟨x5, rfl, q16_0, q16_1, rfl⟩ := hp
        have hB := th_B_s hB hS
        replace hF := hF.trans (congrArg (dv_k (f_X5_readSum_8b d (f_X5_readPart d))) (dv_bn2 (q16_1)))
        refine W.eq (g2 := F0 m 19 ls [.int x5]) rfl ?_
        refine th_call (th_runS (As := [.int x5]) (rest := []) hC mf_X5_codeOf km_X5_205 st_X5_codeOf (c_X5_codeOf l G Γ H8 hB.1 hU x5) rfl rfl ⟨by dsimp only; omega, by dsimp only; omega⟩ rfl hl.1 rfl (Nat.le_of_ble_eq_true rfl) dX5_readSum_19 ⟨Nat.le_refl _, Nat.le_refl _⟩) hB.2.1 (fun v19 H19 locs hp hz hS => ?_)
        obtain ⟨x6, rfl, lx6, ux6, q19_0, q19_1, rfl⟩ := hp
        have hB := th_B_s hB hS
        replace hF := hF.trans (congrArg (dv_k (f_X5_readSum_8b d (f_X5_readPart d))) (dv_bn2 (q19_1)))
        refine W.eq (g2 := F0 m 22 ls [.int x6]) rfl ?_
        refine lv_istore_n (lv' := [(3, .int x6), (0, .ref a0), (1, .int j8_1), (2, .int j8_2)]) hx hb dX5_readSum_22 rfl hl (by decide) rfl (fun ls hl => ?_)
        refine lv_iload_n hx hb dX5_readSum_23 rfl (lv_at hl 0 rfl) ?_
        refine lv_iconst (v := (-1)) hx hb dX5_readSum_24 (by decide) ?_
        refine tr_icmp_ne (tgt := 31) hx hb dX5_readSum_25 (by decide) (Eq.refl _) tk_m1 (fun c25 => ?_) (fun c25 => ?_)
        · replace hF := hF.trans (congrArg (dv_k (f_X5_readSum_8b d (f_X5_readPart d))) (if_pos c25))
          refine lv_aload_n hx hb dX5_readSum_31 rfl (lv_at hl 1 rfl) ?_
          have tk := q16_0 (by omega)
          refine lv_dup hx hb dX5_readSum_32 rfl ?_
          refine th_getI (j := 5) hC cf_X5 hB.1 h0 ro_20 rfl rfl kf_X5_30 dX5_readSum_33 (fun x7 mx7 lx7 ux7 => ?_)
          obtain ⟨rax7, rbx7⟩ := th_RI_at (hR.2 _ _ h0) mx7
          replace hF := hF.trans (congrArg (dv_k (f_X5_readSum_8b d (f_X5_readPart d))) (dv_bn (dv_getI h0 ro_20 (j := 5) rfl mx7 (by decide))))
          refine lv_iconst (v := 1) hx hb dX5_readSum_36 (by decide) ?_
          refine tr_iadd hx hb dX5_readSum_37 (Eq.refl _) tk_1 (by omega) (by omega) (fun x8 ex8 => ?_)
          replace hF := hF.trans (congrArg (dv_k (f_X5_readSum_8b d (f_X5_readPart d))) (dv_bn (ex8.symm)))
          refine th_put hC cf_X5 hB h0 (Or.inl h0) ro_20 rfl (j := 5) rfl th_sIa (by decide) rfl rfl rfl kf_X5_30 dX5_readSum_38 (fun H38 locs hB hf hst38 => ?_)
          have mm9 := (th_F_o hf h0 ro_20 (j := 7) (by decide) (by decide)).trans g8_4
          have mm10 := (th_F_o hf h0 ro_20 (j := 3) (by decide) (by decide)).trans mm2
          replace hF := hF.trans (congrArg (dv_k (f_X5_readSum_8b d (f_X5_readPart d))) (dv_bn (dv_putI hB.1 h0 ro_20 (j := 5) rfl (th_apart hC cf_X5) hst38 (Eq.refl _) (by decide))))
          have mm11 := hst38.2.1
          have hR := th_RD_st (th_RC_F hB.1 hR.1 hf (th_T_s h0 ro_20 hst38) (by decide)) hR h0 hst38 (th_RD_up (th_apart hC cf_X5 0 5 (by decide) (by decide) (by decide)) (hR.2 _ _ h0) tk h0 mx7 (by have w1 := tk_1; omega) hst38)
          refine lv_iload_n hx hb dX5_readSum_41 rfl (lv_at hl 0 rfl) ?_
          refine lv_sipush (v := 3000) hx hb dX5_readSum_42 (by decide) ?_
          have jn84 : ∀ (H84 : Heap) (locs : List Loc) (ls : Array Slot) (j84_1 : Int32), th_B G Γ Γ [(20, 5), (20, 6), (20, 7), (20, 8), (40, 0), (39, 2)] H0 H84 locs → th_RD G Γ H84 → lv_has ls 4 [(0, .ref a0), (2, .int j8_2), (1, .int j84_1)] → F = dv_k (f_X5_readSum_8b d (f_X5_readPart d)) (f_X5_readSum_84 d (f_X5_readPart d) (dv G Γ H84) ((a0 : Int)) (j8_2.toInt) (j84_1.toInt)) → (-1) ≤ j84_1.toInt → j84_1.toInt ≤ 3001 → th_sl H84 a0 (G.1.2 5 7) = .int bv → W p l e ({ frames := 7 + 2 * d, cells := 0, slots := 0, locals := 423 + d * 46 } : Room) s m ([.ref a0] : List Value).toArray below meth c H84 locs 0 0 (MQ below (th_Q (fun (v : Option Value) (H1 : Heap) => v = none ∧ th_I G Γ H1 ∧ th_F G Γ [(20, 5), (20, 6), (20, 7), (20, 8), (40, 0), (39, 2)] H0 H1 ∧ th_RD G Γ H1 ∧ (th_sl H1 a0 (G.1.2 5 7) = .int bv) ∧ (f_X5_readSum d (dv G Γ H0) (a0 : Int) = (dv G Γ H1, 0))) G) ([.ref a0] : List Value).toArray s 0 0 (fun q => G.2.2 ≤ q)) (F0 m 84 ls []) := by
            intro H84 locs ls j84_1 hB hR hl hF g84_0 g84_1 g84_2
            have lj84_1 := ti_lo j84_1; have uj84_1 := ti_hi j84_1
            have mm12 := (th_F_o hB.2.2 h0 ro_20 (j := 3) (by decide) (by decide)).trans mbn3
            replace hF := hF.trans (congrArg (dv_k (f_X5_readSum_8b d (f_X5_readPart d))) (f_X5_readSum_84.eq_1 d (f_X5_readPart d) (dv G Γ H84) ((a0 : Int)) (j8_2.toInt) (j84_1.toInt)))
            refine tr_iinc (fun x13 => [(2, .int x13), (0, .ref a0), (1, .int j84_1)]) hx hb dX5_readSum_84 hl (k := 1) rfl (Eq.refl _) tk_1 (by omega) (by omega) (by decide) (fun _ => rfl) (fun x13 ls ex13 hl => ?_)
            replace hF := hF.trans (congrArg (dv_k (f_X5_readSum_8b d (f_X5_readPart d))) (dv_bn (ex13.symm)))
            refine lv_goto (tgt := 8) hx hb dX5_readSum_87 (by decide) ?_
            replace hF := hF.trans (dv_kl)
            exact ih8 H84 locs ls j84_1 x13 hB hR (lv_sub hl [1, 2, 0] rfl) hF (by omega) (by omega) (by omega) (by omega) g84_2 (by omega)
          refine tr_icmp_eq (tgt := 55) hx hb dX5_readSum_45 (by decide) (Eq.refl _) tk_3000 (fun c45 => ?_) (fun c45 => ?_)
          · replace hF := hF.trans (congrArg (dv_k (f_X5_readSum_8b d (f_X5_readPart d))) (if_pos c45))
            refine lv_aload_n hx hb dX5_readSum_55 rfl (lv_at hl 1 rfl) ?_
            refine th_getK hC cf_X5 hB.1 h0 ro_20 rfl (j := 3) (by decide) mm10 kf_X5_22 dX5_readSum_56 ?_
            replace hF := hF.trans (congrArg (dv_k (f_X5_readSum_8b d (f_X5_readPart d))) (dv_bn (dv_getR h0 ro_20 (j := 3) rfl mm10 (by decide))))
            refine lv_iload_n hx hb dX5_readSum_59 rfl (lv_at hl 2 rfl) ?_
            refine th_call (th_runV (As := [.int j8_1]) (rest := []) hC mf_X10_add km_X5_199 im_X10_add se_X10_add (c_X10_add l G Γ H38 hB.1 hR.1 hU bn3 hbn3 j8_1 (by omega)) rfl rfl ⟨by dsimp only; omega, by dsimp only; omega⟩ hB.1 hbn3 ro_39 rfl rfl hl.1 rfl (Nat.le_of_ble_eq_true rfl) dX5_readSum_60 ⟨Nat.le_refl _, Nat.le_refl _⟩) hB.2.1 (fun v60 H60 locs hp hz hS => ?_)
            have hRD := hR
            obtain ⟨rfl, hI1, hf, hR, z60_0⟩ := hp
            have hR := th_RD_c hR hRD hf (by decide)
            have hB := th_B_c hB hI1 hS hf (by decide)
            have mm14 := (th_F_o hf h0 ro_20 (j := 7) (by decide) (by decide)).trans mm9
            have mm15 := (th_F_o hf h0 ro_20 (j := 3) (by decide) (by decide)).trans mm10
            have mm16 := (th_F_o hf h0 ro_20 (j := 5) (by decide) (by decide)).trans mm11
            replace hF := hF.trans (congrArg (dv_k (f_X5_readSum_8b d (f_X5_readPart d))) (dv_bn2 (z60_0)))
            refine W.eq (g2 := F0 m 63 ls []) rfl ?_
            refine lv_iload_n hx hb dX5_readSum_63 rfl (lv_at hl 0 rfl) ?_
            refine lv_istore_n (lv' := [(1, .int x6), (3, .int x6), (0, .ref a0), (2, .int j8_2)]) hx hb dX5_readSum_64 rfl hl (by decide) rfl (fun ls hl => ?_)
            refine lv_aload_n hx hb dX5_readSum_65 rfl (lv_at hl 2 rfl) ?_
            refine th_call (th_runV (As := []) (rest := []) hC mf_X5_readPart km_X5_202 im_X5_readPart se_X5_readPart (ihp l G Γ H60 hB.1 hR hU a0 h0 ⟨_, mm15, hbn3⟩ bv mm14 (by omega)) rfl rfl ⟨by dsimp only; omega, by dsimp only; omega⟩ hB.1 h0 ro_20 rfl rfl hl.1 rfl (Nat.le_of_ble_eq_true rfl) dX5_readSum_66 ⟨Nat.le_refl _, Nat.le_refl _⟩) hB.2.1 (fun v66 H66 locs hp hz hS => ?_)
            obtain ⟨rfl, hI1, hf, hR, z66_0, z66_1⟩ := hp
            have hB := th_B_c hB hI1 hS hf (by decide)
            have mm17 := (th_F_o hf h0 ro_20 (j := 3) (by decide) (by decide)).trans mm15
            replace hF := hF.trans (congrArg (dv_k (f_X5_readSum_8b d (f_X5_readPart d))) (dv_bn2 (z66_1)))
            refine W.eq (g2 := F0 m 69 ls []) rfl ?_
            refine lv_goto (tgt := 84) hx hb dX5_readSum_69 (by decide) ?_
            exact jn84 H66 locs ls x6 hB hR (lv_sub hl [2, 3, 0] rfl) hF (by omega) (by omega) z66_0
          · replace hF := hF.trans (congrArg (dv_k (f_X5_readSum_8b d (f_X5_readPart d))) (if_neg c45))
            refine lv_iload_n hx hb dX5_readSum_48 rfl (lv_at hl 0 rfl) ?_
            refine lv_sipush (v := 3001) hx hb dX5_readSum_49 (by decide) ?_
            refine tr_icmp_ne (tgt := 72) hx hb dX5_readSum_52 (by decide) (Eq.refl _) tk_3001 (fun c52 => ?_) (fun c52 => ?_)
            · replace hF := hF.trans (congrArg (dv_k (f_X5_readSum_8b d (f_X5_readPart d))) (if_pos c52))
              refine lv_aload_n hx hb dX5_readSum_72 rfl (lv_at hl 1 rfl) ?_
              refine th_call (th_runV (As := []) (rest := []) hC mf_X5_readPart km_X5_202 im_X5_readPart se_X5_readPart (ihp l G Γ H38 hB.1 hR hU a0 h0 ⟨_, mm10, hbn3⟩ bv mm9 (by omega)) rfl rfl ⟨by dsimp only; omega, by dsimp only; omega⟩ hB.1 h0 ro_20 rfl rfl hl.1 rfl (Nat.le_of_ble_eq_true rfl) dX5_readSum_73 ⟨Nat.le_refl _, Nat.le_refl _⟩) hB.2.1 (fun v73 H73 locs hp hz hS => ?_)
              obtain ⟨rfl, hI1, hf, hR, z73_0, z73_1⟩ := hp
              have hB := th_B_c hB hI1 hS hf (by decide)
              have mm18 := (th_F_o hf h0 ro_20 (j := 3) (by decide) (by decide)).trans mm10
              replace hF := hF.trans (congrArg (dv_k (f_X5_readSum_8b d (f_X5_readPart d))) (dv_bn2 (z73_1)))
              refine W.eq (g2 := F0 m 76 ls []) rfl ?_
              refine lv_aload_n hx hb dX5_readSum_76 rfl (lv_at hl 1 rfl) ?_
              refine th_getK hC cf_X5 hB.1 h0 ro_20 rfl (j := 3) (by decide) mm18 kf_X5_22 dX5_readSum_77 ?_
              replace hF := hF.trans (congrArg (dv_k (f_X5_readSum_8b d (f_X5_readPart d))) (dv_bn (dv_getR h0 ro_20 (j := 3) rfl mm18 (by decide))))
              refine lv_iload_n hx hb dX5_readSum_80 rfl (lv_at hl 0 rfl) ?_
              refine th_call (th_runV (As := [.int x6]) (rest := []) hC mf_X10_add km_X5_199 im_X10_add se_X10_add (c_X10_add l G Γ H73 hB.1 hR.1 hU bn3 hbn3 x6 (by omega)) rfl rfl ⟨by dsimp only; omega, by dsimp only; omega⟩ hB.1 hbn3 ro_39 rfl rfl hl.1 rfl (Nat.le_of_ble_eq_true rfl) dX5_readSum_81 ⟨Nat.le_refl _, Nat.le_refl _⟩) hB.2.1 (fun v81 H81 locs hp hz hS => ?_)
              have hRD := hR
              obtain ⟨rfl, hI1, hf, hR, z81_0⟩ := hp
              have hR := th_RD_c hR hRD hf (by decide)
              have hB := th_B_c hB hI1 hS hf (by decide)
              have mm19 := (th_F_o hf h0 ro_20 (j := 3) (by decide) (by decide)).trans mm18
              have mm20 := (th_F_o hf h0 ro_20 (j := 7) (by decide) (by decide)).trans z73_0
              replace hF := hF.trans (congrArg (dv_k (f_X5_readSum_8b d (f_X5_readPart d))) (dv_bn2 (z81_0)))
              refine W.eq (g2 := F0 m 84 ls []) rfl ?_
              exact jn84 H81 locs ls j8_1 hB hR (lv_sub hl [1, 3, 2] rfl) hF (by omega) (by omega) mm20
            · replace hF := hF.trans (congrArg (dv_k (f_X5_readSum_8b d (f_X5_readPart d))) (if_neg (not_not_intro c52)))
              refine lv_aload_n hx hb dX5_readSum_55 rfl (lv_at hl 1 rfl) ?_
              refine th_getK hC cf_X5 hB.1 h0 ro_20 rfl (j := 3) (by decide) mm10 kf_X5_22 dX5_readSum_56 ?_
              replace hF := hF.trans (congrArg (dv_k (f_X5_readSum_8b d (f_X5_readPart d))) (dv_bn (dv_getR h0 ro_20 (j := 3) rfl mm10 (by decide))))
              refine lv_iload_n hx hb dX5_readSum_59 rfl (lv_at hl 2 rfl) ?_
              refine th_call (th_runV (As := [.int j8_1]) (rest := []) hC mf_X10_add km_X5_199 im_X10_add se_X10_add (c_X10_add l G Γ H38 hB.1 hR.1 hU bn3 hbn3 j8_1 (by omega)) rfl rfl ⟨by dsimp only; omega, by dsimp only; omega⟩ hB.1 hbn3 ro_39 rfl rfl hl.1 rfl (Nat.le_of_ble_eq_true rfl) dX5_readSum_60 ⟨Nat.le_refl _, Nat.le_refl _⟩) hB.2.1 (fun v60 H60 locs hp hz hS => ?_)
              have hRD := hR
              obtain ⟨rfl, hI1, hf, hR, z60_0⟩ := hp
              have hR := th_RD_c hR hRD hf (by decide)
              have hB := th_B_c hB hI1 hS hf (by decide)
              have mm21 := (th_F_o hf h0 ro_20 (j := 7) (by decide) (by decide)).trans mm9
              have mm22 := (th_F_o hf h0 ro_20 (j := 3) (by decide) (by decide)).trans mm10
              have mm23 := (th_F_o hf h0 ro_20 (j := 5) (by decide) (by decide)).trans mm11
              replace hF := hF.trans (congrArg (dv_k (f_X5_readSum_8b d (f_X5_readPart d))) (dv_bn2 (z60_0)))
              refine W.eq (g2 := F0 m 63 ls []) rfl ?_
              refine lv_iload_n hx hb dX5_readSum_63 rfl (lv_at hl 0 rfl) ?_
              refine lv_istore_n (lv' := [(1, .int x6), (3, .int x6), (0, .ref a0), (2, .int j8_2)]) hx hb dX5_readSum_64 rfl hl (by decide) rfl (fun ls hl => ?_)
              refine lv_aload_n hx hb dX5_readSum_65 rfl (lv_at hl 2 rfl) ?_
              refine th_call (th_runV (As := []) (rest := []) hC mf_X5_readPart km_X5_202 im_X5_readPart se_X5_readPart (ihp l G Γ H60 hB.1 hR hU a0 h0 ⟨_, mm22, hbn3⟩ bv mm21 (by omega)) rfl rfl ⟨by dsimp only; omega, by dsimp only; omega⟩ hB.1 h0 ro_20 rfl rfl hl.1 rfl (Nat.le_of_ble_eq_true rfl) dX5_readSum_66 ⟨Nat.le_refl _, Nat.le_refl _⟩) hB.2.1 (fun v66 H66 locs hp hz hS => ?_)
              obtain ⟨rfl, hI1, hf, hR, z66_0, z66_1⟩ := hp
              have hB := th_B_c hB hI1 hS hf (by decide)
              have mm24 := (th_F_o hf h0 ro_20 (j := 3) (by decide) (by decide)).trans mm22
              replace hF := hF.trans (congrArg (dv_k (f_X5_readSum_8b d (f_X5_readPart d))) (dv_bn2 (z66_1)))
              refine W.eq (g2 := F0 m 69 ls []) rfl ?_
              refine lv_goto (tgt := 84) hx hb dX5_readSum_69 (by decide) ?_
              exact jn84 H66 locs ls x6 hB hR (lv_sub hl [2, 3, 0] rfl) hF (by omega) (by omega) z66_0
        · replace hF := hF.trans (congrArg (dv_k (f_X5_readSum_8b d (f_X5_readPart d))) (if_neg (not_not_intro c25)))
          refine lv_goto (tgt := 90) hx hb dX5_readSum_28 (by decide) ?_
          exact jn90 locs ls hB (lv_sub hl [1, 2] rfl) hF
  exact lp8 ((2147483648 : Int) - (0)).toNat H1 locs ls (-1) 0 hB hR (lv_sub hl [2, 1, 0] rfl) (by rw [tk_m1, tk_0]; exact hF) (by decide) (by decide) (by decide) (by decide) z1_0 (by have w0 := tk_0; have w1 := tk_m1; omega)

theorem c_X5_readSum_d (d : Nat) : s_X5_readSum d := by
  induction d with
  | zero => exact c_X5_readSum_s 0 (c_X5_readPart_s 0 (fun d' h => absurd h (by omega)))
  | succ d ih => exact c_X5_readSum_s (d + 1) (c_X5_readPart_s (d + 1) (fun d' h => by cases h; exact ih))
theorem c_X5_readPart_d (d : Nat) : s_X5_readPart d := c_X5_readPart_s d (fun d' _ => c_X5_readSum_d d')

theorem c_X5_readPart (l : Launch) (G : th_G) (Γ : th_Ga) (H0 : Heap) (hI : th_I G Γ H0) (hR : th_RD G Γ H0) (hU : dv_U Γ) (a0 : Nat) (h0 : Γ a0 = (20, 0)) (nn3 : ∃ b : Nat, th_sl H0 a0 (G.1.2 5 3) = .ref b ∧ Γ b = (39, 0)) (bv : Int32) (mbv : th_sl H0 a0 (G.1.2 5 7) = .int bv) (hlo : 0 ≤ bv.toInt) : Met l yX5_readPart (.code yX5_readPart cX5_readPart 4 (none) :: th_tb) ({ frames := 22, cells := 0, slots := 0, locals := 768 } : Room) (th_P [.ref a0] G H0) (th_Q (fun (v : Option Value) (H1 : Heap) => v = none ∧ th_I G Γ H1 ∧ th_F G Γ [(20, 5), (20, 6), (20, 7), (20, 8), (40, 0), (39, 2)] H0 H1 ∧ th_RD G Γ H1 ∧ (th_sl H1 a0 (G.1.2 5 7) = .int bv) ∧ (f_X5_readPart 8 (dv G Γ H0) (a0 : Int) = (dv G Γ H1, 0))) G) 0 0 (fun q => G.2.2 ≤ q) := c_X5_readPart_d 8 l G Γ H0 hI hR hU a0 h0 nn3 bv mbv (by omega)

theorem c_X5_readSum (l : Launch) (G : th_G) (Γ : th_Ga) (H0 : Heap) (hI : th_I G Γ H0) (hR : th_RD G Γ H0) (hU : dv_U Γ) (a0 : Nat) (h0 : Γ a0 = (20, 0)) (nn3 : ∃ b : Nat, th_sl H0 a0 (G.1.2 5 3) = .ref b ∧ Γ b = (39, 0)) (bv : Int32) (mbv : th_sl H0 a0 (G.1.2 5 7) = .int bv) (hlo : 0 ≤ bv.toInt) : Met l yX5_readSum (.code yX5_readSum cX5_readSum 4 (none) :: th_tb) ({ frames := 23, cells := 0, slots := 0, locals := 791 } : Room) (th_P [.ref a0] G H0) (th_Q (fun (v : Option Value) (H1 : Heap) => v = none ∧ th_I G Γ H1 ∧ th_F G Γ [(20, 5), (20, 6), (20, 7), (20, 8), (40, 0), (39, 2)] H0 H1 ∧ th_RD G Γ H1 ∧ (th_sl H1 a0 (G.1.2 5 7) = .int bv) ∧ (f_X5_readSum 8 (dv G Γ H0) (a0 : Int) = (dv G Γ H1, 0))) G) 0 0 (fun q => G.2.2 ≤ q) := c_X5_readSum_d 8 l G Γ H0 hI hR hU a0 h0 nn3 bv mbv (by omega)
