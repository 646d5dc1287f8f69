def s_X5_readPlain (d : Nat) : Prop := ∀ (l : Launch) (G : th_G) (Γ : th_Ga) (H0 : Heap) (hI : th_I G Γ H0) (hR : th_RD G Γ H0) (hU : dv_U Γ) (a0 : Nat) (h0 : Γ a0 = (20, 0)) (nn3 : ∃ b : Nat, th_sl H0 a0 (G.1.2 5 3) = .ref b ∧ Γ b = (39, 0)) (bv : Int32) (mbv : th_sl H0 a0 (G.1.2 5 7) = .int bv) (nbv : 0 ≤ bv.toInt) (hdm : 8 ≤ bv.toInt + (d : Int)), Met l yX5_readPlain (.code yX5_readPlain cX5_readPlain 3 (none) :: th_tb) ({ frames := 26 + 2 * d, cells := 0, slots := 0, locals := 900 + d * 46 } : Room) (th_P [.ref a0] G H0) (th_Q (fun (v : Option Value) (H1 : Heap) => v = none ∧ th_I G Γ H1 ∧ th_F G Γ [(20, 5), (20, 6), (20, 7), (20, 8), (40, 0), (39, 2)] H0 H1 ∧ th_RD G Γ H1 ∧ (th_sl H1 a0 (G.1.2 5 7) = .int bv) ∧ (f_X5_readPlain d (dv G Γ H0) (a0 : Int) = (dv G Γ H1, 0))) G) 0 0 (fun q => G.2.2 ≤ q)

def s_X5_readTest (d : Nat) : Prop := ∀ (l : Launch) (G : th_G) (Γ : th_Ga) (H0 : Heap) (hI : th_I G Γ H0) (hR : th_RD G Γ H0) (hU : dv_U Γ) (a0 : Nat) (h0 : Γ a0 = (20, 0)) (nn3 : ∃ b : Nat, th_sl H0 a0 (G.1.2 5 3) = .ref b ∧ Γ b = (39, 0)) (bv : Int32) (mbv : th_sl H0 a0 (G.1.2 5 7) = .int bv) (nbv : 0 ≤ bv.toInt) (hdm : 8 ≤ bv.toInt + (d : Int)), Met l yX5_readTest (.code yX5_readTest cX5_readTest 5 (none) :: th_tb) ({ frames := 27 + 2 * d, cells := 0, slots := 0, locals := 922 + d * 46 } : Room) (th_P [.ref a0] G H0) (th_Q (fun (v : Option Value) (H1 : Heap) => v = none ∧ th_I G Γ H1 ∧ th_F G Γ [(20, 5), (20, 6), (20, 7), (20, 8), (40, 0), (39, 2)] H0 H1 ∧ th_RD G Γ H1 ∧ (th_sl H1 a0 (G.1.2 5 7) = .int bv) ∧ (f_X5_readTest d (dv G Γ H0) (a0 : Int) = (dv G Γ H1, 0))) G) 0 0 (fun q => G.2.2 ≤ q)

set_option maxHeartbeats 4000000 in
set_option maxRecDepth 100000 in
theorem c_X5_readPlain_s (d : Nat) (ihd : ∀ d', d = d' + 1 → s_X5_readTest d') : s_X5_readPlain d := by
  intro l G Γ H0 hI hR hU a0 h0 nn3 bv mbv nbv hdm
  refine th_met RX5 (by decide) rfl (Nat.le_of_ble_eq_true rfl) ?_
  intro p e s m below meth c hC hH hr hlocks hnm ls hl
  have hx := hC.1
  have hb := hC.2.1
  have hB : th_B G Γ Γ [(20, 5), (20, 6), (20, 7), (20, 8), (40, 0), (39, 2)] H0 H0 [] := ⟨hI, va_S.rf, th_F_rf⟩
  have hl : lv_has ls 3 [(0, .ref a0)] := hl
  have lbv := ti_lo bv; have ubv := ti_hi bv
  obtain ⟨bn3, mbn3, hbn3⟩ := nn3
  obtain ⟨F, hF0⟩ : ∃ F, F = f_X5_readPlain d (dv G Γ H0) ((a0 : Int)) := ⟨_, rfl⟩
  have hF := hF0.trans ((f_X5_readPlain_d d (dv G Γ H0) ((a0 : Int))).trans (f_X5_readPlain_B.eq_1 d (dv_pre (fun _ _ => dv_z) f_X5_readTest d) (dv G Γ H0) ((a0 : Int))))
  refine lv_iconst (v := 0) hx hb dX5_readPlain_0 (by decide) ?_
  refine lv_istore_n (lv' := [(1, .int 0), (0, .ref a0)]) hx hb dX5_readPlain_1 rfl hl (by decide) rfl (fun ls hl => ?_)
  refine lv_iconst (v := 0) hx hb dX5_readPlain_2 (by decide) ?_
  refine lv_istore_n (lv' := [(2, .int 0), (1, .int 0), (0, .ref a0)]) hx hb dX5_readPlain_3 rfl hl (by decide) rfl (fun ls hl => ?_)
  have lp4 : ∀ (n4 : Nat) (H4 : Heap) (locs : List Loc) (ls : Array Slot) (j4_1 : Int32) (j4_2 : Int32), th_B G Γ Γ [(20, 5), (20, 6), (20, 7), (20, 8), (40, 0), (39, 2)] H0 H4 locs → th_RD G Γ H4 → lv_has ls 3 [(0, .ref a0), (1, .int j4_1), (2, .int j4_2)] → F = dv_lp (f_X5_readPlain_4b d (dv_pre (fun _ _ => dv_z) f_X5_readTest d)) (dv G Γ H4, (a0 : Int), j4_1.toInt, j4_2.toInt) → 0 ≤ j4_1.toInt → j4_1.toInt ≤ 1 → 0 ≤ j4_2.toInt → j4_2.toInt ≤ 400 → th_sl H4 a0 (G.1.2 5 7) = .int bv → (2147483648 : Int) - j4_2.toInt ≤ (n4 : Int) → W p l e ({ frames := 26 + 2 * d, cells := 0, slots := 0, locals := 900 + d * 46 } : Room) s m ([.ref a0] : List Value).toArray below meth c H4 locs 0 0 (MQ below (th_Q (fun (v : Option Value) (H1 : Heap) => v = none ∧ th_I G Γ H1 ∧ th_F G Γ [(20, 5), (20, 6), (20, 7), (20, 8), (40, 0), (39, 2)] H0 H1 ∧ th_RD G Γ H1 ∧ (th_sl H1 a0 (G.1.2 5 7) = .int bv) ∧ (f_X5_readPlain d (dv G Γ H0) (a0 : Int) = (dv G Γ H1, 0))) G) ([.ref a0] : List Value).toArray s 0 0 (fun q => G.2.2 ≤ q)) (F0 m 4 ls []) := by
    intro n4
    induction n4 with
    | zero => intro H4 locs ls j4_1 j4_2 hB hR hl hF g4_0 g4_1 g4_2 g4_3 g4_4 hm4; exact absurd hm4 (by have := ti_hi j4_2; omega)
    | succ n4 ih4 =>
      intro H4 locs ls j4_1 j4_2 hB hR hl hF g4_0 g4_1 g4_2 g4_3 g4_4 hm4
      have lj4_1 := ti_lo j4_1; have uj4_1 := ti_hi j4_1
      have lj4_2 := ti_lo j4_2; have uj4_2 := ti_hi j4_2
      have mm1 := (th_F_o hB.2.2 h0 ro_20 (j := 3) (by decide) (by decide)).trans mbn3
      have hm4 : (2147483648 : Int) - j4_2.toInt ≤ (n4 : Int) + 1 := by omega
      replace hF := hF.trans (dv_lp_eq)
      replace hF := hF.trans (congrArg (dv_k (f_X5_readPlain_4b d (dv_pre (fun _ _ => dv_z) f_X5_readTest d))) (f_X5_readPlain_4c.eq_1 d (dv_pre (fun _ _ => dv_z) f_X5_readTest d) (dv G Γ H4) ((a0 : Int)) (j4_1.toInt) (j4_2.toInt)))
      refine lv_iload_n hx hb dX5_readPlain_4 rfl (lv_at hl 2 rfl) ?_
      refine lv_sipush (v := 400) hx hb dX5_readPlain_5 (by decide) ?_
      have jn37 : ∀ (H37 : Heap) (locs : List Loc) (ls : Array Slot) , th_B G Γ Γ [(20, 5), (20, 6), (20, 7), (20, 8), (40, 0), (39, 2)] H0 H37 locs → th_RD G Γ H37 → lv_has ls 3 [(0, .ref a0), (1, .int j4_1)] → F = dv_k (f_X5_readPlain_4b d (dv_pre (fun _ _ => dv_z) f_X5_readTest d)) (f_X5_readPlain_37 d (dv_pre (fun _ _ => dv_z) f_X5_readTest d) (dv G Γ H37) ((a0 : Int)) (j4_1.toInt)) → th_sl H37 a0 (G.1.2 5 7) = .int bv → W p l e ({ frames := 26 + 2 * d, cells := 0, slots := 0, locals := 900 + d * 46 } : Room) s m ([.ref a0] : List Value).toArray below meth c H37 locs 0 0 (MQ below (th_Q (fun (v : Option Value) (H1 : Heap) => v = none ∧ th_I G Γ H1 ∧ th_F G Γ [(20, 5), (20, 6), (20, 7), (20, 8), (40, 0), (39, 2)] H0 H1 ∧ th_RD G Γ H1 ∧ (th_sl H1 a0 (G.1.2 5 7) = .int bv) ∧ (f_X5_readPlain d (dv G Γ H0) (a0 : Int) = (dv G Γ H1, 0))) G) ([.ref a0] : List Value).toArray s 0 0 (fun q => G.2.2 ≤ q)) (F0 m 37 ls []) := by
        intro H37 locs ls hB hR hl hF g37_0
        have mm2 := (th_F_o hB.2.2 h0 ro_20 (j := 3) (by decide) (by decide)).trans mbn3
        replace hF := hF.trans (congrArg (dv_k (f_X5_readPlain_4b d (dv_pre (fun _ _ => dv_z) f_X5_readTest d))) (f_X5_readPlain_37.eq_1 d (dv_pre (fun _ _ => dv_z) f_X5_readTest d) (dv G Γ H37) ((a0 : Int)) (j4_1.toInt)))
        refine lv_aload_n hx hb dX5_readPlain_37 rfl (lv_at hl 0 rfl) ?_
        refine th_call (th_runV (As := []) (rest := []) hC mf_X5_seenToken km_X5_186 im_X5_seenToken se_X5_seenToken (c_X5_seenToken l G Γ H37 hB.1 hR hU a0 h0) rfl rfl ⟨by dsimp only; omega, by dsimp only; omega⟩ hB.1 h0 ro_20 rfl rfl hl.1 rfl (Nat.le_of_ble_eq_true rfl) dX5_readPlain_38 ⟨Nat.le_refl _, Nat.le_refl _⟩) hB.2.1 (fun v38 H38 locs hp hz hS => ?_)
        obtain ⟨x3, rfl, q38_0, q38_1, rfl⟩ := hp
        have hB := th_B_s hB hS
        replace hF := hF.trans (congrArg (dv_k (f_X5_readPlain_4b d (dv_pre (fun _ _ => dv_z) f_X5_readTest d))) (dv_bn2 (q38_1)))
        refine W.eq (g2 := F0 m 41 ls [.int x3]) rfl ?_
        refine lv_bipush (v := 40) hx hb dX5_readPlain_41 (by decide) ?_
        have jn156 : ∀ (H156 : Heap) (locs : List Loc) (ls : Array Slot) , th_B G Γ Γ [(20, 5), (20, 6), (20, 7), (20, 8), (40, 0), (39, 2)] H0 H156 locs → th_RD G Γ H156 → lv_has ls 3 [(0, .ref a0), (1, .int j4_1)] → F = dv_k (f_X5_readPlain_4b d (dv_pre (fun _ _ => dv_z) f_X5_readTest d)) (f_X5_readPlain_156 d (dv_pre (fun _ _ => dv_z) f_X5_readTest d) (dv G Γ H156) ((a0 : Int)) (j4_1.toInt)) → th_sl H156 a0 (G.1.2 5 7) = .int bv → W p l e ({ frames := 26 + 2 * d, cells := 0, slots := 0, locals := 900 + d * 46 } : Room) s m ([.ref a0] : List Value).toArray below meth c H156 locs 0 0 (MQ below (th_Q (fun (v : Option Value) (H1 : Heap) => v = none ∧ th_I G Γ H1 ∧ th_F G Γ [(20, 5), (20, 6), (20, 7), (20, 8), (40, 0), (39, 2)] H0 H1 ∧ th_RD G Γ H1 ∧ (th_sl H1 a0 (G.1.2 5 7) = .int bv) ∧ (f_X5_readPlain d (dv G Γ H0) (a0 : Int) = (dv G Γ H1, 0))) G) ([.ref a0] : List Value).toArray s 0 0 (fun q => G.2.2 ≤ q)) (F0 m 156 ls []) := by
          intro H156 locs ls hB hR hl hF g156_0
          have mm4 := (th_F_o hB.2.2 h0 ro_20 (j := 3) (by decide) (by decide)).trans mbn3
          replace hF := hF.trans (congrArg (dv_k (f_X5_readPlain_4b d (dv_pre (fun _ _ => dv_z) f_X5_readTest d))) (f_X5_readPlain_156.eq_1 d (dv_pre (fun _ _ => dv_z) f_X5_readTest d) (dv G Γ H156) ((a0 : Int)) (j4_1.toInt)))
          refine lv_iload_n hx hb dX5_readPlain_156 rfl (lv_at hl 1 rfl) ?_
          refine tr_if_eq (tgt := 170) hx hb dX5_readPlain_157 (by decide) (Eq.refl _) (fun c157 => ?_) (fun c157 => ?_)
          · replace hF := hF.trans (congrArg (dv_k (f_X5_readPlain_4b d (dv_pre (fun _ _ => dv_z) f_X5_readTest d))) (if_pos c157))
            replace hF := hF.trans (dv_kr)
            exact th_vret hC hH hr hlocks hB.2.1 ⟨rfl, hB.1, hB.2.2, hR, g156_0, (hF0.symm.trans hF)⟩ dX5_readPlain_170
          · replace hF := hF.trans (congrArg (dv_k (f_X5_readPlain_4b d (dv_pre (fun _ _ => dv_z) f_X5_readTest d))) (if_neg c157))
            refine lv_aload_n hx hb dX5_readPlain_160 rfl (lv_at hl 0 rfl) ?_
            refine th_getK hC cf_X5 hB.1 h0 ro_20 rfl (j := 3) (by decide) mm4 kf_X5_22 dX5_readPlain_161 ?_
            replace hF := hF.trans (congrArg (dv_k (f_X5_readPlain_4b d (dv_pre (fun _ _ => dv_z) f_X5_readTest d))) (dv_bn (dv_getR h0 ro_20 (j := 3) rfl mm4 (by decide))))
            refine lv_sipush (v := 3008) hx hb dX5_readPlain_164 (by decide) ?_
            refine th_call (th_runV (As := [.int 3008]) (rest := []) hC mf_X10_add km_X5_199 im_X10_add se_X10_add (c_X10_add l G Γ H156 hB.1 hR.1 hU bn3 hbn3 3008 (by decide)) rfl rfl ⟨by dsimp only; omega, by dsimp only; omega⟩ hB.1 hbn3 ro_39 rfl rfl hl.1 rfl (Nat.le_of_ble_eq_true rfl) dX5_readPlain_167 ⟨Nat.le_refl _, Nat.le_refl _⟩) hB.2.1 (fun v167 H167 locs hp hz hS => ?_)
            have hRD := hR
            obtain ⟨rfl, hI1, hf, hR, z167_0⟩ := hp
            have hR := th_RD_c hR hRD hf (by decide)
            have hB := th_B_c hB hI1 hS hf (by decide)
            have mm5 := (th_F_o hf h0 ro_20 (j := 7) (by decide) (by decide)).trans g156_0
            have mm6 := (th_F_o hf h0 ro_20 (j := 3) (by decide) (by decide)).trans mm4
            have zf167 := z167_0
            rw [tk_3008] at zf167
            replace hF := hF.trans (congrArg (dv_k (f_X5_readPlain_4b d (dv_pre (fun _ _ => dv_z) f_X5_readTest d))) (dv_bn2 (zf167)))
            refine W.eq (g2 := F0 m 170 ls []) rfl ?_
            replace hF := hF.trans (dv_kr)
            exact th_vret hC hH hr hlocks hB.2.1 ⟨rfl, hB.1, hB.2.2, hR, mm5, (hF0.symm.trans hF)⟩ dX5_readPlain_170
        refine tr_icmp_ne (tgt := 83) hx hb dX5_readPlain_43 (by decide) (Eq.refl _) tk_40 (fun c43 => ?_) (fun c43 => ?_)
        · replace hF := hF.trans (congrArg (dv_k (f_X5_readPlain_4b d (dv_pre (fun _ _ => dv_z) f_X5_readTest d))) (if_pos c43))
          refine lv_aload_n hx hb dX5_readPlain_83 rfl (lv_at hl 0 rfl) ?_
          refine th_call (th_runV (As := []) (rest := []) hC mf_X5_readSum km_X5_180 im_X5_readSum se_X5_readSum (c_X5_readSum l G Γ H37 hB.1 hR hU a0 h0 ⟨_, mm2, hbn3⟩ bv g37_0 (by omega)) rfl rfl ⟨by dsimp only; omega, by dsimp only; omega⟩ hB.1 h0 ro_20 rfl rfl hl.1 rfl (Nat.le_of_ble_eq_true rfl) dX5_readPlain_84 ⟨Nat.le_refl _, Nat.le_refl _⟩) hB.2.1 (fun v84 H84 locs hp hz hS => ?_)
          obtain ⟨rfl, hI1, hf, hR, z84_0, z84_1⟩ := hp
          have hB := th_B_c hB hI1 hS hf (by decide)
          have mm7 := (th_F_o hf h0 ro_20 (j := 3) (by decide) (by decide)).trans mm2
          replace hF := hF.trans (congrArg (dv_k (f_X5_readPlain_4b d (dv_pre (fun _ _ => dv_z) f_X5_readTest d))) (dv_bn2 (z84_1)))
          refine W.eq (g2 := F0 m 87 ls []) rfl ?_
          refine lv_aload_n hx hb dX5_readPlain_87 rfl (lv_at hl 0 rfl) ?_
          refine lv_bipush (v := 60) hx hb dX5_readPlain_88 (by decide) ?_
          refine th_call (th_runV (As := [.int 60]) (rest := []) hC mf_X5_take km_X5_54 im_X5_take se_X5_take (c_X5_take l G Γ H84 hB.1 hR hU a0 h0 60 (by decide)) rfl rfl ⟨by dsimp only; omega, by dsimp only; omega⟩ hB.1 h0 ro_20 rfl rfl hl.1 rfl (Nat.le_of_ble_eq_true rfl) dX5_readPlain_90 ⟨Nat.le_refl _, Nat.le_refl _⟩) hB.2.1 (fun v90 H90 locs hp hz hS => ?_)
          obtain ⟨x8, rfl, lx8, ux8, hI1, hf, hR, z90_0, z90_1⟩ := hp
          have hB := th_B_c hB hI1 hS hf (by decide)
          have mm9 := (th_F_o hf h0 ro_20 (j := 3) (by decide) (by decide)).trans mm7
          have mm10 := (th_F_o hf h0 ro_20 (j := 7) (by decide) (by decide)).trans z84_0
          have zf90 := z90_1
          rw [tk_60] at zf90
          replace hF := hF.trans (congrArg (dv_k (f_X5_readPlain_4b d (dv_pre (fun _ _ => dv_z) f_X5_readTest d))) (dv_bn2 (zf90)))
          refine W.eq (g2 := F0 m 93 ls [.int x8]) rfl ?_
          have jn133 : ∀ (H133 : Heap) (locs : List Loc) (ls : Array Slot) (s133_0 : Int32), th_B G Γ Γ [(20, 5), (20, 6), (20, 7), (20, 8), (40, 0), (39, 2)] H0 H133 locs → th_RD G Γ H133 → lv_has ls 3 [(0, .ref a0), (1, .int j4_1)] → F = dv_k (f_X5_readPlain_4b d (dv_pre (fun _ _ => dv_z) f_X5_readTest d)) (f_X5_readPlain_133 d (dv_pre (fun _ _ => dv_z) f_X5_readTest d) (dv G Γ H133) ((a0 : Int)) (j4_1.toInt) (s133_0.toInt)) → (-1) ≤ s133_0.toInt → s133_0.toInt ≤ 3007 → th_sl H133 a0 (G.1.2 5 7) = .int bv → W p l e ({ frames := 26 + 2 * d, cells := 0, slots := 0, locals := 900 + d * 46 } : Room) s m ([.ref a0] : List Value).toArray below meth c H133 locs 0 0 (MQ below (th_Q (fun (v : Option Value) (H1 : Heap) => v = none ∧ th_I G Γ H1 ∧ th_F G Γ [(20, 5), (20, 6), (20, 7), (20, 8), (40, 0), (39, 2)] H0 H1 ∧ th_RD G Γ H1 ∧ (th_sl H1 a0 (G.1.2 5 7) = .int bv) ∧ (f_X5_readPlain d (dv G Γ H0) (a0 : Int) = (dv G Γ H1, 0))) G) ([.ref a0] : List Value).toArray s 0 0 (fun q => G.2.2 ≤ q)) (F0 m 133 ls [.int s133_0]) := by
            intro H133 locs ls s133_0 hB hR hl hF g133_0 g133_1 g133_2
            have ls133_0 := ti_lo s133_0; have us133_0 := ti_hi s133_0
            have mm11 := (th_F_o hB.2.2 h0 ro_20 (j := 3) (by decide) (by decide)).trans mbn3
            replace hF := hF.trans (congrArg (dv_k (f_X5_readPlain_4b d (dv_pre (fun _ _ => dv_z) f_X5_readTest d))) (f_X5_readPlain_133.eq_1 d (dv_pre (fun _ _ => dv_z) f_X5_readTest d) (dv G Γ H133) ((a0 : Int)) (j4_1.toInt) (s133_0.toInt)))
            refine lv_istore_n (lv' := [(2, .int s133_0), (0, .ref a0), (1, .int j4_1)]) hx hb dX5_readPlain_133 rfl hl (by decide) rfl (fun ls hl => ?_)
            refine lv_iload_n hx hb dX5_readPlain_134 rfl (lv_at hl 0 rfl) ?_
            refine lv_iconst (v := (-1)) hx hb dX5_readPlain_135 (by decide) ?_
            refine tr_icmp_ne (tgt := 144) hx hb dX5_readPlain_136 (by decide) (Eq.refl _) tk_m1 (fun c136 => ?_) (fun c136 => ?_)
            · replace hF := hF.trans (congrArg (dv_k (f_X5_readPlain_4b d (dv_pre (fun _ _ => dv_z) f_X5_readTest d))) (if_pos c136))
              refine lv_aload_n hx hb dX5_readPlain_144 rfl (lv_at hl 1 rfl) ?_
              refine th_call (th_runV (As := []) (rest := []) hC mf_X5_readSum km_X5_180 im_X5_readSum se_X5_readSum (c_X5_readSum l G Γ H133 hB.1 hR hU a0 h0 ⟨_, mm11, hbn3⟩ bv g133_2 (by omega)) rfl rfl ⟨by dsimp only; omega, by dsimp only; omega⟩ hB.1 h0 ro_20 rfl rfl hl.1 rfl (Nat.le_of_ble_eq_true rfl) dX5_readPlain_145 ⟨Nat.le_refl _, Nat.le_refl _⟩) hB.2.1 (fun v145 H145 locs hp hz hS => ?_)
              obtain ⟨rfl, hI1, hf, hR, z145_0, z145_1⟩ := hp
              have hB := th_B_c hB hI1 hS hf (by decide)
              have mm12 := (th_F_o hf h0 ro_20 (j := 3) (by decide) (by decide)).trans mm11
              replace hF := hF.trans (congrArg (dv_k (f_X5_readPlain_4b d (dv_pre (fun _ _ => dv_z) f_X5_readTest d))) (dv_bn2 (z145_1)))
              refine W.eq (g2 := F0 m 148 ls []) rfl ?_
              refine lv_aload_n hx hb dX5_readPlain_148 rfl (lv_at hl 1 rfl) ?_
              refine th_getK hC cf_X5 hB.1 h0 ro_20 rfl (j := 3) (by decide) mm12 kf_X5_22 dX5_readPlain_149 ?_
              replace hF := hF.trans (congrArg (dv_k (f_X5_readPlain_4b d (dv_pre (fun _ _ => dv_z) f_X5_readTest d))) (dv_bn (dv_getR h0 ro_20 (j := 3) rfl mm12 (by decide))))
              refine lv_iload_n hx hb dX5_readPlain_152 rfl (lv_at hl 0 rfl) ?_
              refine th_call (th_runV (As := [.int s133_0]) (rest := []) hC mf_X10_add km_X5_199 im_X10_add se_X10_add (c_X10_add l G Γ H145 hB.1 hR.1 hU bn3 hbn3 s133_0 (by omega)) rfl rfl ⟨by dsimp only; omega, by dsimp only; omega⟩ hB.1 hbn3 ro_39 rfl rfl hl.1 rfl (Nat.le_of_ble_eq_true rfl) dX5_readPlain_153 ⟨Nat.le_refl _, Nat.le_refl _⟩) hB.2.1 (fun v153 H153 locs hp hz hS => ?_)
              have hRD := hR
              obtain ⟨rfl, hI1, hf, hR, z153_0⟩ := hp
              have hR := th_RD_c hR hRD hf (by decide)
              have hB := th_B_c hB hI1 hS hf (by decide)
              have mm13 := (th_F_o hf h0 ro_20 (j := 3) (by decide) (by decide)).trans mm12
              have mm14 := (th_F_o hf h0 ro_20 (j := 7) (by decide) (by decide)).trans z145_0
              replace hF := hF.trans (congrArg (dv_k (f_X5_readPlain_4b d (dv_pre (fun _ _ => dv_z) f_X5_readTest d))) (dv_bn2 (z153_0)))
              refine W.eq (g2 := F0 m 156 ls []) rfl ?_
              exact jn156 H153 locs ls hB hR (lv_sub hl [1, 2] rfl) hF mm14
            · replace hF := hF.trans (congrArg (dv_k (f_X5_readPlain_4b d (dv_pre (fun _ _ => dv_z) f_X5_readTest d))) (if_neg (not_not_intro c136)))
              refine lv_aload_n hx hb dX5_readPlain_139 rfl (lv_at hl 1 rfl) ?_
              refine th_call (th_runV (As := []) (rest := []) hC mf_X5_fail km_X5_58 im_X5_fail se_X5_fail (c_X5_fail l G Γ H133 hB.1 hR hU a0 h0) rfl rfl ⟨by dsimp only; omega, by dsimp only; omega⟩ hB.1 h0 ro_20 rfl rfl hl.1 rfl (Nat.le_of_ble_eq_true rfl) dX5_readPlain_140 ⟨Nat.le_refl _, Nat.le_refl _⟩) hB.2.1 (fun v140 H140 locs hp hz hS => ?_)
              obtain ⟨rfl, hI1, hf, hR, z140_0⟩ := hp
              have hB := th_B_c hB hI1 hS hf (by decide)
              have mm15 := (th_F_o hf h0 ro_20 (j := 7) (by decide) (by decide)).trans g133_2
              have mm16 := (th_F_o hf h0 ro_20 (j := 3) (by decide) (by decide)).trans mm11
              replace hF := hF.trans (congrArg (dv_k (f_X5_readPlain_4b d (dv_pre (fun _ _ => dv_z) f_X5_readTest d))) (dv_bn2 (z140_0)))
              refine W.eq (g2 := F0 m 143 ls []) rfl ?_
              replace hF := hF.trans (dv_kr)
              exact th_vret hC hH hr hlocks hB.2.1 ⟨rfl, hB.1, hB.2.2, hR, mm15, (hF0.symm.trans hF)⟩ dX5_readPlain_143
          refine tr_if_eq (tgt := 102) hx hb dX5_readPlain_93 (by decide) (Eq.refl _) (fun c93 => ?_) (fun c93 => ?_)
          · replace hF := hF.trans (congrArg (dv_k (f_X5_readPlain_4b d (dv_pre (fun _ _ => dv_z) f_X5_readTest d))) (if_pos c93))
            refine lv_aload_n hx hb dX5_readPlain_102 rfl (lv_at hl 0 rfl) ?_
            refine lv_bipush (v := 62) hx hb dX5_readPlain_103 (by decide) ?_
            refine th_call (th_runV (As := [.int 62]) (rest := []) hC mf_X5_take km_X5_54 im_X5_take se_X5_take (c_X5_take l G Γ H90 hB.1 hR hU a0 h0 62 (by decide)) rfl rfl ⟨by dsimp only; omega, by dsimp only; omega⟩ hB.1 h0 ro_20 rfl rfl hl.1 rfl (Nat.le_of_ble_eq_true rfl) dX5_readPlain_105 ⟨Nat.le_refl _, Nat.le_refl _⟩) hB.2.1 (fun v105 H105 locs hp hz hS => ?_)
            obtain ⟨x17, rfl, lx17, ux17, hI1, hf, hR, z105_0, z105_1⟩ := hp
            have hB := th_B_c hB hI1 hS hf (by decide)
            have mm18 := (th_F_o hf h0 ro_20 (j := 3) (by decide) (by decide)).trans mm9
            have mm19 := (th_F_o hf h0 ro_20 (j := 7) (by decide) (by decide)).trans mm10
            have zf105 := z105_1
            rw [tk_62] at zf105
            replace hF := hF.trans (congrArg (dv_k (f_X5_readPlain_4b d (dv_pre (fun _ _ => dv_z) f_X5_readTest d))) (dv_bn2 (zf105)))
            refine W.eq (g2 := F0 m 108 ls [.int x17]) rfl ?_
            refine tr_if_eq (tgt := 117) hx hb dX5_readPlain_108 (by decide) (Eq.refl _) (fun c108 => ?_) (fun c108 => ?_)
            · replace hF := hF.trans (congrArg (dv_k (f_X5_readPlain_4b d (dv_pre (fun _ _ => dv_z) f_X5_readTest d))) (if_pos c108))
              refine lv_aload_n hx hb dX5_readPlain_117 rfl (lv_at hl 0 rfl) ?_
              refine lv_bipush (v := 61) hx hb dX5_readPlain_118 (by decide) ?_
              refine th_call (th_runV (As := [.int 61]) (rest := []) hC mf_X5_take km_X5_54 im_X5_take se_X5_take (c_X5_take l G Γ H105 hB.1 hR hU a0 h0 61 (by decide)) rfl rfl ⟨by dsimp only; omega, by dsimp only; omega⟩ hB.1 h0 ro_20 rfl rfl hl.1 rfl (Nat.le_of_ble_eq_true rfl) dX5_readPlain_120 ⟨Nat.le_refl _, Nat.le_refl _⟩) hB.2.1 (fun v120 H120 locs hp hz hS => ?_)
              obtain ⟨x20, rfl, lx20, ux20, hI1, hf, hR, z120_0, z120_1⟩ := hp
              have hB := th_B_c hB hI1 hS hf (by decide)
              have mm21 := (th_F_o hf h0 ro_20 (j := 3) (by decide) (by decide)).trans mm18
              have mm22 := (th_F_o hf h0 ro_20 (j := 7) (by decide) (by decide)).trans mm19
              have zf120 := z120_1
              rw [tk_61] at zf120
              replace hF := hF.trans (congrArg (dv_k (f_X5_readPlain_4b d (dv_pre (fun _ _ => dv_z) f_X5_readTest d))) (dv_bn2 (zf120)))
              refine W.eq (g2 := F0 m 123 ls [.int x20]) rfl ?_
              refine tr_if_eq (tgt := 132) hx hb dX5_readPlain_123 (by decide) (Eq.refl _) (fun c123 => ?_) (fun c123 => ?_)
              · replace hF := hF.trans (congrArg (dv_k (f_X5_readPlain_4b d (dv_pre (fun _ _ => dv_z) f_X5_readTest d))) (if_pos c123))
                refine lv_iconst (v := (-1)) hx hb dX5_readPlain_132 (by decide) ?_
                exact jn133 H120 locs ls (-1) hB hR (lv_sub hl [0, 1] rfl) (by rw [tk_m1]; exact hF) (by decide) (by decide) mm22
              · replace hF := hF.trans (congrArg (dv_k (f_X5_readPlain_4b d (dv_pre (fun _ _ => dv_z) f_X5_readTest d))) (if_neg c123))
                refine lv_sipush (v := 3007) hx hb dX5_readPlain_126 (by decide) ?_
                refine lv_goto (tgt := 133) hx hb dX5_readPlain_129 (by decide) ?_
                exact jn133 H120 locs ls 3007 hB hR (lv_sub hl [0, 1] rfl) (by rw [tk_3007]; exact hF) (by decide) (by decide) mm22
            · replace hF := hF.trans (congrArg (dv_k (f_X5_readPlain_4b d (dv_pre (fun _ _ => dv_z) f_X5_readTest d))) (if_neg c108))
              refine lv_sipush (v := 3006) hx hb dX5_readPlain_111 (by decide) ?_
              refine lv_goto (tgt := 133) hx hb dX5_readPlain_114 (by decide) ?_
              exact jn133 H105 locs ls 3006 hB hR (lv_sub hl [0, 1] rfl) (by rw [tk_3006]; exact hF) (by decide) (by decide) mm19
          · replace hF := hF.trans (congrArg (dv_k (f_X5_readPlain_4b d (dv_pre (fun _ _ => dv_z) f_X5_readTest d))) (if_neg c93))
            refine lv_sipush (v := 3005) hx hb dX5_readPlain_96 (by decide) ?_
            refine lv_goto (tgt := 133) hx hb dX5_readPlain_99 (by decide) ?_
            exact jn133 H90 locs ls 3005 hB hR (lv_sub hl [0, 1] rfl) (by rw [tk_3005]; exact hF) (by decide) (by decide) mm10
        · replace hF := hF.trans (congrArg (dv_k (f_X5_readPlain_4b d (dv_pre (fun _ _ => dv_z) f_X5_readTest d))) (if_neg (not_not_intro c43)))
          refine lv_aload_n hx hb dX5_readPlain_46 rfl (lv_at hl 0 rfl) ?_
          have tk0 := q38_0 (by omega)
          refine th_call (th_runV (As := []) (rest := []) hC mf_X5_openBracket km_X5_195 im_X5_openBracket se_X5_openBracket (c_X5_openBracket l G Γ H37 hB.1 hR hU a0 h0 tk0 bv g37_0) rfl rfl ⟨by dsimp only; omega, by dsimp only; omega⟩ hB.1 h0 ro_20 rfl rfl hl.1 rfl (Nat.le_of_ble_eq_true rfl) dX5_readPlain_47 ⟨Nat.le_refl _, Nat.le_refl _⟩) hB.2.1 (fun v47 H47 locs hp hz hS => ?_)
          obtain ⟨x23, rfl, lx23, ux23, hI1, hf, hR, z47_0, z47_1, z47_2⟩ := hp
          have hB := th_B_c hB hI1 hS hf (by decide)
          have mm24 := (th_F_o hf h0 ro_20 (j := 3) (by decide) (by decide)).trans mm2
          replace hF := hF.trans (congrArg (dv_k (f_X5_readPlain_4b d (dv_pre (fun _ _ => dv_z) f_X5_readTest d))) (dv_bn2 (z47_2)))
          refine W.eq (g2 := F0 m 50 ls [.int x23]) rfl ?_
          refine tr_if_eq (tgt := 67) hx hb dX5_readPlain_50 (by decide) (Eq.refl _) (fun c50 => ?_) (fun c50 => ?_)
          · replace hF := hF.trans (congrArg (dv_k (f_X5_readPlain_4b d (dv_pre (fun _ _ => dv_z) f_X5_readTest d))) (if_pos c50))
            refine lv_aload_n hx hb dX5_readPlain_67 rfl (lv_at hl 0 rfl) ?_
            have mb2x : th_sl H47 a0 (G.1.2 5 7) = .int bv := by rw [z47_1 (by omega)]; exact g37_0
            refine lv_bipush (v := 41) hx hb dX5_readPlain_68 (by decide) ?_
            refine th_call (th_runV (As := [.int 41]) (rest := []) hC mf_X5_take km_X5_54 im_X5_take se_X5_take (c_X5_take l G Γ H47 hB.1 hR hU a0 h0 41 (by decide)) rfl rfl ⟨by dsimp only; omega, by dsimp only; omega⟩ hB.1 h0 ro_20 rfl rfl hl.1 rfl (Nat.le_of_ble_eq_true rfl) dX5_readPlain_70 ⟨Nat.le_refl _, Nat.le_refl _⟩) hB.2.1 (fun v70 H70 locs hp hz hS => ?_)
            obtain ⟨x25, rfl, lx25, ux25, hI1, hf, hR, z70_0, z70_1⟩ := hp
            have hB := th_B_c hB hI1 hS hf (by decide)
            have mm26 := (th_F_o hf h0 ro_20 (j := 3) (by decide) (by decide)).trans mm24
            have mm27 := (th_F_o hf h0 ro_20 (j := 7) (by decide) (by decide)).trans mb2x
            have zf70 := z70_1
            rw [tk_41] at zf70
            replace hF := hF.trans (congrArg (dv_k (f_X5_readPlain_4b d (dv_pre (fun _ _ => dv_z) f_X5_readTest d))) (dv_bn2 (zf70)))
            refine W.eq (g2 := F0 m 73 ls [.int x25]) rfl ?_
            refine tr_if_ne (tgt := 156) hx hb dX5_readPlain_73 (by decide) (Eq.refl _) (fun c73 => ?_) (fun c73 => ?_)
            · replace hF := hF.trans (congrArg (dv_k (f_X5_readPlain_4b d (dv_pre (fun _ _ => dv_z) f_X5_readTest d))) (if_pos c73))
              exact jn156 H70 locs ls hB hR (lv_sub hl [0, 1] rfl) hF mm27
            · replace hF := hF.trans (congrArg (dv_k (f_X5_readPlain_4b d (dv_pre (fun _ _ => dv_z) f_X5_readTest d))) (if_neg (not_not_intro c73)))
              refine lv_aload_n hx hb dX5_readPlain_76 rfl (lv_at hl 0 rfl) ?_
              refine th_call (th_runV (As := []) (rest := []) hC mf_X5_fail km_X5_58 im_X5_fail se_X5_fail (c_X5_fail l G Γ H70 hB.1 hR hU a0 h0) rfl rfl ⟨by dsimp only; omega, by dsimp only; omega⟩ hB.1 h0 ro_20 rfl rfl hl.1 rfl (Nat.le_of_ble_eq_true rfl) dX5_readPlain_77 ⟨Nat.le_refl _, Nat.le_refl _⟩) hB.2.1 (fun v77 H77 locs hp hz hS => ?_)
              obtain ⟨rfl, hI1, hf, hR, z77_0⟩ := hp
              have hB := th_B_c hB hI1 hS hf (by decide)
              have mm28 := (th_F_o hf h0 ro_20 (j := 3) (by decide) (by decide)).trans mm26
              have mm29 := (th_F_o hf h0 ro_20 (j := 7) (by decide) (by decide)).trans mm27
              replace hF := hF.trans (congrArg (dv_k (f_X5_readPlain_4b d (dv_pre (fun _ _ => dv_z) f_X5_readTest d))) (dv_bn2 (z77_0)))
              refine W.eq (g2 := F0 m 80 ls []) rfl ?_
              refine lv_goto (tgt := 156) hx hb dX5_readPlain_80 (by decide) ?_
              exact jn156 H77 locs ls hB hR (lv_sub hl [0, 1] rfl) hF mm29
          · replace hF := hF.trans (congrArg (dv_k (f_X5_readPlain_4b d (dv_pre (fun _ _ => dv_z) f_X5_readTest d))) (if_neg c50))
            refine lv_aload_n hx hb dX5_readPlain_53 rfl (lv_at hl 0 rfl) ?_
            obtain ⟨ob1, b1x, mb1x, eb1⟩ := z47_0 (by omega)
            have lb1x := ti_lo b1x; have ub1x := ti_hi b1x
            obtain ⟨d', hd'⟩ : ∃ d', d = d' + 1 := ⟨d - 1, by omega⟩
            refine th_call (th_runV (As := []) (rest := []) hC mf_X5_readTest km_X5_177 im_X5_readTest se_X5_readTest (ihd d' hd' l G Γ H47 hB.1 hR hU a0 h0 ⟨_, mm24, hbn3⟩ b1x mb1x (by omega) (by omega)) rfl rfl ⟨by dsimp only; omega, by dsimp only; omega⟩ hB.1 h0 ro_20 rfl rfl hl.1 rfl (Nat.le_of_ble_eq_true rfl) dX5_readPlain_54 ⟨Nat.le_refl _, Nat.le_refl _⟩) hB.2.1 (fun v54 H54 locs hp hz hS => ?_)
            obtain ⟨rfl, hI1, hf, hR, z54_0, z54_1⟩ := hp
            have hB := th_B_c hB hI1 hS hf (by decide)
            have mm30 := (th_F_o hf h0 ro_20 (j := 3) (by decide) (by decide)).trans mm24
            have zf54 := z54_1
            rw [← dv_pre_s (z := (fun _ _ => dv_z)) (f := f_X5_readTest) hd'] at zf54
            replace hF := hF.trans (congrArg (dv_k (f_X5_readPlain_4b d (dv_pre (fun _ _ => dv_z) f_X5_readTest d))) (dv_bn2 (zf54)))
            refine W.eq (g2 := F0 m 57 ls []) rfl ?_
            refine lv_aload_n hx hb dX5_readPlain_57 rfl (lv_at hl 0 rfl) ?_
            refine lv_dup hx hb dX5_readPlain_58 rfl ?_
            refine th_getK hC cf_X5 hB.1 h0 ro_20 rfl (j := 7) (by decide) z54_0 kf_X5_37 dX5_readPlain_59 ?_
            replace hF := hF.trans (congrArg (dv_k (f_X5_readPlain_4b d (dv_pre (fun _ _ => dv_z) f_X5_readTest d))) (dv_bn (dv_getI h0 ro_20 (j := 7) rfl z54_0 (by decide))))
            refine lv_iconst (v := 1) hx hb dX5_readPlain_62 (by decide) ?_
            refine tr_isub hx hb dX5_readPlain_63 (Eq.refl _) tk_1 (by omega) (by omega) (fun x31 ex31 => ?_)
            replace hF := hF.trans (congrArg (dv_k (f_X5_readPlain_4b d (dv_pre (fun _ _ => dv_z) f_X5_readTest d))) (dv_bn (ex31.symm)))
            refine th_put hC cf_X5 hB h0 (Or.inl h0) ro_20 rfl (j := 7) rfl th_sIa (by decide) rfl rfl rfl kf_X5_37 dX5_readPlain_64 (fun H64 locs hB hf hst64 => ?_)
            have mm32 := (th_F_o hf h0 ro_20 (j := 3) (by decide) (by decide)).trans mm30
            have hR := th_RD_F hB.1 hR hf (th_T_s h0 ro_20 hst64) (by decide)
            replace hF := hF.trans (congrArg (dv_k (f_X5_readPlain_4b d (dv_pre (fun _ _ => dv_z) f_X5_readTest d))) (dv_bn (dv_putI hB.1 h0 ro_20 (j := 7) rfl (th_apart hC cf_X5) hst64 (Eq.refl _) (by decide))))
            have mm33 := hst64.2.1
            have e29 : x31 = bv := Int32.toInt_inj.mp (by omega)
            have mb3x : th_sl H64 a0 (G.1.2 5 7) = .int bv := by rw [← e29]; exact mm33
            refine lv_aload_n hx hb dX5_readPlain_67 rfl (lv_at hl 0 rfl) ?_
            refine lv_bipush (v := 41) hx hb dX5_readPlain_68 (by decide) ?_
            refine th_call (th_runV (As := [.int 41]) (rest := []) hC mf_X5_take km_X5_54 im_X5_take se_X5_take (c_X5_take l G Γ H64 hB.1 hR hU a0 h0 41 (by decide)) rfl rfl ⟨by dsimp only; omega, by dsimp only; omega⟩ hB.1 h0 ro_20 rfl rfl hl.1 rfl (Nat.le_of_ble_eq_true rfl) dX5_readPlain_70 ⟨Nat.le_refl _, Nat.le_refl _⟩) hB.2.1 (fun v70 H70 locs hp hz hS => ?_)
            obtain ⟨x34, rfl, lx34, ux34, hI1, hf, hR, z70_0, z70_1⟩ := hp
            have hB := th_B_c hB hI1 hS hf (by decide)
            have mm35 := (th_F_o hf h0 ro_20 (j := 3) (by decide) (by decide)).trans mm32
            have mm36 := (th_F_o hf h0 ro_20 (j := 7) (by decide) (by decide)).trans mb3x
            have zf70 := z70_1
            rw [tk_41] at zf70
            replace hF := hF.trans (congrArg (dv_k (f_X5_readPlain_4b d (dv_pre (fun _ _ => dv_z) f_X5_readTest d))) (dv_bn2 (zf70)))
            refine W.eq (g2 := F0 m 73 ls [.int x34]) rfl ?_
            refine tr_if_ne (tgt := 156) hx hb dX5_readPlain_73 (by decide) (Eq.refl _) (fun c73 => ?_) (fun c73 => ?_)
            · replace hF := hF.trans (congrArg (dv_k (f_X5_readPlain_4b d (dv_pre (fun _ _ => dv_z) f_X5_readTest d))) (if_pos c73))
              exact jn156 H70 locs ls hB hR (lv_sub hl [0, 1] rfl) hF mm36
            · replace hF := hF.trans (congrArg (dv_k (f_X5_readPlain_4b d (dv_pre (fun _ _ => dv_z) f_X5_readTest d))) (if_neg (not_not_intro c73)))
              refine lv_aload_n hx hb dX5_readPlain_76 rfl (lv_at hl 0 rfl) ?_
              refine th_call (th_runV (As := []) (rest := []) hC mf_X5_fail km_X5_58 im_X5_fail se_X5_fail (c_X5_fail l G Γ H70 hB.1 hR hU a0 h0) rfl rfl ⟨by dsimp only; omega, by dsimp only; omega⟩ hB.1 h0 ro_20 rfl rfl hl.1 rfl (Nat.le_of_ble_eq_true rfl) dX5_readPlain_77 ⟨Nat.le_refl _, Nat.le_refl _⟩) hB.2.1 (fun v77 H77 locs hp hz hS => ?_)
              obtain ⟨rfl, hI1, hf, hR, z77_0⟩ := hp
              have hB := th_B_c hB hI1 hS hf (by decide)
              have mm37 := (th_F_o hf h0 ro_20 (j := 3) (by decide) (by decide)).trans mm35
              have mm38 := (th_F_o hf h0 ro_20 (j := 7) (by decide) (by decide)).trans mm36
              replace hF := hF.trans (congrArg (dv_k (f_X5_readPlain_4b d (dv_pre (fun _ _ => dv_z) f_X5_readTest d))) (dv_bn2 (z77_0)))
              refine W.eq (g2 := F0 m 80 ls []) rfl ?_
              refine lv_goto (tgt := 156) hx hb dX5_readPlain_80 (by decide) ?_
              exact jn156 H77 locs ls hB hR (lv_sub hl [0, 1] rfl) hF mm38
      refine tr_icmp_ge (tgt := 37) hx hb dX5_readPlain_8 (by decide) (Eq.refl _) tk_400 (fun c8 => ?_) (fun c8 => ?_)
      · replace hF := hF.trans (congrArg (dv_k (f_X5_readPlain_4b d (dv_pre (fun _ _ => dv_z) f_X5_readTest d))) (if_pos c8))
        exact jn37 H4 locs ls hB hR (lv_sub hl [0, 1] rfl) hF g4_4
      · replace hF := hF.trans (congrArg (dv_k (f_X5_readPlain_4b d (dv_pre (fun _ _ => dv_z) f_X5_readTest d))) (if_neg (Int.not_le.mpr c8)))
        refine lv_aload_n hx hb dX5_readPlain_11 rfl (lv_at hl 0 rfl) ?_
        refine lv_sipush (v := 314) hx hb dX5_readPlain_12 (by decide) ?_
        refine th_call (th_runV (As := [.int 314]) (rest := []) hC mf_X5_take km_X5_54 im_X5_take se_X5_take (c_X5_take l G Γ H4 hB.1 hR hU a0 h0 314 (by decide)) rfl rfl ⟨by dsimp only; omega, by dsimp only; omega⟩ hB.1 h0 ro_20 rfl rfl hl.1 rfl (Nat.le_of_ble_eq_true rfl) dX5_readPlain_15 ⟨Nat.le_refl _, Nat.le_refl _⟩) hB.2.1 (fun v15 H15 locs hp hz hS => ?_)
        obtain ⟨x39, rfl, lx39, ux39, hI1, hf, hR, z15_0, z15_1⟩ := hp
        have hB := th_B_c hB hI1 hS hf (by decide)
        have mm40 := (th_F_o hf h0 ro_20 (j := 7) (by decide) (by decide)).trans g4_4
        have mm41 := (th_F_o hf h0 ro_20 (j := 3) (by decide) (by decide)).trans mm1
        have zf15 := z15_1
        rw [tk_314] at zf15
        replace hF := hF.trans (congrArg (dv_k (f_X5_readPlain_4b d (dv_pre (fun _ _ => dv_z) f_X5_readTest d))) (dv_bn2 (zf15)))
        refine W.eq (g2 := F0 m 18 ls [.int x39]) rfl ?_
        refine tr_if_eq (tgt := 37) hx hb dX5_readPlain_18 (by decide) (Eq.refl _) (fun c18 => ?_) (fun c18 => ?_)
        · replace hF := hF.trans (congrArg (dv_k (f_X5_readPlain_4b d (dv_pre (fun _ _ => dv_z) f_X5_readTest d))) (if_pos c18))
          exact jn37 H15 locs ls hB hR (lv_sub hl [0, 1] rfl) hF mm40
        · replace hF := hF.trans (congrArg (dv_k (f_X5_readPlain_4b d (dv_pre (fun _ _ => dv_z) f_X5_readTest d))) (if_neg c18))
          refine lv_iload_n hx hb dX5_readPlain_21 rfl (lv_at hl 1 rfl) ?_
          have jn30 : ∀ (locs : List Loc) (ls : Array Slot) (s30_0 : Int32), th_B G Γ Γ [(20, 5), (20, 6), (20, 7), (20, 8), (40, 0), (39, 2)] H0 H15 locs → lv_has ls 3 [(0, .ref a0), (2, .int j4_2)] → F = dv_k (f_X5_readPlain_4b d (dv_pre (fun _ _ => dv_z) f_X5_readTest d)) (f_X5_readPlain_30 d (dv_pre (fun _ _ => dv_z) f_X5_readTest d) (dv G Γ H15) ((a0 : Int)) (j4_2.toInt) (s30_0.toInt)) → 0 ≤ s30_0.toInt → s30_0.toInt ≤ 1 → W p l e ({ frames := 26 + 2 * d, cells := 0, slots := 0, locals := 900 + d * 46 } : Room) s m ([.ref a0] : List Value).toArray below meth c H15 locs 0 0 (MQ below (th_Q (fun (v : Option Value) (H1 : Heap) => v = none ∧ th_I G Γ H1 ∧ th_F G Γ [(20, 5), (20, 6), (20, 7), (20, 8), (40, 0), (39, 2)] H0 H1 ∧ th_RD G Γ H1 ∧ (th_sl H1 a0 (G.1.2 5 7) = .int bv) ∧ (f_X5_readPlain d (dv G Γ H0) (a0 : Int) = (dv G Γ H1, 0))) G) ([.ref a0] : List Value).toArray s 0 0 (fun q => G.2.2 ≤ q)) (F0 m 30 ls [.int s30_0]) := by
            intro locs ls s30_0 hB hl hF g30_0 g30_1
            have ls30_0 := ti_lo s30_0; have us30_0 := ti_hi s30_0
            replace hF := hF.trans (congrArg (dv_k (f_X5_readPlain_4b d (dv_pre (fun _ _ => dv_z) f_X5_readTest d))) (f_X5_readPlain_30.eq_1 d (dv_pre (fun _ _ => dv_z) f_X5_readTest d) (dv G Γ H15) ((a0 : Int)) (j4_2.toInt) (s30_0.toInt)))
            refine lv_istore_n (lv' := [(1, .int s30_0), (0, .ref a0), (2, .int j4_2)]) hx hb dX5_readPlain_30 rfl hl (by decide) rfl (fun ls hl => ?_)
            refine tr_iinc (fun x42 => [(2, .int x42), (1, .int s30_0), (0, .ref a0)]) hx hb dX5_readPlain_31 hl (k := 2) rfl (Eq.refl _) tk_1 (by omega) (by omega) (by decide) (fun _ => rfl) (fun x42 ls ex42 hl => ?_)
            replace hF := hF.trans (congrArg (dv_k (f_X5_readPlain_4b d (dv_pre (fun _ _ => dv_z) f_X5_readTest d))) (dv_bn (ex42.symm)))
            refine lv_goto (tgt := 4) hx hb dX5_readPlain_34 (by decide) ?_
            replace hF := hF.trans (dv_kl)
            exact ih4 H15 locs ls s30_0 x42 hB hR (lv_sub hl [2, 1, 0] rfl) hF (by omega) (by omega) (by omega) (by omega) mm40 (by omega)
          refine tr_if_ne (tgt := 29) hx hb dX5_readPlain_22 (by decide) (Eq.refl _) (fun c22 => ?_) (fun c22 => ?_)
          · replace hF := hF.trans (congrArg (dv_k (f_X5_readPlain_4b d (dv_pre (fun _ _ => dv_z) f_X5_readTest d))) (if_pos c22))
            refine lv_iconst (v := 0) hx hb dX5_readPlain_29 (by decide) ?_
            exact jn30 locs ls 0 hB (lv_sub hl [0, 2] rfl) (by rw [tk_0]; exact hF) (by decide) (by decide)
          · replace hF := hF.trans (congrArg (dv_k (f_X5_readPlain_4b d (dv_pre (fun _ _ => dv_z) f_X5_readTest d))) (if_neg (not_not_intro c22)))
            refine lv_iconst (v := 1) hx hb dX5_readPlain_25 (by decide) ?_
            refine lv_goto (tgt := 30) hx hb dX5_readPlain_26 (by decide) ?_
            exact jn30 locs ls 1 hB (lv_sub hl [0, 2] rfl) (by rw [tk_1]; exact hF) (by decide) (by decide)
  exact lp4 ((2147483648 : Int) - (0)).toNat H0 [] ls 0 0 hB hR (lv_sub hl [2, 1, 0] rfl) (by rw [tk_0]; exact hF) (by decide) (by decide) (by decide) (by decide) mbv (by have w0 := tk_0; omega)

set_option maxHeartbeats 4000000 in
set_option maxRecDepth 100000 in
theorem c_X5_readTest_s (d : Nat) (ihp : s_X5_readPlain d) : s_X5_readTest d := by
  intro l G Γ H0 hI hR hU a0 h0 nn3 bv mbv nbv hdm
  refine th_met RX5 (by decide) rfl (Nat.le_of_ble_eq_true rfl) ?_
  intro p e s m below meth c hC hH hr hlocks hnm ls hl
  have hx := hC.1
  have hb := hC.2.1
  have hB : th_B G Γ Γ [(20, 5), (20, 6), (20, 7), (20, 8), (40, 0), (39, 2)] H0 H0 [] := ⟨hI, va_S.rf, th_F_rf⟩
  have hl : lv_has ls 5 [(0, .ref a0)] := hl
  have lbv := ti_lo bv; have ubv := ti_hi bv
  obtain ⟨bn3, mbn3, hbn3⟩ := nn3
  obtain ⟨F, hF0⟩ : ∃ F, F = f_X5_readTest d (dv G Γ H0) ((a0 : Int)) := ⟨_, rfl⟩
  have hF := hF0.trans ((f_X5_readTest_d d (dv G Γ H0) ((a0 : Int))).trans (f_X5_readTest_B.eq_1 d (f_X5_readPlain d) (dv G Γ H0) ((a0 : Int))))
  refine lv_aload_n hx hb dX5_readTest_0 rfl (lv_at hl 0 rfl) ?_
  refine th_call (th_runV (As := []) (rest := []) hC mf_X5_readPlain km_X5_183 im_X5_readPlain se_X5_readPlain (ihp l G Γ H0 hB.1 hR hU a0 h0 ⟨_, mbn3, hbn3⟩ bv mbv (by omega) (by omega)) rfl rfl ⟨by dsimp only; omega, by dsimp only; omega⟩ hB.1 h0 ro_20 rfl rfl hl.1 rfl (Nat.le_of_ble_eq_true rfl) dX5_readTest_1 ⟨Nat.le_refl _, Nat.le_refl _⟩) hB.2.1 (fun v1 H1 locs hp hz hS => ?_)
  obtain ⟨rfl, hI1, hf, hR, z1_0, z1_1⟩ := hp
  have hB := th_B_c hB hI1 hS hf (by decide)
  have mm1 := (th_F_o hf h0 ro_20 (j := 3) (by decide) (by decide)).trans mbn3
  replace hF := hF.trans (dv_bn2 (z1_1))
  refine W.eq (g2 := F0 m 4 ls []) rfl ?_
  refine lv_iconst (v := (-1)) hx hb dX5_readTest_4 (by decide) ?_
  refine lv_istore_n (lv' := [(1, .int (-1)), (0, .ref a0)]) hx hb dX5_readTest_5 rfl hl (by decide) rfl (fun ls hl => ?_)
  refine lv_iconst (v := 0) hx hb dX5_readTest_6 (by decide) ?_
  refine lv_istore_n (lv' := [(2, .int 0), (1, .int (-1)), (0, .ref a0)]) hx hb dX5_readTest_7 rfl hl (by decide) rfl (fun ls hl => ?_)
  have lp8 : ∀ (n8 : Nat) (H8 : Heap) (locs : List Loc) (ls : Array Slot) (j8_1 : Int32) (j8_2 : Int32), th_B G Γ Γ [(20, 5), (20, 6), (20, 7), (20, 8), (40, 0), (39, 2)] H0 H8 locs → th_RD G Γ H8 → lv_has ls 5 [(0, .ref a0), (1, .int j8_1), (2, .int j8_2)] → F = dv_lp (f_X5_readTest_8b d (f_X5_readPlain d)) (dv G Γ H8, (a0 : Int), j8_1.toInt, j8_2.toInt) → (-1) ≤ j8_1.toInt → j8_1.toInt ≤ 399 → 0 ≤ j8_2.toInt → j8_2.toInt ≤ 400 → th_sl H8 a0 (G.1.2 5 7) = .int bv → (2147483648 : Int) - j8_2.toInt ≤ (n8 : Int) → W p l e ({ frames := 27 + 2 * d, cells := 0, slots := 0, locals := 922 + d * 46 } : Room) s m ([.ref a0] : List Value).toArray below meth c H8 locs 0 0 (MQ below (th_Q (fun (v : Option Value) (H1 : Heap) => v = none ∧ th_I G Γ H1 ∧ th_F G Γ [(20, 5), (20, 6), (20, 7), (20, 8), (40, 0), (39, 2)] H0 H1 ∧ th_RD G Γ H1 ∧ (th_sl H1 a0 (G.1.2 5 7) = .int bv) ∧ (f_X5_readTest d (dv G Γ H0) (a0 : Int) = (dv G Γ H1, 0))) G) ([.ref a0] : List Value).toArray s 0 0 (fun q => G.2.2 ≤ q)) (F0 m 8 ls []) := by
    intro n8
    induction n8 with
    | zero => intro H8 locs ls j8_1 j8_2 hB hR hl hF g8_0 g8_1 g8_2 g8_3 g8_4 hm8; exact absurd hm8 (by have := ti_hi j8_2; omega)
    | succ n8 ih8 =>
      intro H8 locs ls j8_1 j8_2 hB hR hl hF g8_0 g8_1 g8_2 g8_3 g8_4 hm8
      have lj8_1 := ti_lo j8_1; have uj8_1 := ti_hi j8_1
      have lj8_2 := ti_lo j8_2; have uj8_2 := ti_hi j8_2
      have mm2 := (th_F_o hB.2.2 h0 ro_20 (j := 3) (by decide) (by decide)).trans mbn3
      have hm8 : (2147483648 : Int) - j8_2.toInt ≤ (n8 : Int) + 1 := by omega
      replace hF := hF.trans (dv_lp_eq)
      replace hF := hF.trans (congrArg (dv_k (f_X5_readTest_8b d (f_X5_readPlain d))) (f_X5_readTest_8c.eq_1 d (f_X5_readPlain d) (dv G Γ H8) ((a0 : Int)) (j8_1.toInt) (j8_2.toInt)))
      refine lv_iload_n hx hb dX5_readTest_8 rfl (lv_at hl 2 rfl) ?_
      refine lv_sipush (v := 400) hx hb dX5_readTest_9 (by decide) ?_
      have jn128 : ∀ (locs : List Loc) (ls : Array Slot) , th_B G Γ Γ [(20, 5), (20, 6), (20, 7), (20, 8), (40, 0), (39, 2)] H0 H8 locs → lv_has ls 5 [(0, .ref a0), (1, .int j8_1)] → F = dv_k (f_X5_readTest_8b d (f_X5_readPlain d)) (f_X5_readTest_128 d (f_X5_readPlain d) (dv G Γ H8) ((a0 : Int)) (j8_1.toInt)) → W p l e ({ frames := 27 + 2 * d, cells := 0, slots := 0, locals := 922 + d * 46 } : Room) s m ([.ref a0] : List Value).toArray below meth c H8 locs 0 0 (MQ below (th_Q (fun (v : Option Value) (H1 : Heap) => v = none ∧ th_I G Γ H1 ∧ th_F G Γ [(20, 5), (20, 6), (20, 7), (20, 8), (40, 0), (39, 2)] H0 H1 ∧ th_RD G Γ H1 ∧ (th_sl H1 a0 (G.1.2 5 7) = .int bv) ∧ (f_X5_readTest d (dv G Γ H0) (a0 : Int) = (dv G Γ H1, 0))) G) ([.ref a0] : List Value).toArray s 0 0 (fun q => G.2.2 ≤ q)) (F0 m 128 ls []) := by
        intro locs ls hB hl hF
        replace hF := hF.trans (congrArg (dv_k (f_X5_readTest_8b d (f_X5_readPlain d))) (f_X5_readTest_128.eq_1 d (f_X5_readPlain d) (dv G Γ H8) ((a0 : Int)) (j8_1.toInt)))
        refine lv_aload_n hx hb dX5_readTest_128 rfl (lv_at hl 0 rfl) ?_
        refine th_getK hC cf_X5 hB.1 h0 ro_20 rfl (j := 3) (by decide) mm2 kf_X5_22 dX5_readTest_129 ?_
        replace hF := hF.trans (congrArg (dv_k (f_X5_readTest_8b d (f_X5_readPlain d))) (dv_bn (dv_getR h0 ro_20 (j := 3) rfl mm2 (by decide))))
        refine lv_iload_n hx hb dX5_readTest_132 rfl (lv_at hl 1 rfl) ?_
        refine lv_aload_n hx hb dX5_readTest_133 rfl (lv_at hl 0 rfl) ?_
        refine th_getK hC cf_X5 hB.1 h0 ro_20 rfl (j := 3) (by decide) mm2 kf_X5_22 dX5_readTest_134 ?_
        replace hF := hF.trans (congrArg (dv_k (f_X5_readTest_8b d (f_X5_readPlain d))) (dv_bn (dv_getR h0 ro_20 (j := 3) rfl mm2 (by decide))))
        refine th_getI (j := 2) hC cf_X10 hB.1 hbn3 ro_39 rfl rfl kf_X5_174 dX5_readTest_137 (fun x3 mx3 lx3 ux3 => ?_)
        replace hF := hF.trans (congrArg (dv_k (f_X5_readTest_8b d (f_X5_readPlain d))) (dv_bn (dv_getI hbn3 ro_39 (j := 2) rfl mx3 (by decide))))
        refine th_call (th_runV (As := [.int j8_1, .int x3]) (rest := []) hC mf_X10_setCode km_X5_189 im_X10_setCode se_X10_setCode (c_X10_setCode l G Γ H8 hB.1 hR.1 hU bn3 hbn3 j8_1 x3 (by omega)) rfl rfl ⟨by dsimp only; omega, by dsimp only; omega⟩ hB.1 hbn3 ro_39 rfl rfl hl.1 rfl (Nat.le_of_ble_eq_true rfl) dX5_readTest_140 ⟨Nat.le_refl _, Nat.le_refl _⟩) hB.2.1 (fun v140 H140 locs hp hz hS => ?_)
        have hRD := hR
        obtain ⟨rfl, hI1, hf, hR, z140_0⟩ := hp
        have hR := th_RD_c hR hRD hf (by decide)
        have hB := th_B_c hB hI1 hS hf (by decide)
        have mm4 := (th_F_o hf h0 ro_20 (j := 7) (by decide) (by decide)).trans g8_4
        have mm5 := (th_F_o hf h0 ro_20 (j := 3) (by decide) (by decide)).trans mm2
        replace hF := hF.trans (congrArg (dv_k (f_X5_readTest_8b d (f_X5_readPlain d))) (dv_bn2 (z140_0)))
        refine W.eq (g2 := F0 m 143 ls []) rfl ?_
        replace hF := hF.trans (dv_kr)
        exact th_vret hC hH hr hlocks hB.2.1 ⟨rfl, hB.1, hB.2.2, hR, mm4, (hF0.symm.trans hF)⟩ dX5_readTest_143
      refine tr_icmp_ge (tgt := 128) hx hb dX5_readTest_12 (by decide) (Eq.refl _) tk_400 (fun c12 => ?_) (fun c12 => ?_)
      · replace hF := hF.trans (congrArg (dv_k (f_X5_readTest_8b d (f_X5_readPlain d))) (if_pos c12))
        exact jn128 locs ls hB (lv_sub hl [0, 1] rfl) hF
      · replace hF := hF.trans (congrArg (dv_k (f_X5_readTest_8b d (f_X5_readPlain d))) (if_neg (Int.not_le.mpr c12)))
        refine lv_aload_n hx hb dX5_readTest_15 rfl (lv_at hl 0 rfl) ?_
        refine th_call (th_runV (As := []) (rest := []) hC mf_X5_seenToken km_X5_186 im_X5_seenToken se_X5_seenToken (c_X5_seenToken l G Γ H8 hB.1 hR hU a0 h0) rfl rfl ⟨by dsimp only; omega, by dsimp only; omega⟩ hB.1 h0 ro_20 rfl rfl hl.1 rfl (Nat.le_of_ble_eq_true rfl) dX5_readTest_16 ⟨Nat.le_refl _, Nat.le_refl _⟩) hB.2.1 (fun v16 H16 locs hp hz hS => ?_)
        obtain ⟨x6, rfl, q16_0, q16_1, rfl⟩ := hp
        have hB := th_B_s hB hS
        replace hF := hF.trans (congrArg (dv_k (f_X5_readTest_8b d (f_X5_readPlain d))) (dv_bn2 (q16_1)))
        refine W.eq (g2 := F0 m 19 ls [.int x6]) rfl ?_
        refine lv_sipush (v := 312) hx hb dX5_readTest_19 (by decide) ?_
        refine tr_icmp_eq (tgt := 35) hx hb dX5_readTest_22 (by decide) (Eq.refl _) tk_312 (fun c22 => ?_) (fun c22 => ?_)
        · replace hF := hF.trans (congrArg (dv_k (f_X5_readTest_8b d (f_X5_readPlain d))) (if_pos c22))
          refine lv_aload_n hx hb dX5_readTest_35 rfl (lv_at hl 0 rfl) ?_
          refine lv_sipush (v := 312) hx hb dX5_readTest_36 (by decide) ?_
          refine th_call (th_runV (As := [.int 312]) (rest := []) hC mf_X5_take km_X5_54 im_X5_take se_X5_take (c_X5_take l G Γ H8 hB.1 hR hU a0 h0 312 (by decide)) rfl rfl ⟨by dsimp only; omega, by dsimp only; omega⟩ hB.1 h0 ro_20 rfl rfl hl.1 rfl (Nat.le_of_ble_eq_true rfl) dX5_readTest_39 ⟨Nat.le_refl _, Nat.le_refl _⟩) hB.2.1 (fun v39 H39 locs hp hz hS => ?_)
          obtain ⟨x7, rfl, lx7, ux7, hI1, hf, hR, z39_0, z39_1⟩ := hp
          have hB := th_B_c hB hI1 hS hf (by decide)
          have mm8 := (th_F_o hf h0 ro_20 (j := 7) (by decide) (by decide)).trans g8_4
          have mm9 := (th_F_o hf h0 ro_20 (j := 3) (by decide) (by decide)).trans mm2
          have zf39 := z39_1
          rw [tk_312] at zf39
          replace hF := hF.trans (congrArg (dv_k (f_X5_readTest_8b d (f_X5_readPlain d))) (dv_bn2 (zf39)))
          refine W.eq (g2 := F0 m 42 ls [.int x7]) rfl ?_
          refine lv_istore_n (lv' := [(3, .int x7), (0, .ref a0), (1, .int j8_1), (2, .int j8_2)]) hx hb dX5_readTest_42 rfl hl (by decide) rfl (fun ls hl => ?_)
          refine lv_iload_n hx hb dX5_readTest_43 rfl (lv_at hl 0 rfl) ?_
          have jn122 : ∀ (H122 : Heap) (locs : List Loc) (ls : Array Slot) (j122_1 : Int32), th_B G Γ Γ [(20, 5), (20, 6), (20, 7), (20, 8), (40, 0), (39, 2)] H0 H122 locs → th_RD G Γ H122 → lv_has ls 5 [(0, .ref a0), (2, .int j8_2), (1, .int j122_1)] → F = dv_k (f_X5_readTest_8b d (f_X5_readPlain d)) (f_X5_readTest_122 d (f_X5_readPlain d) (dv G Γ H122) ((a0 : Int)) (j8_2.toInt) (j122_1.toInt)) → (-1) ≤ j122_1.toInt → j122_1.toInt ≤ 399 → th_sl H122 a0 (G.1.2 5 7) = .int bv → W p l e ({ frames := 27 + 2 * d, cells := 0, slots := 0, locals := 922 + d * 46 } : Room) s m ([.ref a0] : List Value).toArray below meth c H122 locs 0 0 (MQ below (th_Q (fun (v : Option Value) (H1 : Heap) => v = none ∧ th_I G Γ H1 ∧ th_F G Γ [(20, 5), (20, 6), (20, 7), (20, 8), (40, 0), (39, 2)] H0 H1 ∧ th_RD G Γ H1 ∧ (th_sl H1 a0 (G.1.2 5 7) = .int bv) ∧ (f_X5_readTest d (dv G Γ H0) (a0 : Int) = (dv G Γ H1, 0))) G) ([.ref a0] : List Value).toArray s 0 0 (fun q => G.2.2 ≤ q)) (F0 m 122 ls []) := by
            intro H122 locs ls j122_1 hB hR hl hF g122_0 g122_1 g122_2
            have lj122_1 := ti_lo j122_1; have uj122_1 := ti_hi j122_1
            have mm10 := (th_F_o hB.2.2 h0 ro_20 (j := 3) (by decide) (by decide)).trans mbn3
            replace hF := hF.trans (congrArg (dv_k (f_X5_readTest_8b d (f_X5_readPlain d))) (f_X5_readTest_122.eq_1 d (f_X5_readPlain d) (dv G Γ H122) ((a0 : Int)) (j8_2.toInt) (j122_1.toInt)))
            refine tr_iinc (fun x11 => [(2, .int x11), (0, .ref a0), (1, .int j122_1)]) hx hb dX5_readTest_122 hl (k := 1) rfl (Eq.refl _) tk_1 (by omega) (by omega) (by decide) (fun _ => rfl) (fun x11 ls ex11 hl => ?_)
            replace hF := hF.trans (congrArg (dv_k (f_X5_readTest_8b d (f_X5_readPlain d))) (dv_bn (ex11.symm)))
            refine lv_goto (tgt := 8) hx hb dX5_readTest_125 (by decide) ?_
            replace hF := hF.trans (dv_kl)
            exact ih8 H122 locs ls j122_1 x11 hB hR (lv_sub hl [1, 2, 0] rfl) hF (by omega) (by omega) (by omega) (by omega) g122_2 (by omega)
          refine tr_if_eq (tgt := 80) hx hb dX5_readTest_44 (by decide) (Eq.refl _) (fun c44 => ?_) (fun c44 => ?_)
          · replace hF := hF.trans (congrArg (dv_k (f_X5_readTest_8b d (f_X5_readPlain d))) (if_pos c44))
            refine lv_aload_n hx hb dX5_readTest_80 rfl (lv_at hl 1 rfl) ?_
            have tk : th_TK G Γ H39 a0 := by rw [z39_0 (by omega)]; first | exact q26_0 (by omega) | exact q16_0 (by omega)
            refine lv_dup hx hb dX5_readTest_81 rfl ?_
            refine th_getI (j := 5) hC cf_X5 hB.1 h0 ro_20 rfl rfl kf_X5_30 dX5_readTest_82 (fun x12 mx12 lx12 ux12 => ?_)
            obtain ⟨rax12, rbx12⟩ := th_RI_at (hR.2 _ _ h0) mx12
            replace hF := hF.trans (congrArg (dv_k (f_X5_readTest_8b d (f_X5_readPlain d))) (dv_bn (dv_getI h0 ro_20 (j := 5) rfl mx12 (by decide))))
            refine lv_iconst (v := 1) hx hb dX5_readTest_85 (by decide) ?_
            refine tr_iadd hx hb dX5_readTest_86 (Eq.refl _) tk_1 (by omega) (by omega) (fun x13 ex13 => ?_)
            replace hF := hF.trans (congrArg (dv_k (f_X5_readTest_8b d (f_X5_readPlain d))) (dv_bn (ex13.symm)))
            refine th_put hC cf_X5 hB h0 (Or.inl h0) ro_20 rfl (j := 5) rfl th_sIa (by decide) rfl rfl rfl kf_X5_30 dX5_readTest_87 (fun H87 locs hB hf hst87 => ?_)
            have mm14 := (th_F_o hf h0 ro_20 (j := 7) (by decide) (by decide)).trans mm8
            have mm15 := (th_F_o hf h0 ro_20 (j := 3) (by decide) (by decide)).trans mm9
            replace hF := hF.trans (congrArg (dv_k (f_X5_readTest_8b d (f_X5_readPlain d))) (dv_bn (dv_putI hB.1 h0 ro_20 (j := 5) rfl (th_apart hC cf_X5) hst87 (Eq.refl _) (by decide))))
            have mm16 := hst87.2.1
            have hR := th_RD_st (th_RC_F hB.1 hR.1 hf (th_T_s h0 ro_20 hst87) (by decide)) hR h0 hst87 (th_RD_up (th_apart hC cf_X5 0 5 (by decide) (by decide) (by decide)) (hR.2 _ _ h0) tk h0 mx12 (by have w1 := tk_1; omega) hst87)
            refine lv_aload_n hx hb dX5_readTest_90 rfl (lv_at hl 1 rfl) ?_
            refine th_getK hC cf_X5 hB.1 h0 ro_20 rfl (j := 3) (by decide) mm15 kf_X5_22 dX5_readTest_91 ?_
            replace hF := hF.trans (congrArg (dv_k (f_X5_readTest_8b d (f_X5_readPlain d))) (dv_bn (dv_getR h0 ro_20 (j := 3) rfl mm15 (by decide))))
            refine lv_sipush (v := 3009) hx hb dX5_readTest_94 (by decide) ?_
            refine th_call (th_runV (As := [.int 3009]) (rest := []) hC mf_X10_addJump km_X5_192 im_X10_addJump se_X10_addJump (c_X10_addJump l G Γ H87 hB.1 hR.1 hU bn3 hbn3 3009 (by decide)) rfl rfl ⟨by dsimp only; omega, by dsimp only; omega⟩ hB.1 hbn3 ro_39 rfl rfl hl.1 rfl (Nat.le_of_ble_eq_true rfl) dX5_readTest_97 ⟨Nat.le_refl _, Nat.le_refl _⟩) hB.2.1 (fun v97 H97 locs hp hz hS => ?_)
            have hRD := hR
            obtain ⟨x17, rfl, lx17, ux17, hI1, hf, hR, z97_0⟩ := hp
            have hR := th_RD_c hR hRD hf (by decide)
            have hB := th_B_c hB hI1 hS hf (by decide)
            have mm18 := (th_F_o hf h0 ro_20 (j := 7) (by decide) (by decide)).trans mm14
            have mm19 := (th_F_o hf h0 ro_20 (j := 3) (by decide) (by decide)).trans mm15
            have mm20 := (th_F_o hf h0 ro_20 (j := 5) (by decide) (by decide)).trans mm16
            have zf97 := z97_0
            rw [tk_3009] at zf97
            replace hF := hF.trans (congrArg (dv_k (f_X5_readTest_8b d (f_X5_readPlain d))) (dv_bn2 (zf97)))
            refine W.eq (g2 := F0 m 100 ls [.int x17]) rfl ?_
            refine lv_istore (lv' := [(4, .int x17), (3, .int x7), (0, .ref a0), (1, .int j8_1), (2, .int j8_2)]) hx hb dX5_readTest_100 hl (by decide) rfl (fun ls hl => ?_)
            refine lv_aload_n hx hb dX5_readTest_102 rfl (lv_at hl 2 rfl) ?_
            refine th_call (th_runV (As := []) (rest := []) hC mf_X5_readPlain km_X5_183 im_X5_readPlain se_X5_readPlain (ihp l G Γ H97 hB.1 hR hU a0 h0 ⟨_, mm19, hbn3⟩ bv mm18 (by omega) (by omega)) rfl rfl ⟨by dsimp only; omega, by dsimp only; omega⟩ hB.1 h0 ro_20 rfl rfl hl.1 rfl (Nat.le_of_ble_eq_true rfl) dX5_readTest_103 ⟨Nat.le_refl _, Nat.le_refl _⟩) hB.2.1 (fun v103 H103 locs hp hz hS => ?_)
            obtain ⟨rfl, hI1, hf, hR, z103_0, z103_1⟩ := hp
            have hB := th_B_c hB hI1 hS hf (by decide)
            have mm21 := (th_F_o hf h0 ro_20 (j := 3) (by decide) (by decide)).trans mm19
            replace hF := hF.trans (congrArg (dv_k (f_X5_readTest_8b d (f_X5_readPlain d))) (dv_bn2 (z103_1)))
            refine W.eq (g2 := F0 m 106 ls []) rfl ?_
            refine lv_aload_n hx hb dX5_readTest_106 rfl (lv_at hl 2 rfl) ?_
            refine th_getK hC cf_X5 hB.1 h0 ro_20 rfl (j := 3) (by decide) mm21 kf_X5_22 dX5_readTest_107 ?_
            replace hF := hF.trans (congrArg (dv_k (f_X5_readTest_8b d (f_X5_readPlain d))) (dv_bn (dv_getR h0 ro_20 (j := 3) rfl mm21 (by decide))))
            refine lv_iload hx hb dX5_readTest_110 (lv_at hl 0 rfl) ?_
            refine lv_aload_n hx hb dX5_readTest_112 rfl (lv_at hl 2 rfl) ?_
            refine th_getK hC cf_X5 hB.1 h0 ro_20 rfl (j := 3) (by decide) mm21 kf_X5_22 dX5_readTest_113 ?_
            replace hF := hF.trans (congrArg (dv_k (f_X5_readTest_8b d (f_X5_readPlain d))) (dv_bn (dv_getR h0 ro_20 (j := 3) rfl mm21 (by decide))))
            refine th_getI (j := 2) hC cf_X10 hB.1 hbn3 ro_39 rfl rfl kf_X5_174 dX5_readTest_116 (fun x22 mx22 lx22 ux22 => ?_)
            replace hF := hF.trans (congrArg (dv_k (f_X5_readTest_8b d (f_X5_readPlain d))) (dv_bn (dv_getI hbn3 ro_39 (j := 2) rfl mx22 (by decide))))
            refine th_call (th_runV (As := [.int x17, .int x22]) (rest := []) hC mf_X10_setCode km_X5_189 im_X10_setCode se_X10_setCode (c_X10_setCode l G Γ H103 hB.1 hR.1 hU bn3 hbn3 x17 x22 (by omega)) rfl rfl ⟨by dsimp only; omega, by dsimp only; omega⟩ hB.1 hbn3 ro_39 rfl rfl hl.1 rfl (Nat.le_of_ble_eq_true rfl) dX5_readTest_119 ⟨Nat.le_refl _, Nat.le_refl _⟩) hB.2.1 (fun v119 H119 locs hp hz hS => ?_)
            have hRD := hR
            obtain ⟨rfl, hI1, hf, hR, z119_0⟩ := hp
            have hR := th_RD_c hR hRD hf (by decide)
            have hB := th_B_c hB hI1 hS hf (by decide)
            have mm23 := (th_F_o hf h0 ro_20 (j := 3) (by decide) (by decide)).trans mm21
            have mm24 := (th_F_o hf h0 ro_20 (j := 7) (by decide) (by decide)).trans z103_0
            have mm25 := (th_F_o hf hbn3 ro_39 (j := 2) (by decide) (by decide)).trans mx22
            replace hF := hF.trans (congrArg (dv_k (f_X5_readTest_8b d (f_X5_readPlain d))) (dv_bn2 (z119_0)))
            refine W.eq (g2 := F0 m 122 ls []) rfl ?_
            exact jn122 H119 locs ls j8_1 hB hR (lv_sub hl [2, 4, 3] rfl) hF (by omega) (by omega) mm24
          · replace hF := hF.trans (congrArg (dv_k (f_X5_readTest_8b d (f_X5_readPlain d))) (if_neg c44))
            refine lv_aload_n hx hb dX5_readTest_47 rfl (lv_at hl 1 rfl) ?_
            refine th_getK hC cf_X5 hB.1 h0 ro_20 rfl (j := 3) (by decide) mm9 kf_X5_22 dX5_readTest_48 ?_
            replace hF := hF.trans (congrArg (dv_k (f_X5_readTest_8b d (f_X5_readPlain d))) (dv_bn (dv_getR h0 ro_20 (j := 3) rfl mm9 (by decide))))
            refine lv_iload_n hx hb dX5_readTest_51 rfl (lv_at hl 2 rfl) ?_
            refine lv_aload_n hx hb dX5_readTest_52 rfl (lv_at hl 1 rfl) ?_
            refine th_getK hC cf_X5 hB.1 h0 ro_20 rfl (j := 3) (by decide) mm9 kf_X5_22 dX5_readTest_53 ?_
            replace hF := hF.trans (congrArg (dv_k (f_X5_readTest_8b d (f_X5_readPlain d))) (dv_bn (dv_getR h0 ro_20 (j := 3) rfl mm9 (by decide))))
            refine th_getI (j := 2) hC cf_X10 hB.1 hbn3 ro_39 rfl rfl kf_X5_174 dX5_readTest_56 (fun x26 mx26 lx26 ux26 => ?_)
            replace hF := hF.trans (congrArg (dv_k (f_X5_readTest_8b d (f_X5_readPlain d))) (dv_bn (dv_getI hbn3 ro_39 (j := 2) rfl mx26 (by decide))))
            refine th_call (th_runV (As := [.int j8_1, .int x26]) (rest := []) hC mf_X10_setCode km_X5_189 im_X10_setCode se_X10_setCode (c_X10_setCode l G Γ H39 hB.1 hR.1 hU bn3 hbn3 j8_1 x26 (by omega)) rfl rfl ⟨by dsimp only; omega, by dsimp only; omega⟩ hB.1 hbn3 ro_39 rfl rfl hl.1 rfl (Nat.le_of_ble_eq_true rfl) dX5_readTest_59 ⟨Nat.le_refl _, Nat.le_refl _⟩) hB.2.1 (fun v59 H59 locs hp hz hS => ?_)
            have hRD := hR
            obtain ⟨rfl, hI1, hf, hR, z59_0⟩ := hp
            have hR := th_RD_c hR hRD hf (by decide)
            have hB := th_B_c hB hI1 hS hf (by decide)
            have mm27 := (th_F_o hf h0 ro_20 (j := 7) (by decide) (by decide)).trans mm8
            have mm28 := (th_F_o hf h0 ro_20 (j := 3) (by decide) (by decide)).trans mm9
            have mm29 := (th_F_o hf hbn3 ro_39 (j := 2) (by decide) (by decide)).trans mx26
            replace hF := hF.trans (congrArg (dv_k (f_X5_readTest_8b d (f_X5_readPlain d))) (dv_bn2 (z59_0)))
            refine W.eq (g2 := F0 m 62 ls []) rfl ?_
            refine lv_aload_n hx hb dX5_readTest_62 rfl (lv_at hl 1 rfl) ?_
            refine th_getK hC cf_X5 hB.1 h0 ro_20 rfl (j := 3) (by decide) mm28 kf_X5_22 dX5_readTest_63 ?_
            replace hF := hF.trans (congrArg (dv_k (f_X5_readTest_8b d (f_X5_readPlain d))) (dv_bn (dv_getR h0 ro_20 (j := 3) rfl mm28 (by decide))))
            refine lv_sipush (v := 3010) hx hb dX5_readTest_66 (by decide) ?_
            refine th_call (th_runV (As := [.int 3010]) (rest := []) hC mf_X10_addJump km_X5_192 im_X10_addJump se_X10_addJump (c_X10_addJump l G Γ H59 hB.1 hR.1 hU bn3 hbn3 3010 (by decide)) rfl rfl ⟨by dsimp only; omega, by dsimp only; omega⟩ hB.1 hbn3 ro_39 rfl rfl hl.1 rfl (Nat.le_of_ble_eq_true rfl) dX5_readTest_69 ⟨Nat.le_refl _, Nat.le_refl _⟩) hB.2.1 (fun v69 H69 locs hp hz hS => ?_)
            have hRD := hR
            obtain ⟨x30, rfl, lx30, ux30, hI1, hf, hR, z69_0⟩ := hp
            have hR := th_RD_c hR hRD hf (by decide)
            have hB := th_B_c hB hI1 hS hf (by decide)
            have mm31 := (th_F_o hf h0 ro_20 (j := 7) (by decide) (by decide)).trans mm27
            have mm32 := (th_F_o hf h0 ro_20 (j := 3) (by decide) (by decide)).trans mm28
            have zf69 := z69_0
            rw [tk_3010] at zf69
            replace hF := hF.trans (congrArg (dv_k (f_X5_readTest_8b d (f_X5_readPlain d))) (dv_bn2 (zf69)))
            refine W.eq (g2 := F0 m 72 ls [.int x30]) rfl ?_
            refine lv_istore_n (lv' := [(1, .int x30), (3, .int x7), (0, .ref a0), (2, .int j8_2)]) hx hb dX5_readTest_72 rfl hl (by decide) rfl (fun ls hl => ?_)
            refine lv_aload_n hx hb dX5_readTest_73 rfl (lv_at hl 2 rfl) ?_
            refine th_call (th_runV (As := []) (rest := []) hC mf_X5_readPlain km_X5_183 im_X5_readPlain se_X5_readPlain (ihp l G Γ H69 hB.1 hR hU a0 h0 ⟨_, mm32, hbn3⟩ bv mm31 (by omega) (by omega)) rfl rfl ⟨by dsimp only; omega, by dsimp only; omega⟩ hB.1 h0 ro_20 rfl rfl hl.1 rfl (Nat.le_of_ble_eq_true rfl) dX5_readTest_74 ⟨Nat.le_refl _, Nat.le_refl _⟩) hB.2.1 (fun v74 H74 locs hp hz hS => ?_)
            obtain ⟨rfl, hI1, hf, hR, z74_0, z74_1⟩ := hp
            have hB := th_B_c hB hI1 hS hf (by decide)
            have mm33 := (th_F_o hf h0 ro_20 (j := 3) (by decide) (by decide)).trans mm32
            replace hF := hF.trans (congrArg (dv_k (f_X5_readTest_8b d (f_X5_readPlain d))) (dv_bn2 (z74_1)))
            refine W.eq (g2 := F0 m 77 ls []) rfl ?_
            refine lv_goto (tgt := 122) hx hb dX5_readTest_77 (by decide) ?_
            exact jn122 H74 locs ls x30 hB hR (lv_sub hl [2, 3, 0] rfl) hF (by omega) (by omega) z74_0
        · replace hF := hF.trans (congrArg (dv_k (f_X5_readTest_8b d (f_X5_readPlain d))) (if_neg c22))
          refine lv_aload_n hx hb dX5_readTest_25 rfl (lv_at hl 0 rfl) ?_
          refine th_call (th_runV (As := []) (rest := []) hC mf_X5_seenToken km_X5_186 im_X5_seenToken se_X5_seenToken (c_X5_seenToken l G Γ H8 hB.1 hR hU a0 h0) rfl rfl ⟨by dsimp only; omega, by dsimp only; omega⟩ hB.1 h0 ro_20 rfl rfl hl.1 rfl (Nat.le_of_ble_eq_true rfl) dX5_readTest_26 ⟨Nat.le_refl _, Nat.le_refl _⟩) hB.2.1 (fun v26 H26 locs hp hz hS => ?_)
          obtain ⟨x34, rfl, q26_0, q26_1, rfl⟩ := hp
          have hB := th_B_s hB hS
          replace hF := hF.trans (congrArg (dv_k (f_X5_readTest_8b d (f_X5_readPlain d))) (dv_bn2 (q26_1)))
          refine W.eq (g2 := F0 m 29 ls [.int x34]) rfl ?_
          refine lv_sipush (v := 313) hx hb dX5_readTest_29 (by decide) ?_
          refine tr_icmp_ne (tgt := 128) hx hb dX5_readTest_32 (by decide) (Eq.refl _) tk_313 (fun c32 => ?_) (fun c32 => ?_)
          · replace hF := hF.trans (congrArg (dv_k (f_X5_readTest_8b d (f_X5_readPlain d))) (if_pos c32))
            exact jn128 locs ls hB (lv_sub hl [0, 1] rfl) hF
          · replace hF := hF.trans (congrArg (dv_k (f_X5_readTest_8b d (f_X5_readPlain d))) (if_neg (not_not_intro c32)))
            refine lv_aload_n hx hb dX5_readTest_35 rfl (lv_at hl 0 rfl) ?_
            refine lv_sipush (v := 312) hx hb dX5_readTest_36 (by decide) ?_
            refine th_call (th_runV (As := [.int 312]) (rest := []) hC mf_X5_take km_X5_54 im_X5_take se_X5_take (c_X5_take l G Γ H8 hB.1 hR hU a0 h0 312 (by decide)) rfl rfl ⟨by dsimp only; omega, by dsimp only; omega⟩ hB.1 h0 ro_20 rfl rfl hl.1 rfl (Nat.le_of_ble_eq_true rfl) dX5_readTest_39 ⟨Nat.le_refl _, Nat.le_refl _⟩) hB.2.1 (fun v39 H39 locs hp hz hS => ?_)
            obtain ⟨x35, rfl, lx35, ux35, hI1, hf, hR, z39_0, z39_1⟩ := hp
            have hB := th_B_c hB hI1 hS hf (by decide)
            have mm36 := (th_F_o hf h0 ro_20 (j := 7) (by decide) (by decide)).trans g8_4
            have mm37 := (th_F_o hf h0 ro_20 (j := 3) (by decide) (by decide)).trans mm2
            have zf39 := z39_1
            rw [tk_312] at zf39
            replace hF := hF.trans (congrArg (dv_k (f_X5_readTest_8b d (f_X5_readPlain d))) (dv_bn2 (zf39)))
            refine W.eq (g2 := F0 m 42 ls [.int x35]) rfl ?_
            refine lv_istore_n (lv' := [(3, .int x35), (0, .ref a0), (1, .int j8_1), (2, .int j8_2)]) hx hb dX5_readTest_42 rfl hl (by decide) rfl (fun ls hl => ?_)
            refine lv_iload_n hx hb dX5_readTest_43 rfl (lv_at hl 0 rfl) ?_
            have jn122 : ∀ (H122 : Heap) (locs : List Loc) (ls : Array Slot) (j122_1 : Int32), th_B G Γ Γ [(20, 5), (20, 6), (20, 7), (20, 8), (40, 0), (39, 2)] H0 H122 locs → th_RD G Γ H122 → lv_has ls 5 [(0, .ref a0), (2, .int j8_2), (1, .int j122_1)] → F = dv_k (f_X5_readTest_8b d (f_X5_readPlain d)) (f_X5_readTest_122x2 d (f_X5_readPlain d) (dv G Γ H122) ((a0 : Int)) (j8_2.toInt) (j122_1.toInt)) → (-1) ≤ j122_1.toInt → j122_1.toInt ≤ 399 → th_sl H122 a0 (G.1.2 5 7) = .int bv → W p l e ({ frames := 27 + 2 * d, cells := 0, slots := 0, locals := 922 + d * 46 } : Room) s m ([.ref a0] : List Value).toArray below meth c H122 locs 0 0 (MQ below (th_Q (fun (v : Option Value) (H1 : Heap) => v = none ∧ th_I G Γ H1 ∧ th_F G Γ [(20, 5), (20, 6), (20, 7), (20, 8), (40, 0), (39, 2)] H0 H1 ∧ th_RD G Γ H1 ∧ (th_sl H1 a0 (G.1.2 5 7) = .int bv) ∧ (f_X5_readTest d (dv G Γ H0) (a0 : Int) = (dv G Γ H1, 0))) G) ([.ref a0] : List Value).toArray s 0 0 (fun q => G.2.2 ≤ q)) (F0 m 122 ls []) := by
              intro H122 locs ls j122_1 hB hR hl hF g122_0 g122_1 g122_2
              have lj122_1 := ti_lo j122_1; have uj122_1 := ti_hi j122_1
              have mm38 := (th_F_o hB.2.2 h0 ro_20 (j := 3) (by decide) (by decide)).trans mbn3
              replace hF := hF.trans (congrArg (dv_k (f_X5_readTest_8b d (f_X5_readPlain d))) (f_X5_readTest_122x2.eq_1 d (f_X5_readPlain d) (dv G Γ H122) ((a0 : Int)) (j8_2.toInt) (j122_1.toInt)))
              refine tr_iinc (fun x39 => [(2, .int x39), (0, .ref a0), (1, .int j122_1)]) hx hb dX5_readTest_122 hl (k := 1) rfl (Eq.refl _) tk_1 (by omega) (by omega) (by decide) (fun _ => rfl) (fun x39 ls ex39 hl => ?_)
              replace hF := hF.trans (congrArg (dv_k (f_X5_readTest_8b d (f_X5_readPlain d))) (dv_bn (ex39.symm)))
              refine lv_goto (tgt := 8) hx hb dX5_readTest_125 (by decide) ?_
              replace hF := hF.trans (dv_kl)
              exact ih8 H122 locs ls j122_1 x39 hB hR (lv_sub hl [1, 2, 0] rfl) hF (by omega) (by omega) (by omega) (by omega) g122_2 (by omega)
            refine tr_if_eq (tgt := 80) hx hb dX5_readTest_44 (by decide) (Eq.refl _) (fun c44 => ?_) (fun c44 => ?_)
            · replace hF := hF.trans (congrArg (dv_k (f_X5_readTest_8b d (f_X5_readPlain d))) (if_pos c44))
              refine lv_aload_n hx hb dX5_readTest_80 rfl (lv_at hl 1 rfl) ?_
              have tk : th_TK G Γ H39 a0 := by rw [z39_0 (by omega)]; first | exact q26_0 (by omega) | exact q16_0 (by omega)
              refine lv_dup hx hb dX5_readTest_81 rfl ?_
              refine th_getI (j := 5) hC cf_X5 hB.1 h0 ro_20 rfl rfl kf_X5_30 dX5_readTest_82 (fun x40 mx40 lx40 ux40 => ?_)
              obtain ⟨rax40, rbx40⟩ := th_RI_at (hR.2 _ _ h0) mx40
              replace hF := hF.trans (congrArg (dv_k (f_X5_readTest_8b d (f_X5_readPlain d))) (dv_bn (dv_getI h0 ro_20 (j := 5) rfl mx40 (by decide))))
              refine lv_iconst (v := 1) hx hb dX5_readTest_85 (by decide) ?_
              refine tr_iadd hx hb dX5_readTest_86 (Eq.refl _) tk_1 (by omega) (by omega) (fun x41 ex41 => ?_)
              replace hF := hF.trans (congrArg (dv_k (f_X5_readTest_8b d (f_X5_readPlain d))) (dv_bn (ex41.symm)))
              refine th_put hC cf_X5 hB h0 (Or.inl h0) ro_20 rfl (j := 5) rfl th_sIa (by decide) rfl rfl rfl kf_X5_30 dX5_readTest_87 (fun H87 locs hB hf hst87 => ?_)
              have mm42 := (th_F_o hf h0 ro_20 (j := 7) (by decide) (by decide)).trans mm36
              have mm43 := (th_F_o hf h0 ro_20 (j := 3) (by decide) (by decide)).trans mm37
              replace hF := hF.trans (congrArg (dv_k (f_X5_readTest_8b d (f_X5_readPlain d))) (dv_bn (dv_putI hB.1 h0 ro_20 (j := 5) rfl (th_apart hC cf_X5) hst87 (Eq.refl _) (by decide))))
              have mm44 := hst87.2.1
              have hR := th_RD_st (th_RC_F hB.1 hR.1 hf (th_T_s h0 ro_20 hst87) (by decide)) hR h0 hst87 (th_RD_up (th_apart hC cf_X5 0 5 (by decide) (by decide) (by decide)) (hR.2 _ _ h0) tk h0 mx40 (by have w1 := tk_1; omega) hst87)
              refine lv_aload_n hx hb dX5_readTest_90 rfl (lv_at hl 1 rfl) ?_
              refine th_getK hC cf_X5 hB.1 h0 ro_20 rfl (j := 3) (by decide) mm43 kf_X5_22 dX5_readTest_91 ?_
              replace hF := hF.trans (congrArg (dv_k (f_X5_readTest_8b d (f_X5_readPlain d))) (dv_bn (dv_getR h0 ro_20 (j := 3) rfl mm43 (by decide))))
              refine lv_sipush (v := 3009) hx hb dX5_readTest_94 (by decide) ?_
              refine th_call (th_runV (As := [.int 3009]) (rest := []) hC mf_X10_addJump km_X5_192 im_X10_addJump se_X10_addJump (c_X10_addJump l G Γ H87 hB.1 hR.1 hU bn3 hbn3 3009 (by decide)) rfl rfl ⟨by dsimp only; omega, by dsimp only; omega⟩ hB.1 hbn3 ro_39 rfl rfl hl.1 rfl (Nat.le_of_ble_eq_true rfl) dX5_readTest_97 ⟨Nat.le_refl _, Nat.le_refl _⟩) hB.2.1 (fun v97 H97 locs hp hz hS => ?_)
              have hRD := hR
              obtain ⟨x45, rfl, lx45, ux45, hI1, hf, hR, z97_0⟩ := hp
              have hR := th_RD_c hR hRD hf (by decide)
              have hB := th_B_c hB hI1 hS hf (by decide)
              have mm46 := (th_F_o hf h0 ro_20 (j := 7) (by decide) (by decide)).trans mm42
              have mm47 := (th_F_o hf h0 ro_20 (j := 3) (by decide) (by decide)).trans mm43
              have mm48 := (th_F_o hf h0 ro_20 (j := 5) (by decide) (by decide)).trans mm44
              have zf97 := z97_0
              rw [tk_3009] at zf97
              replace hF := hF.trans (congrArg (dv_k (f_X5_readTest_8b d (f_X5_readPlain d))) (dv_bn2 (zf97)))
              refine W.eq (g2 := F0 m 100 ls [.int x45]) rfl ?_
              refine lv_istore (lv' := [(4, .int x45), (3, .int x35), (0, .ref a0), (1, .int j8_1), (2, .int j8_2)]) hx hb dX5_readTest_100 hl (by decide) rfl (fun ls hl => ?_)
              refine lv_aload_n hx hb dX5_readTest_102 rfl (lv_at hl 2 rfl) ?_
              refine th_call (th_runV (As := []) (rest := []) hC mf_X5_readPlain km_X5_183 im_X5_readPlain se_X5_readPlain (ihp l G Γ H97 hB.1 hR hU a0 h0 ⟨_, mm47, hbn3⟩ bv mm46 (by omega) (by omega)) rfl rfl ⟨by dsimp only; omega, by dsimp only; omega⟩ hB.1 h0 ro_20 rfl rfl hl.1 rfl (Nat.le_of_ble_eq_true rfl) dX5_readTest_103 ⟨Nat.le_refl _, Nat.le_refl _⟩) hB.2.1 (fun v103 H103 locs hp hz hS => ?_)
              obtain ⟨rfl, hI1, hf, hR, z103_0, z103_1⟩ := hp
              have hB := th_B_c hB hI1 hS hf (by decide)
              have mm49 := (th_F_o hf h0 ro_20 (j := 3) (by decide) (by decide)).trans mm47
              replace hF := hF.trans (congrArg (dv_k (f_X5_readTest_8b d (f_X5_readPlain d))) (dv_bn2 (z103_1)))
              refine W.eq (g2 := F0 m 106 ls []) rfl ?_
              refine lv_aload_n hx hb dX5_readTest_106 rfl (lv_at hl 2 rfl) ?_
              refine th_getK hC cf_X5 hB.1 h0 ro_20 rfl (j := 3) (by decide) mm49 kf_X5_22 dX5_readTest_107 ?_
              replace hF := hF.trans (congrArg (dv_k (f_X5_readTest_8b d (f_X5_readPlain d))) (dv_bn (dv_getR h0 ro_20 (j := 3) rfl mm49 (by decide))))
              refine lv_iload hx hb dX5_readTest_110 (lv_at hl 0 rfl) ?_
              refine lv_aload_n hx hb dX5_readTest_112 rfl (lv_at hl 2 rfl) ?_
              refine th_getK hC cf_X5 hB.1 h0 ro_20 rfl (j := 3) (by decide) mm49 kf_X5_22 dX5_readTest_113 ?_
              replace hF := hF.trans (congrArg (dv_k (f_X5_readTest_8b d (f_X5_readPlain d))) (dv_bn (dv_getR h0 ro_20 (j := 3) rfl mm49 (by decide))))
              refine th_getI (j := 2) hC cf_X10 hB.1 hbn3 ro_39 rfl rfl kf_X5_174 dX5_readTest_116 (fun x50 mx50 lx50 ux50 => ?_)
              replace hF := hF.trans (congrArg (dv_k (f_X5_readTest_8b d (f_X5_readPlain d))) (dv_bn (dv_getI hbn3 ro_39 (j := 2) rfl mx50 (by decide))))
              refine th_call (th_runV (As := [.int x45, .int x50]) (rest := []) hC mf_X10_setCode km_X5_189 im_X10_setCode se_X10_setCode (c_X10_setCode l G Γ H103 hB.1 hR.1 hU bn3 hbn3 x45 x50 (by omega)) rfl rfl ⟨by dsimp only; omega, by dsimp only; omega⟩ hB.1 hbn3 ro_39 rfl rfl hl.1 rfl (Nat.le_of_ble_eq_true rfl) dX5_readTest_119 ⟨Nat.le_refl _, Nat.le_refl _⟩) hB.2.1 (fun v119 H119 locs hp hz hS => ?_)
              have hRD := hR
              obtain ⟨rfl, hI1, hf, hR, z119_0⟩ := hp
              have hR := th_RD_c hR hRD hf (by decide)
              have hB := th_B_c hB hI1 hS hf (by decide)
              have mm51 := (th_F_o hf h0 ro_20 (j := 3) (by decide) (by decide)).trans mm49
              have mm52 := (th_F_o hf h0 ro_20 (j := 7) (by decide) (by decide)).trans z103_0
              have mm53 := (th_F_o hf hbn3 ro_39 (j := 2) (by decide) (by decide)).trans mx50
              replace hF := hF.trans (congrArg (dv_k (f_X5_readTest_8b d (f_X5_readPlain d))) (dv_bn2 (z119_0)))
              refine W.eq (g2 := F0 m 122 ls []) rfl ?_
              exact jn122 H119 locs ls j8_1 hB hR (lv_sub hl [2, 4, 3] rfl) hF (by omega) (by omega) mm52
            · replace hF := hF.trans (congrArg (dv_k (f_X5_readTest_8b d (f_X5_readPlain d))) (if_neg c44))
              refine lv_aload_n hx hb dX5_readTest_47 rfl (lv_at hl 1 rfl) ?_
              refine th_getK hC cf_X5 hB.1 h0 ro_20 rfl (j := 3) (by decide) mm37 kf_X5_22 dX5_readTest_48 ?_
              replace hF := hF.trans (congrArg (dv_k (f_X5_readTest_8b d (f_X5_readPlain d))) (dv_bn (dv_getR h0 ro_20 (j := 3) rfl mm37 (by decide))))
              refine lv_iload_n hx hb dX5_readTest_51 rfl (lv_at hl 2 rfl) ?_
              refine lv_aload_n hx hb dX5_readTest_52 rfl (lv_at hl 1 rfl) ?_
              refine th_getK hC cf_X5 hB.1 h0 ro_20 rfl (j := 3) (by decide) mm37 kf_X5_22 dX5_readTest_53 ?_
              replace hF := hF.trans (congrArg (dv_k (f_X5_readTest_8b d (f_X5_readPlain d))) (dv_bn (dv_getR h0 ro_20 (j := 3) rfl mm37 (by decide))))
              refine th_getI (j := 2) hC cf_X10 hB.1 hbn3 ro_39 rfl rfl kf_X5_174 dX5_readTest_56 (fun x54 mx54 lx54 ux54 => ?_)
              replace hF := hF.trans (congrArg (dv_k (f_X5_readTest_8b d (f_X5_readPlain d))) (dv_bn (dv_getI hbn3 ro_39 (j := 2) rfl mx54 (by decide))))
              refine th_call (th_runV (As := [.int j8_1, .int x54]) (rest := []) hC mf_X10_setCode km_X5_189 im_X10_setCode se_X10_setCode (c_X10_setCode l G Γ H39 hB.1 hR.1 hU bn3 hbn3 j8_1 x54 (by omega)) rfl rfl ⟨by dsimp only; omega, by dsimp only; omega⟩ hB.1 hbn3 ro_39 rfl rfl hl.1 rfl (Nat.le_of_ble_eq_true rfl) dX5_readTest_59 ⟨Nat.le_refl _, Nat.le_refl _⟩) hB.2.1 (fun v59 H59 locs hp hz hS => ?_)
              have hRD := hR
              obtain ⟨rfl, hI1, hf, hR, z59_0⟩ := hp
              have hR := th_RD_c hR hRD hf (by decide)
              have hB := th_B_c hB hI1 hS hf (by decide)
              have mm55 := (th_F_o hf h0 ro_20 (j := 7) (by decide) (by decide)).trans mm36
              have mm56 := (th_F_o hf h0 ro_20 (j := 3) (by decide) (by decide)).trans mm37
              have mm57 := (th_F_o hf hbn3 ro_39 (j := 2) (by decide) (by decide)).trans mx54
              replace hF := hF.trans (congrArg (dv_k (f_X5_readTest_8b d (f_X5_readPlain d))) (dv_bn2 (z59_0)))
              refine W.eq (g2 := F0 m 62 ls []) rfl ?_
              refine lv_aload_n hx hb dX5_readTest_62 rfl (lv_at hl 1 rfl) ?_
              refine th_getK hC cf_X5 hB.1 h0 ro_20 rfl (j := 3) (by decide) mm56 kf_X5_22 dX5_readTest_63 ?_
              replace hF := hF.trans (congrArg (dv_k (f_X5_readTest_8b d (f_X5_readPlain d))) (dv_bn (dv_getR h0 ro_20 (j := 3) rfl mm56 (by decide))))
              refine lv_sipush (v := 3010) hx hb dX5_readTest_66 (by decide) ?_
              refine th_call (th_runV (As := [.int 3010]) (rest := []) hC mf_X10_addJump km_X5_192 im_X10_addJump se_X10_addJump (c_X10_addJump l G Γ H59 hB.1 hR.1 hU bn3 hbn3 3010 (by decide)) rfl rfl ⟨by dsimp only; omega, by dsimp only; omega⟩ hB.1 hbn3 ro_39 rfl rfl hl.1 rfl (Nat.le_of_ble_eq_true rfl) dX5_readTest_69 ⟨Nat.le_refl _, Nat.le_refl _⟩) hB.2.1 (fun v69 H69 locs hp hz hS => ?_)
              have hRD := hR
              obtain ⟨x58, rfl, lx58, ux58, hI1, hf, hR, z69_0⟩ := hp
              have hR := th_RD_c hR hRD hf (by decide)
              have hB := th_B_c hB hI1 hS hf (by decide)
              have mm59 := (th_F_o hf h0 ro_20 (j := 7) (by decide) (by decide)).trans mm55
              have mm60 := (th_F_o hf h0 ro_20 (j := 3) (by decide) (by decide)).trans mm56
              have zf69 := z69_0
              rw [tk_3010] at zf69
              replace hF := hF.trans (congrArg (dv_k (f_X5_readTest_8b d (f_X5_readPlain d))) (dv_bn2 (zf69)))
              refine W.eq (g2 := F0 m 72 ls [.int x58]) rfl ?_
              refine lv_istore_n (lv' := [(1, .int x58), (3, .int x35), (0, .ref a0), (2, .int j8_2)]) hx hb dX5_readTest_72 rfl hl (by decide) rfl (fun ls hl => ?_)
              refine lv_aload_n hx hb dX5_readTest_73 rfl (lv_at hl 2 rfl) ?_
              refine th_call (th_runV (As := []) (rest := []) hC mf_X5_readPlain km_X5_183 im_X5_readPlain se_X5_readPlain (ihp l G Γ H69 hB.1 hR hU a0 h0 ⟨_, mm60, hbn3⟩ bv mm59 (by omega) (by omega)) rfl rfl ⟨by dsimp only; omega, by dsimp only; omega⟩ hB.1 h0 ro_20 rfl rfl hl.1 rfl (Nat.le_of_ble_eq_true rfl) dX5_readTest_74 ⟨Nat.le_refl _, Nat.le_refl _⟩) hB.2.1 (fun v74 H74 locs hp hz hS => ?_)
              obtain ⟨rfl, hI1, hf, hR, z74_0, z74_1⟩ := hp
              have hB := th_B_c hB hI1 hS hf (by decide)
              have mm61 := (th_F_o hf h0 ro_20 (j := 3) (by decide) (by decide)).trans mm60
              replace hF := hF.trans (congrArg (dv_k (f_X5_readTest_8b d (f_X5_readPlain d))) (dv_bn2 (z74_1)))
              refine W.eq (g2 := F0 m 77 ls []) rfl ?_
              refine lv_goto (tgt := 122) hx hb dX5_readTest_77 (by decide) ?_
              exact jn122 H74 locs ls x58 hB hR (lv_sub hl [2, 3, 0] rfl) hF (by omega) (by omega) z74_0
  exact lp8 ((2147483648 : Int) - (0)).toNat H1 locs ls (-1) 0 hB hR (lv_sub hl [2, 1, 0] rfl) (by rw [tk_m1, tk_0]; exact hF) (by decide) (by decide) (by decide) (by decide) z1_0 (by have w0 := tk_0; have w1 := tk_m1; omega)

theorem c_X5_readTest_d (d : Nat) : s_X5_readTest d := by
  induction d with
  | zero => exact c_X5_readTest_s 0 (c_X5_readPlain_s 0 (fun d' h => absurd h (by omega)))
  | succ d ih => exact c_X5_readTest_s (d + 1) (c_X5_readPlain_s (d + 1) (fun d' h => by cases h; exact ih))
theorem c_X5_readPlain_d (d : Nat) : s_X5_readPlain d := c_X5_readPlain_s d (fun d' _ => c_X5_readTest_d d')

theorem c_X5_readPlain (l : Launch) (G : th_G) (Γ : th_Ga) (H0 : Heap) (hI : th_I G Γ H0) (hR : th_RD G Γ H0) (hU : dv_U Γ) (a0 : Nat) (h0 : Γ a0 = (20, 0)) (nn3 : ∃ b : Nat, th_sl H0 a0 (G.1.2 5 3) = .ref b ∧ Γ b = (39, 0)) (bv : Int32) (mbv : th_sl H0 a0 (G.1.2 5 7) = .int bv) (nbv : 0 ≤ bv.toInt) (hlo : 0 ≤ bv.toInt) : Met l yX5_readPlain (.code yX5_readPlain cX5_readPlain 3 (none) :: th_tb) ({ frames := 42, cells := 0, slots := 0, locals := 1268 } : Room) (th_P [.ref a0] G H0) (th_Q (fun (v : Option Value) (H1 : Heap) => v = none ∧ th_I G Γ H1 ∧ th_F G Γ [(20, 5), (20, 6), (20, 7), (20, 8), (40, 0), (39, 2)] H0 H1 ∧ th_RD G Γ H1 ∧ (th_sl H1 a0 (G.1.2 5 7) = .int bv) ∧ (f_X5_readPlain 8 (dv G Γ H0) (a0 : Int) = (dv G Γ H1, 0))) G) 0 0 (fun q => G.2.2 ≤ q) := c_X5_readPlain_d 8 l G Γ H0 hI hR hU a0 h0 nn3 bv mbv nbv (by omega)

theorem c_X5_readTest (l : Launch) (G : th_G) (Γ : th_Ga) (H0 : Heap) (hI : th_I G Γ H0) (hR : th_RD G Γ H0) (hU : dv_U Γ) (a0 : Nat) (h0 : Γ a0 = (20, 0)) (nn3 : ∃ b : Nat, th_sl H0 a0 (G.1.2 5 3) = .ref b ∧ Γ b = (39, 0)) (bv : Int32) (mbv : th_sl H0 a0 (G.1.2 5 7) = .int bv) (nbv : 0 ≤ bv.toInt) (hlo : 0 ≤ bv.toInt) : Met l yX5_readTest (.code yX5_readTest cX5_readTest 5 (none) :: th_tb) ({ frames := 43, cells := 0, slots := 0, locals := 1290 } : Room) (th_P [.ref a0] G H0) (th_Q (fun (v : Option Value) (H1 : Heap) => v = none ∧ th_I G Γ H1 ∧ th_F G Γ [(20, 5), (20, 6), (20, 7), (20, 8), (40, 0), (39, 2)] H0 H1 ∧ th_RD G Γ H1 ∧ (th_sl H1 a0 (G.1.2 5 7) = .int bv) ∧ (f_X5_readTest 8 (dv G Γ H0) (a0 : Int) = (dv G Γ H1, 0))) G) 0 0 (fun q => G.2.2 ≤ q) := c_X5_readTest_d 8 l G Γ H0 hI hR hU a0 h0 nn3 bv mbv nbv (by omega)
