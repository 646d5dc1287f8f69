section
def s_X5_readPlain (d : Nat) : Prop := ∀ (l : Launch) (G : th_G) (Γ : th_Ga) (H0 : Heap) (hI : th_I G Γ H0) (hR : th_RD G Γ H0) (hU : dv_U Γ) (a0 : Nat) (h0 : Γ a0 = (20, 0)) (nn3 : ∃ b : Nat, th_sl H0 a0 (G.1.1.2 5 3) = .ref b ∧ Γ b = (39, 0)) (bv : Int32) (mbv : th_sl H0 a0 (G.1.1.2 5 7) = .int bv) (nbv : 0 ≤ bv.toInt) (hdm : 8 ≤ bv.toInt + (d : Int)), Met l yX5_readPlain (.code yX5_readPlain cX5_readPlain 3 (none) :: th_tb) ({ frames := 26 + 2 * d, cells := 0, slots := 0, locals := 900 + d * 46 } : Room) (th_P [.ref a0] G H0) (th_Q (fun (v : Option Value) (H1 : Heap) => v = none ∧ th_I G Γ H1 ∧ th_F G Γ [(20, 5), (20, 6), (20, 7), (20, 8), (40, 0), (39, 2)] H0 H1 ∧ th_RD G Γ H1 ∧ (th_sl H1 a0 (G.1.1.2 5 7) = .int bv) ∧ (f_X5_readPlain d (dv G Γ H0) (a0 : Int) = (dv G Γ H1, 0))) G) 0 0 (fun q => G.1.2.2 ≤ q)

def s_X5_readTest (d : Nat) : Prop := ∀ (l : Launch) (G : th_G) (Γ : th_Ga) (H0 : Heap) (hI : th_I G Γ H0) (hR : th_RD G Γ H0) (hU : dv_U Γ) (a0 : Nat) (h0 : Γ a0 = (20, 0)) (nn3 : ∃ b : Nat, th_sl H0 a0 (G.1.1.2 5 3) = .ref b ∧ Γ b = (39, 0)) (bv : Int32) (mbv : th_sl H0 a0 (G.1.1.2 5 7) = .int bv) (nbv : 0 ≤ bv.toInt) (hdm : 8 ≤ bv.toInt + (d : Int)), Met l yX5_readTest (.code yX5_readTest cX5_readTest 5 (none) :: th_tb) ({ frames := 27 + 2 * d, cells := 0, slots := 0, locals := 922 + d * 46 } : Room) (th_P [.ref a0] G H0) (th_Q (fun (v : Option Value) (H1 : Heap) => v = none ∧ th_I G Γ H1 ∧ th_F G Γ [(20, 5), (20, 6), (20, 7), (20, 8), (40, 0), (39, 2)] H0 H1 ∧ th_RD G Γ H1 ∧ (th_sl H1 a0 (G.1.1.2 5 7) = .int bv) ∧ (f_X5_readTest d (dv G Γ H0) (a0 : Int) = (dv G Γ H1, 0))) G) 0 0 (fun q => G.1.2.2 ≤ q)

set_option maxHeartbeats 4000000 in
set_option maxRecDepth 100000 in
theorem c_X5_readPlain_s (d : Nat) (ihd : ∀ d', d = d' + 1 → s_X5_readTest d') : s_X5_readPlain d := by
  intro l G Γ H0 hI hR hU a0 h0 nn3 bv mbv nbv hdm
  refine th_met RX5 (by decide) rfl (Nat.le_of_ble_eq_true rfl) ?_
  intro p e s m below meth c hC hH hr hlocks hnm ls hl
  have hx := hC.1
  have hb := hC.2.1
  have hB : th_B G Γ Γ [(20, 5), (20, 6), (20, 7), (20, 8), (40, 0), (39, 2)] H0 H0 [] := ⟨hI, va_S.rf, th_F_rf⟩
  have hl : lv_has ls 3 [(0, .ref a0)] := hl
  have lbv := ti_lo bv; have ubv := ti_hi bv
  obtain ⟨bn3, mbn3, hbn3⟩ := nn3
  obtain ⟨F, hF0⟩ : ∃ F, F = f_X5_readPlain d (dv G Γ H0) ((a0 : Int)) := ⟨_, rfl⟩
  have hF := hF0.trans ((f_X5_readPlain_d d (dv G Γ H0) ((a0 : Int))).trans (f_X5_readPlain_B.eq_1 d (dv_pre (fun _ _ => dv_z) f_X5_readTest d) (dv G Γ H0) ((a0 : Int))))
  refine lv_iconst (v := 0) hx hb gX5_readPlain_0.1 (by decide) ?_
  refine lv_istore_n (lv' := [(1, .int 0), (0, .ref a0)]) hx hb gX5_readPlain_0.2.1 rfl hl (by decide) rfl (fun ls hl => ?_)
  refine lv_iconst (v := 0) hx hb gX5_readPlain_0.2.2.1 (by decide) ?_
  refine lv_istore_n (lv' := [(2, .int 0), (1, .int 0), (0, .ref a0)]) hx hb gX5_readPlain_0.2.2.2.1 rfl hl (by decide) rfl (fun ls hl => ?_)
  have lp4 : ∀ (n4 : Nat) (H4 : Heap) (locs : List Loc) (ls : Array Slot) (j4_1 : Int32) (j4_2 : Int32), th_B G Γ Γ [(20, 5), (20, 6), (20, 7), (20, 8), (40, 0), (39, 2)] H0 H4 locs → th_RD G Γ H4 → lv_has ls 3 [(0, .ref a0), (1, .int j4_1), (2, .int j4_2)] → F = dv_lp (f_X5_readPlain_4b d (dv_pre (fun _ _ => dv_z) f_X5_readTest d)) (dv G Γ H4, (a0 : Int), j4_1.toInt, j4_2.toInt) → 0 ≤ j4_1.toInt → j4_1.toInt ≤ 1 → 0 ≤ j4_2.toInt → j4_2.toInt ≤ 400 → th_sl H4 a0 (G.1.1.2 5 7) = .int bv → (2147483648 : Int) - j4_2.toInt ≤ (n4 : Int) → W p l e ({ frames := 26 + 2 * d, cells := 0, slots := 0, locals := 900 + d * 46 } : Room) s m ([.ref a0] : List Value).toArray below meth c H4 locs 0 0 (MQ below (th_Q (fun (v : Option Value) (H1 : Heap) => v = none ∧ th_I G Γ H1 ∧ th_F G Γ [(20, 5), (20, 6), (20, 7), (20, 8), (40, 0), (39, 2)] H0 H1 ∧ th_RD G Γ H1 ∧ (th_sl H1 a0 (G.1.1.2 5 7) = .int bv) ∧ (f_X5_readPlain d (dv G Γ H0) (a0 : Int) = (dv G Γ H1, 0))) G) ([.ref a0] : List Value).toArray s 0 0 (fun q => G.1.2.2 ≤ q)) (F0 m 4 ls []) := by
    intro n4
    induction n4 with
    | zero => intro H4 locs ls j4_1 j4_2 hB hR hl hF g4_0 g4_1 g4_2 g4_3 g4_4 hm4; exact absurd hm4 (by have := ti_hi j4_2; omega)
    | succ n4 ih4 =>
      intro H4 locs ls j4_1 j4_2 hB hR hl hF g4_0 g4_1 g4_2 g4_3 g4_4 hm4
      have lj4_1 := ti_lo j4_1; have uj4_1 := ti_hi j4_1
      have lj4_2 := ti_lo j4_2; have uj4_2 := ti_hi j4_2
      have mm1 := (th_F_o hB.2.2 h0 ro_20 (j := 3) (by decide) (by decide)).trans mbn3
      have hm4 : (2147483648 : Int) - j4_2.toInt ≤ (n4 : Int) + 1 := by omega
      replace hF := hF.trans (dv_lp_eq)
      replace hF := hF.trans (congrArg (dv_k (f_X5_readPlain_4b d (dv_pre (fun _ _ => dv_z) f_X5_readTest d))) (f_X5_readPlain_4c.eq_1 d (dv_pre (fun _ _ => dv_z) f_X5_readTest d) (dv G Γ H4) ((a0 : Int)) (j4_1.toInt) (j4_2.toInt)))
      refine lv_iload_n hx hb gX5_readPlain_0.2.2.2.2.1 rfl (lv_at hl 2 rfl) ?_
      refine lv_sipush (v := 400) hx hb gX5_readPlain_0.2.2.2.2.2.1 (by decide) ?_
      have jn37 : ∀ (H37 : Heap) (locs : List Loc) (ls : Array Slot) , th_B G Γ Γ [(20, 5), (20, 6), (20, 7), (20, 8), (40, 0), (39, 2)] H0 H37 locs → th_RD G Γ H37 → lv_has ls 3 [(0, .ref a0), (1, .int j4_1)] → F = dv_k (f_X5_readPlain_4b d (dv_pre (fun _ _ => dv_z) f_X5_readTest d)) (f_X5_readPlain_37 d (dv_pre (fun _ _ => dv_z) f_X5_readTest d) (dv G Γ H37) ((a0 : Int)) (j4_1.toInt)) → th_sl H37 a0 (G.1.1.2 5 7) = .int bv → W p l e ({ frames := 26 + 2 * d, cells := 0, slots := 0, locals := 900 + d * 46 } : Room) s m ([.ref a0] : List Value).toArray below meth c H37 locs 0 0 (MQ below (th_Q (fun (v : Option Value) (H1 : Heap) => v = none ∧ th_I G Γ H1 ∧ th_F G Γ [(20, 5), (20, 6), (20, 7), (20, 8), (40, 0), (39, 2)] H0 H1 ∧ th_RD G Γ H1 ∧ (th_sl H1 a0 (G.1.1.2 5 7) = .int bv) ∧ (f_X5_readPlain d (dv G Γ H0) (a0 : Int) = (dv G Γ H1, 0))) G) ([.ref a0] : List Value).toArray s 0 0 (fun q => G.1.2.2 ≤ q)) (F0 m 37 ls []) := by
        intro H37 locs ls hB hR hl hF g37_0
        have mm2 := (th_F_o hB.2.2 h0 ro_20 (j := 3) (by decide) (by decide)).trans mbn3
        replace hF := hF.trans (congrArg (dv_k (f_X5_readPlain_4b d (dv_pre (fun _ _ => dv_z) f_X5_readTest d))) (f_X5_readPlain_37.eq_1 d (dv_pre (fun _ _ => dv_z) f_X5_readTest d) (dv G Γ H37) ((a0 : Int)) (j4_1.toInt)))
        refine lv_aload_n hx hb gX5_readPlain_2.2.2.2.1 rfl (lv_at hl 0 rfl) ?_
        refine th_call (th_runV (As := []) (rest := []) hC mf_X5_seenToken km_X5_186 im_X5_seenToken se_X5_seenToken (c_X5_seenToken l G Γ H37 hB.1 hR hU a0 h0) rfl rfl ⟨by dsimp only; omega, by dsimp only; omega⟩ hB.1 h0 ro_20 rfl rfl hl.1 rfl (Nat.le_of_ble_eq_true rfl) gX5_readPlain_2.2.2.2.2.1 ⟨Nat.le_refl _, Nat.le_refl _⟩) hB.2.1 (fun v38 H38 locs hp hz hS => ?_)
        obtain ⟨x3, rfl, q38_0, q38_1, rfl⟩ := hp
        have hB := th_B_s hB hS
        replace hF := hF.trans (congrArg (dv_k (f_X5_readPlain_4b d (dv_pre (fun _ _ => dv_z) f_X5_readTest d))) (dv_bn2 (q38_1)))
        refine W.eq (g2 := F0 m 41 ls [.int x3]) rfl ?_
        refine lv_bipush (v := 40) hx hb gX5_readPlain_2.2.2.2.2.2.1 (by decide) ?_
        have jn156 : ∀ (H156 : Heap) (locs : List Loc) (ls : Array Slot) , th_B G Γ Γ [(20, 5), (20, 6), (20, 7), (20, 8), (40, 0), (39, 2)] H0 H156 locs → th_RD G Γ H156 → lv_has ls 3 [(0, .ref a0), (1, .int j4_1)] → F = dv_k (f_X5_readPlain_4b d (dv_pre (fun _ _ => dv_z) f_X5_readTest d)) (f_X5_readPlain_156 d (dv_pre (fun _ _ => dv_z) f_X5_readTest d) (dv G Γ H156) ((a0 : Int)) (j4_1.toInt)) → th_sl H156 a0 (G.1.1.2 5 7) = .int bv → W p l e ({ frames := 26 + 2 * d, cells := 0, slots := 0, locals := 900 + d * 46 } : Room) s m ([.ref a0] : List Value).toArray below meth c H156 locs 0 0 (MQ below (th_Q (fun (v : Option Value) (H1 : Heap) => v = none ∧ th_I G Γ H1 ∧ th_F G Γ [(20, 5), (20, 6), (20, 7), (20, 8), (40, 0), (39, 2)] H0 H1 ∧ th_RD G Γ H1 ∧ (th_sl H1 a0 (G.1.1.2 5 7) = .int bv) ∧ (f_X5_readPlain d (dv G Γ H0) (a0 : Int) = (dv G Γ H1, 0))) G) ([.ref a0] : List Value).toArray s 0 0 (fun q => G.1.2.2 ≤ q)) (F0 m 156 ls []) := by
          intro H156 locs ls hB hR hl hF g156_0
          have mm4 := (th_F_o hB.2.2 h0 ro_20 (j := 3) (by decide) (by decide)).trans mbn3
          replace hF := hF.trans (congrArg (dv_k (f_X5_readPlain_4b d (dv_pre (fun _ _ => dv_z) f_X5_readTest d))) (f_X5_readPlain_156.eq_1 d (dv_pre (fun _ _ => dv_z) f_X5_readTest d) (dv G Γ H156) ((a0 : Int)) (j4_1.toInt)))
          refine lv_iload_n hx hb gX5_readPlain_9.2.2.2.1 rfl (lv_at hl 1 rfl) ?_
          refine tr_if_eq (tgt := 170) hx hb gX5_readPlain_9.2.2.2.2.1 (by decide) (Eq.refl _) (fun c157 => ?_) (fun c157 => ?_)
          · replace hF := hF.trans (congrArg (dv_k (f_X5_readPlain_4b d (dv_pre (fun _ _ => dv_z) f_X5_readTest d))) (if_pos c157))
            replace hF := hF.trans (dv_kr)
            exact th_vret hC hH hr hlocks hB.2.1 ⟨rfl, hB.1, hB.2.2, hR, g156_0, (hF0.symm.trans hF)⟩ gX5_readPlain_10.2
          · replace hF := hF.trans (congrArg (dv_k (f_X5_readPlain_4b d (dv_pre (fun _ _ => dv_z) f_X5_readTest d))) (if_neg c157))
            refine lv_aload_n hx hb gX5_readPlain_9.2.2.2.2.2.1 rfl (lv_at hl 0 rfl) ?_
            refine th_getK hC cf_X5 hB.1 h0 ro_20 rfl (j := 3) (by decide) mm4 kf_X5_22 gX5_readPlain_9.2.2.2.2.2.2.1 ?_
            replace hF := hF.trans (congrArg (dv_k (f_X5_readPlain_4b d (dv_pre (fun _ _ => dv_z) f_X5_readTest d))) (dv_bn (dv_getR h0 ro_20 (j := 3) rfl mm4 (by decide))))
            refine lv_sipush (v := 3008) hx hb gX5_readPlain_9.2.2.2.2.2.2.2 (by decide) ?_
            refine th_call (th_runV (As := [.int 3008]) (rest := []) hC mf_X10_add km_X5_199 im_X10_add se_X10_add (c_X10_add l G Γ H156 hB.1 hR.1 hU bn3 hbn3 3008 (by decide)) rfl rfl ⟨by dsimp only; omega, by dsimp only; omega⟩ hB.1 hbn3 ro_39 rfl rfl hl.1 rfl (Nat.le_of_ble_eq_true rfl) gX5_readPlain_10.1 ⟨Nat.le_refl _, Nat.le_refl _⟩) hB.2.1 (fun v167 H167 locs hp hz hS => ?_)
            have hRD := hR
            obtain ⟨rfl, hI1, hf, hR, z167_0⟩ := hp
            have hR := th_RD_c hR hRD hf (by decide)
            have hB := th_B_c hB hI1 hS hf (by decide)
            have mm5 := (th_F_o hf h0 ro_20 (j := 7) (by decide) (by decide)).trans g156_0
            have mm6 := (th_F_o hf h0 ro_20 (j := 3) (by decide) (by decide)).trans mm4
            have zf167 := z167_0
            rw [tk_3008] at zf167
            replace hF := hF.trans (congrArg (dv_k (f_X5_readPlain_4b d (dv_pre (fun _ _ => dv_z) f_X5_readTest d))) (dv_bn2 (zf167)))
            refine W.eq (g2 := F0 m 170 ls []) rfl ?_
            replace hF := hF.trans (dv_kr)
            exact th_vret hC hH hr hlocks hB.2.1 ⟨rfl, hB.1, hB.2.2, hR, mm5, (hF0.symm.trans hF)⟩ gX5_readPlain_10.2
        refine tr_icmp_ne (tgt := 83) hx hb gX5_readPlain_2.2.2.2.2.2.2.1 (by decide) (Eq.refl _) tk_40 (fun c43 => ?_) (fun c43 => ?_)
        · replace hF := hF.trans (congrArg (dv_k (f_X5_readPlain_4b d (dv_pre (fun _ _ => dv_z) f_X5_readTest d))) (if_pos c43))
          refine lv_aload_n hx hb gX5_readPlain_5.2.1 rfl (lv_at hl 0 rfl) ?_
          refine th_call (th_runV (As := []) (rest := []) hC mf_X5_readSum km_X5_180 im_X5_readSum se_X5_readSum (c_X5_readSum l G Γ H37 hB.1 hR hU a0 h0 ⟨_, mm2, hbn3⟩ bv g37_0 (by omega)) rfl rfl ⟨by dsimp only; omega, by dsimp only; omega⟩ hB.1 h0 ro_20 rfl rfl hl.1 rfl (Nat.le_of_ble_eq_true rfl) gX5_readPlain_5.2.2.1 ⟨Nat.le_refl _, Nat.le_refl _⟩) hB.2.1 (fun v84 H84 locs hp hz hS => ?_)
          obtain ⟨rfl, hI1, hf, hR, z84_0, z84_1⟩ := hp
          have hB := th_B_c hB hI1 hS hf (by decide)
          have mm7 := (th_F_o hf h0 ro_20 (j := 3) (by decide) (by decide)).trans mm2
          replace hF := hF.trans (congrArg (dv_k (f_X5_readPlain_4b d (dv_pre (fun _ _ => dv_z) f_X5_readTest d))) (dv_bn2 (z84_1)))
          refine W.eq (g2 := F0 m 87 ls []) rfl ?_
          refine lv_aload_n hx hb gX5_readPlain_5.2.2.2.1 rfl (lv_at hl 0 rfl) ?_
          refine lv_bipush (v := 60) hx hb gX5_readPlain_5.2.2.2.2.1 (by decide) ?_
          refine th_call (th_runV (As := [.int 60]) (rest := []) hC mf_X5_take km_X5_54 im_X5_take se_X5_take (c_X5_take l G Γ H84 hB.1 hR hU a0 h0 60 (by decide)) rfl rfl ⟨by dsimp only; omega, by dsimp only; omega⟩ hB.1 h0 ro_20 rfl rfl hl.1 rfl (Nat.le_of_ble_eq_true rfl) gX5_readPlain_5.2.2.2.2.2.1 ⟨Nat.le_refl _, Nat.le_refl _⟩) hB.2.1 (fun v90 H90 locs hp hz hS => ?_)
          obtain ⟨x8, rfl, lx8, ux8, hI1, hf, hR, z90_0, z90_1⟩ := hp
          have hB := th_B_c hB hI1 hS hf (by decide)
          have mm9 := (th_F_o hf h0 ro_20 (j := 3) (by decide) (by decide)).trans mm7
          have mm10 := (th_F_o hf h0 ro_20 (j := 7) (by decide) (by decide)).trans z84_0
          have zf90 := z90_1
          rw [tk_60] at zf90
          replace hF := hF.trans (congrArg (dv_k (f_X5_readPlain_4b d (dv_pre (fun _ _ => dv_z) f_X5_readTest d))) (dv_bn2 (zf90)))
          refine W.eq (g2 := F0 m 93 ls [.int x8]) rfl ?_
          have jn133 : ∀ (H133 : Heap) (locs : List Loc) (ls : Array Slot) (s133_0 : Int32), th_B G Γ Γ [(20, 5), (20, 6), (20, 7), (20, 8), (40, 0), (39, 2)] H0 H133 locs → th_RD G Γ H133 → lv_has ls 3 [(0, .ref a0), (1, .int j4_1)] → F = dv_k (f_X5_readPlain_4b d (dv_pre (fun _ _ => dv_z) f_X5_readTest d)) (f_X5_readPlain_133 d (dv_pre (fun _ _ => dv_z) f_X5_readTest d) (dv G Γ H133) ((a0 : Int)) (j4_1.toInt) (s133_0.toInt)) → (-1) ≤ s133_0.toInt → s133_0.toInt ≤ 3007 → th_sl H133 a0 (G.1.1.2 5 7) = .int bv → W p l e ({ frames := 26 + 2 * d, cells := 0, slots := 0, locals := 900 + d * 46 } : Room) s m ([.ref a0] : List Value).toArray below meth c H133 locs 0 0 (MQ below (th_Q (fun (v : Option Value) (H1 : Heap) => v = none ∧ th_I G Γ H1 ∧ th_F G Γ [(20, 5), (20, 6), (20, 7), (20, 8), (40, 0), (39, 2)] H0 H1 ∧ th_RD G Γ H1 ∧ (th_sl H1 a0 (G.1.1.2 5 7) = .int bv) ∧ (f_X5_readPlain d (dv G Γ H0) (a0 : Int) = (dv G Γ H1, 0))) G) ([.ref a0] : List Value).toArray s 0 0 (fun q => G.1.2.2 ≤ q)) (F0 m 133 ls [.int s133_0]) := by
            intro H133 locs ls s133_0 hB hR hl hF g133_0 g133_1 g133_2
            have ls133_0 := ti_lo s133_0; have us133_0 := ti_hi s133_0
            have mm11 := (th_F_o hB.2.2 h0 ro_20 (j := 3) (by decide) (by decide)).trans mbn3
            replace hF := hF.trans (congrArg (dv_k (f_X5_readPlain_4b d (dv_pre (fun _ _ => dv_z) f_X5_readTest d))) (f_X5_readPlain_133.eq_1 d (dv_pre (fun _ _ => dv_z) f_X5_readTest d) (dv G Γ H133) ((a0 : Int)) (j4_1.toInt) (s133_0.toInt)))
            refine lv_istore_n (lv' := [(2, .int s133_0), (0, .ref a0), (1, .int j4_1)]) hx hb gX5_readPlain_7.2.2.2.2.2.2.1 rfl hl (by decide) rfl (fun ls hl => ?_)
            refine lv_iload_n hx hb gX5_readPlain_7.2.2.2.2.2.2.2 rfl (lv_at hl 0 rfl) ?_
            refine lv_iconst (v := (-1)) hx hb gX5_readPlain_8.1 (by decide) ?_
            refine tr_icmp_ne (tgt := 144) hx hb gX5_readPlain_8.2.1 (by decide) (Eq.refl _) tk_m1 (fun c136 => ?_) (fun c136 => ?_)
            · replace hF := hF.trans (congrArg (dv_k (f_X5_readPlain_4b d (dv_pre (fun _ _ => dv_z) f_X5_readTest d))) (if_pos c136))
              refine lv_aload_n hx hb gX5_readPlain_8.2.2.2.2.2.1 rfl (lv_at hl 1 rfl) ?_
              refine th_call (th_runV (As := []) (rest := []) hC mf_X5_readSum km_X5_180 im_X5_readSum se_X5_readSum (c_X5_readSum l G Γ H133 hB.1 hR hU a0 h0 ⟨_, mm11, hbn3⟩ bv g133_2 (by omega)) rfl rfl ⟨by dsimp only; omega, by dsimp only; omega⟩ hB.1 h0 ro_20 rfl rfl hl.1 rfl (Nat.le_of_ble_eq_true rfl) gX5_readPlain_8.2.2.2.2.2.2.1 ⟨Nat.le_refl _, Nat.le_refl _⟩) hB.2.1 (fun v145 H145 locs hp hz hS => ?_)
              obtain ⟨rfl, hI1, hf, hR, z145_0, z145_1⟩ := hp
              have hB := th_B_c hB hI1 hS hf (by decide)
              have mm12 := (th_F_o hf h0 ro_20 (j := 3) (by decide) (by decide)).trans mm11
              replace hF := hF.trans (congrArg (dv_k (f_X5_readPlain_4b d (dv_pre (fun _ _ => dv_z) f_X5_readTest d))) (dv_bn2 (z145_1)))
              refine W.eq (g2 := F0 m 148 ls []) rfl ?_
              refine lv_aload_n hx hb gX5_readPlain_8.2.2.2.2.2.2.2 rfl (lv_at hl 1 rfl) ?_
              refine th_getK hC cf_X5 hB.1 h0 ro_20 rfl (j := 3) (by decide) mm12 kf_X5_22 gX5_readPlain_9.1 ?_
              replace hF := hF.trans (congrArg (dv_k (f_X5_readPlain_4b d (dv_pre (fun _ _ => dv_z) f_X5_readTest d))) (dv_bn (dv_getR h0 ro_20 (j := 3) rfl mm12 (by decide))))
              refine lv_iload_n hx hb gX5_readPlain_9.2.1 rfl (lv_at hl 0 rfl) ?_
              refine th_call (th_runV (As := [.int s133_0]) (rest := []) hC mf_X10_add km_X5_199 im_X10_add se_X10_add (c_X10_add l G Γ H145 hB.1 hR.1 hU bn3 hbn3 s133_0 (by omega)) rfl rfl ⟨by dsimp only; omega, by dsimp only; omega⟩ hB.1 hbn3 ro_39 rfl rfl hl.1 rfl (Nat.le_of_ble_eq_true rfl) gX5_readPlain_9.2.2.1 ⟨Nat.le_refl _, Nat.le_refl _⟩) hB.2.1 (fun v153 H153 locs hp hz hS => ?_)
              have hRD := hR
              obtain ⟨rfl, hI1, hf, hR, z153_0⟩ := hp
              have hR := th_RD_c hR hRD hf (by decide)
              have hB := th_B_c hB hI1 hS hf (by decide)
              have mm13 := (th_F_o hf h0 ro_20 (j := 3) (by decide) (by decide)).trans mm12
              have mm14 := (th_F_o hf h0 ro_20 (j := 7) (by decide) (by decide)).trans z145_0
              replace hF := hF.trans (congrArg (dv_k (f_X5_readPlain_4b d (dv_pre (fun _ _ => dv_z) f_X5_readTest d))) (dv_bn2 (z153_0)))
              refine W.eq (g2 := F0 m 156 ls []) rfl ?_
              exact jn156 H153 locs ls hB hR (lv_sub hl [1, 2] rfl) hF mm14
            · replace hF := hF.trans (congrArg (dv_k (f_X5_readPlain_4b d (dv_pre (fun _ _ => dv_z) f_X5_readTest d))) (if_neg (not_not_intro c136)))
              refine lv_aload_n hx hb gX5_readPlain_8.2.2.1 rfl (lv_at hl 1 rfl) ?_
              refine th_call (th_runV (As := []) (rest := []) hC mf_X5_fail km_X5_58 im_X5_fail se_X5_fail (c_X5_fail l G Γ H133 hB.1 hR hU a0 h0) rfl rfl ⟨by dsimp only; omega, by dsimp only; omega⟩ hB.1 h0 ro_20 rfl rfl hl.1 rfl (Nat.le_of_ble_eq_true rfl) gX5_readPlain_8.2.2.2.1 ⟨Nat.le_refl _, Nat.le_refl _⟩) hB.2.1 (fun v140 H140 locs hp hz hS => ?_)
              obtain ⟨rfl, hI1, hf, hR, z140_0⟩ := hp
              have hB := th_B_c hB hI1 hS hf (by decide)
              have mm15 := (th_F_o hf h0 ro_20 (j := 7) (by decide) (by decide)).trans g133_2
              have mm16 := (th_F_o hf h0 ro_20 (j := 3) (by decide) (by decide)).trans mm11
              replace hF := hF.trans (congrArg (dv_k (f_X5_readPlain_4b d (dv_pre (fun _ _ => dv_z) f_X5_readTest d))) (dv_bn2 (z140_0)))
              refine W.eq (g2 := F0 m 143 ls []) rfl ?_
              replace hF := hF.trans (dv_kr)
              exact th_vret hC hH hr hlocks hB.2.1 ⟨rfl, hB.1, hB.2.2, hR, mm15, (hF0.symm.trans hF)⟩ gX5_readPlain_8.2.2.2.2.1
          refine tr_if_eq (tgt := 102) hx hb gX5_readPlain_5.2.2.2.2.2.2.1 (by decide) (Eq.refl _) (fun c93 => ?_) (fun c93 => ?_)
          · replace hF := hF.trans (congrArg (dv_k (f_X5_readPlain_4b d (dv_pre (fun _ _ => dv_z) f_X5_readTest d))) (if_pos c93))
            refine lv_aload_n hx hb gX5_readPlain_6.2.1 rfl (lv_at hl 0 rfl) ?_
            refine lv_bipush (v := 62) hx hb gX5_readPlain_6.2.2.1 (by decide) ?_
            refine th_call (th_runV (As := [.int 62]) (rest := []) hC mf_X5_take km_X5_54 im_X5_take se_X5_take (c_X5_take l G Γ H90 hB.1 hR hU a0 h0 62 (by decide)) rfl rfl ⟨by dsimp only; omega, by dsimp only; omega⟩ hB.1 h0 ro_20 rfl rfl hl.1 rfl (Nat.le_of_ble_eq_true rfl) gX5_readPlain_6.2.2.2.1 ⟨Nat.le_refl _, Nat.le_refl _⟩) hB.2.1 (fun v105 H105 locs hp hz hS => ?_)
            obtain ⟨x17, rfl, lx17, ux17, hI1, hf, hR, z105_0, z105_1⟩ := hp
            have hB := th_B_c hB hI1 hS hf (by decide)
            have mm18 := (th_F_o hf h0 ro_20 (j := 3) (by decide) (by decide)).trans mm9
            have mm19 := (th_F_o hf h0 ro_20 (j := 7) (by decide) (by decide)).trans mm10
            have zf105 := z105_1
            rw [tk_62] at zf105
            replace hF := hF.trans (congrArg (dv_k (f_X5_readPlain_4b d (dv_pre (fun _ _ => dv_z) f_X5_readTest d))) (dv_bn2 (zf105)))
            refine W.eq (g2 := F0 m 108 ls [.int x17]) rfl ?_
            refine tr_if_eq (tgt := 117) hx hb gX5_readPlain_6.2.2.2.2.1 (by decide) (Eq.refl _) (fun c108 => ?_) (fun c108 => ?_)
            · replace hF := hF.trans (congrArg (dv_k (f_X5_readPlain_4b d (dv_pre (fun _ _ => dv_z) f_X5_readTest d))) (if_pos c108))
              refine lv_aload_n hx hb gX5_readPlain_6.2.2.2.2.2.2.2 rfl (lv_at hl 0 rfl) ?_
              refine lv_bipush (v := 61) hx hb gX5_readPlain_7.1 (by decide) ?_
              refine th_call (th_runV (As := [.int 61]) (rest := []) hC mf_X5_take km_X5_54 im_X5_take se_X5_take (c_X5_take l G Γ H105 hB.1 hR hU a0 h0 61 (by decide)) rfl rfl ⟨by dsimp only; omega, by dsimp only; omega⟩ hB.1 h0 ro_20 rfl rfl hl.1 rfl (Nat.le_of_ble_eq_true rfl) gX5_readPlain_7.2.1 ⟨Nat.le_refl _, Nat.le_refl _⟩) hB.2.1 (fun v120 H120 locs hp hz hS => ?_)
              obtain ⟨x20, rfl, lx20, ux20, hI1, hf, hR, z120_0, z120_1⟩ := hp
              have hB := th_B_c hB hI1 hS hf (by decide)
              have mm21 := (th_F_o hf h0 ro_20 (j := 3) (by decide) (by decide)).trans mm18
              have mm22 := (th_F_o hf h0 ro_20 (j := 7) (by decide) (by decide)).trans mm19
              have zf120 := z120_1
              rw [tk_61] at zf120
              replace hF := hF.trans (congrArg (dv_k (f_X5_readPlain_4b d (dv_pre (fun _ _ => dv_z) f_X5_readTest d))) (dv_bn2 (zf120)))
              refine W.eq (g2 := F0 m 123 ls [.int x20]) rfl ?_
              refine tr_if_eq (tgt := 132) hx hb gX5_readPlain_7.2.2.1 (by decide) (Eq.refl _) (fun c123 => ?_) (fun c123 => ?_)
              · replace hF := hF.trans (congrArg (dv_k (f_X5_readPlain_4b d (dv_pre (fun _ _ => dv_z) f_X5_readTest d))) (if_pos c123))
                refine lv_iconst (v := (-1)) hx hb gX5_readPlain_7.2.2.2.2.2.1 (by decide) ?_
                exact jn133 H120 locs ls (-1) hB hR (lv_sub hl [0, 1] rfl) (by rw [tk_m1]; exact hF) (by decide) (by decide) mm22
              · replace hF := hF.trans (congrArg (dv_k (f_X5_readPlain_4b d (dv_pre (fun _ _ => dv_z) f_X5_readTest d))) (if_neg c123))
                refine lv_sipush (v := 3007) hx hb gX5_readPlain_7.2.2.2.1 (by decide) ?_
                refine lv_goto (tgt := 133) hx hb gX5_readPlain_7.2.2.2.2.1 (by decide) ?_
                exact jn133 H120 locs ls 3007 hB hR (lv_sub hl [0, 1] rfl) (by rw [tk_3007]; exact hF) (by decide) (by decide) mm22
            · replace hF := hF.trans (congrArg (dv_k (f_X5_readPlain_4b d (dv_pre (fun _ _ => dv_z) f_X5_readTest d))) (if_neg c108))
              refine lv_sipush (v := 3006) hx hb gX5_readPlain_6.2.2.2.2.2.1 (by decide) ?_
              refine lv_goto (tgt := 133) hx hb gX5_readPlain_6.2.2.2.2.2.2.1 (by decide) ?_
              exact jn133 H105 locs ls 3006 hB hR (lv_sub hl [0, 1] rfl) (by rw [tk_3006]; exact hF) (by decide) (by decide) mm19
          · replace hF := hF.trans (congrArg (dv_k (f_X5_readPlain_4b d (dv_pre (fun _ _ => dv_z) f_X5_readTest d))) (if_neg c93))
            refine lv_sipush (v := 3005) hx hb gX5_readPlain_5.2.2.2.2.2.2.2 (by decide) ?_
            refine lv_goto (tgt := 133) hx hb gX5_readPlain_6.1 (by decide) ?_
            exact jn133 H90 locs ls 3005 hB hR (lv_sub hl [0, 1] rfl) (by rw [tk_3005]; exact hF) (by decide) (by decide) mm10
        · replace hF := hF.trans (congrArg (dv_k (f_X5_readPlain_4b d (dv_pre (fun _ _ => dv_z) f_X5_readTest d))) (if_neg (not_not_intro c43)))
          refine lv_aload_n hx hb gX5_readPlain_2.2.2.2.2.2.2.2 rfl (lv_at hl 0 rfl) ?_
          have tk0 := q38_0 (by omega)
          refine th_call (th_runV (As := []) (rest := []) hC mf_X5_openBracket km_X5_195 im_X5_openBracket se_X5_openBracket (c_X5_openBracket l G Γ H37 hB.1 hR hU a0 h0 tk0 bv g37_0) rfl rfl ⟨by dsimp only; omega, by dsimp only; omega⟩ hB.1 h0 ro_20 rfl rfl hl.1 rfl (Nat.le_of_ble_eq_true rfl) gX5_readPlain_3.1 ⟨Nat.le_refl _, Nat.le_refl _⟩) hB.2.1 (fun v47 H47 locs hp hz hS => ?_)
          obtain ⟨x23, rfl, lx23, ux23, hI1, hf, hR, z47_0, z47_1, z47_2⟩ := hp
          have hB := th_B_c hB hI1 hS hf (by decide)
          have mm24 := (th_F_o hf h0 ro_20 (j := 3) (by decide) (by decide)).trans mm2
          replace hF := hF.trans (congrArg (dv_k (f_X5_readPlain_4b d (dv_pre (fun _ _ => dv_z) f_X5_readTest d))) (dv_bn2 (z47_2)))
          refine W.eq (g2 := F0 m 50 ls [.int x23]) rfl ?_
          refine tr_if_eq (tgt := 67) hx hb gX5_readPlain_3.2.1 (by decide) (Eq.refl _) (fun c50 => ?_) (fun c50 => ?_)
          · replace hF := hF.trans (congrArg (dv_k (f_X5_readPlain_4b d (dv_pre (fun _ _ => dv_z) f_X5_readTest d))) (if_pos c50))
            refine lv_aload_n hx hb gX5_readPlain_4.2.2.1 rfl (lv_at hl 0 rfl) ?_
            have mb2x : th_sl H47 a0 (G.1.1.2 5 7) = .int bv := by rw [z47_1 (by omega)]; exact g37_0
            refine lv_bipush (v := 41) hx hb gX5_readPlain_4.2.2.2.1 (by decide) ?_
            refine th_call (th_runV (As := [.int 41]) (rest := []) hC mf_X5_take km_X5_54 im_X5_take se_X5_take (c_X5_take l G Γ H47 hB.1 hR hU a0 h0 41 (by decide)) rfl rfl ⟨by dsimp only; omega, by dsimp only; omega⟩ hB.1 h0 ro_20 rfl rfl hl.1 rfl (Nat.le_of_ble_eq_true rfl) gX5_readPlain_4.2.2.2.2.1 ⟨Nat.le_refl _, Nat.le_refl _⟩) hB.2.1 (fun v70 H70 locs hp hz hS => ?_)
            obtain ⟨x25, rfl, lx25, ux25, hI1, hf, hR, z70_0, z70_1⟩ := hp
            have hB := th_B_c hB hI1 hS hf (by decide)
            have mm26 := (th_F_o hf h0 ro_20 (j := 3) (by decide) (by decide)).trans mm24
            have mm27 := (th_F_o hf h0 ro_20 (j := 7) (by decide) (by decide)).trans mb2x
            have zf70 := z70_1
            rw [tk_41] at zf70
            replace hF := hF.trans (congrArg (dv_k (f_X5_readPlain_4b d (dv_pre (fun _ _ => dv_z) f_X5_readTest d))) (dv_bn2 (zf70)))
            refine W.eq (g2 := F0 m 73 ls [.int x25]) rfl ?_
            refine tr_if_ne (tgt := 156) hx hb gX5_readPlain_4.2.2.2.2.2.1 (by decide) (Eq.refl _) (fun c73 => ?_) (fun c73 => ?_)
            · replace hF := hF.trans (congrArg (dv_k (f_X5_readPlain_4b d (dv_pre (fun _ _ => dv_z) f_X5_readTest d))) (if_pos c73))
              exact jn156 H70 locs ls hB hR (lv_sub hl [0, 1] rfl) hF mm27
            · replace hF := hF.trans (congrArg (dv_k (f_X5_readPlain_4b d (dv_pre (fun _ _ => dv_z) f_X5_readTest d))) (if_neg (not_not_intro c73)))
              refine lv_aload_n hx hb gX5_readPlain_4.2.2.2.2.2.2.1 rfl (lv_at hl 0 rfl) ?_
              refine th_call (th_runV (As := []) (rest := []) hC mf_X5_fail km_X5_58 im_X5_fail se_X5_fail (c_X5_fail l G Γ H70 hB.1 hR hU a0 h0) rfl rfl ⟨by dsimp only; omega, by dsimp only; omega⟩ hB.1 h0 ro_20 rfl rfl hl.1 rfl (Nat.le_of_ble_eq_true rfl) gX5_readPlain_4.2.2.2.2.2.2.2 ⟨Nat.le_refl _, Nat.le_refl _⟩) hB.2.1 (fun v77 H77 locs hp hz hS => ?_)
              obtain ⟨rfl, hI1, hf, hR, z77_0⟩ := hp
              have hB := th_B_c hB hI1 hS hf (by decide)
              have mm28 := (th_F_o hf h0 ro_20 (j := 3) (by decide) (by decide)).trans mm26
              have mm29 := (th_F_o hf h0 ro_20 (j := 7) (by decide) (by decide)).trans mm27
              replace hF := hF.trans (congrArg (dv_k (f_X5_readPlain_4b d (dv_pre (fun _ _ => dv_z) f_X5_readTest d))) (dv_bn2 (z77_0)))
              refine W.eq (g2 := F0 m 80 ls []) rfl ?_
              refine lv_goto (tgt := 156) hx hb gX5_readPlain_5.1 (by decide) ?_
              exact jn156 H77 locs ls hB hR (lv_sub hl [0, 1] rfl) hF mm29
          · replace hF := hF.trans (congrArg (dv_k (f_X5_readPlain_4b d (dv_pre (fun _ _ => dv_z) f_X5_readTest d))) (if_neg c50))
            refine lv_aload_n hx hb gX5_readPlain_3.2.2.1 rfl (lv_at hl 0 rfl) ?_
            obtain ⟨ob1, b1x, mb1x, eb1⟩ := z47_0 (by omega)
            have lb1x := ti_lo b1x; have ub1x := ti_hi b1x
            obtain ⟨d', hd'⟩ : ∃ d', d = d' + 1 := ⟨d - 1, by omega⟩
            refine th_call (th_runV (As := []) (rest := []) hC mf_X5_readTest km_X5_177 im_X5_readTest se_X5_readTest (ihd d' hd' l G Γ H47 hB.1 hR hU a0 h0 ⟨_, mm24, hbn3⟩ b1x mb1x (by omega) (by omega)) rfl rfl ⟨by dsimp only; omega, by dsimp only; omega⟩ hB.1 h0 ro_20 rfl rfl hl.1 rfl (Nat.le_of_ble_eq_true rfl) gX5_readPlain_3.2.2.2.1 ⟨Nat.le_refl _, Nat.le_refl _⟩) hB.2.1 (fun v54 H54 locs hp hz hS => ?_)
            obtain ⟨rfl, hI1, hf, hR, z54_0, z54_1⟩ := hp
            have hB := th_B_c hB hI1 hS hf (by decide)
            have mm30 := (th_F_o hf h0 ro_20 (j := 3) (by decide) (by decide)).trans mm24
            have zf54 := z54_1
            rw [← dv_pre_s (z := (fun _ _ => dv_z)) (f := f_X5_readTest) hd'] at zf54
            replace hF := hF.trans (congrArg (dv_k (f_X5_readPlain_4b d (dv_pre (fun _ _ => dv_z) f_X5_readTest d))) (dv_bn2 (zf54)))
            refine W.eq (g2 := F0 m 57 ls []) rfl ?_
            refine lv_aload_n hx hb gX5_readPlain_3.2.2.2.2.1 rfl (lv_at hl 0 rfl) ?_
            refine lv_dup hx hb gX5_readPlain_3.2.2.2.2.2.1 rfl ?_
            refine th_getK hC cf_X5 hB.1 h0 ro_20 rfl (j := 7) (by decide) z54_0 kf_X5_37 gX5_readPlain_3.2.2.2.2.2.2.1 ?_
            replace hF := hF.trans (congrArg (dv_k (f_X5_readPlain_4b d (dv_pre (fun _ _ => dv_z) f_X5_readTest d))) (dv_bn (dv_getI h0 ro_20 (j := 7) rfl z54_0 (by decide))))
            refine lv_iconst (v := 1) hx hb gX5_readPlain_3.2.2.2.2.2.2.2 (by decide) ?_
            refine tr_isub hx hb gX5_readPlain_4.1 (Eq.refl _) tk_1 (by omega) (by omega) (fun x31 ex31 => ?_)
            replace hF := hF.trans (congrArg (dv_k (f_X5_readPlain_4b d (dv_pre (fun _ _ => dv_z) f_X5_readTest d))) (dv_bn (ex31.symm)))
            refine th_put hC cf_X5 hB h0 (Or.inl h0) ro_20 rfl (j := 7) rfl th_sIa (by decide) rfl rfl rfl kf_X5_37 gX5_readPlain_4.2.1 (fun H64 locs hB hf hst64 => ?_)
            have mm32 := (th_F_o hf h0 ro_20 (j := 3) (by decide) (by decide)).trans mm30
            have hR := th_RD_F hB.1 hR hf (th_T_s h0 ro_20 hst64) (by decide)
            replace hF := hF.trans (congrArg (dv_k (f_X5_readPlain_4b d (dv_pre (fun _ _ => dv_z) f_X5_readTest d))) (dv_bn (dv_putI hB.1 h0 ro_20 (j := 7) rfl (th_apart hC cf_X5) hst64 (Eq.refl _) (by decide))))
            have mm33 := hst64.2.1
            have e29 : x31 = bv := Int32.toInt_inj.mp (by omega)
            have mb3x : th_sl H64 a0 (G.1.1.2 5 7) = .int bv := by rw [← e29]; exact mm33
            refine lv_aload_n hx hb gX5_readPlain_4.2.2.1 rfl (lv_at hl 0 rfl) ?_
            refine lv_bipush (v := 41) hx hb gX5_readPlain_4.2.2.2.1 (by decide) ?_
            refine th_call (th_runV (As := [.int 41]) (rest := []) hC mf_X5_take km_X5_54 im_X5_take se_X5_take (c_X5_take l G Γ H64 hB.1 hR hU a0 h0 41 (by decide)) rfl rfl ⟨by dsimp only; omega, by dsimp only; omega⟩ hB.1 h0 ro_20 rfl rfl hl.1 rfl (Nat.le_of_ble_eq_true rfl) gX5_readPlain_4.2.2.2.2.1 ⟨Nat.le_refl _, Nat.le_refl _⟩) hB.2.1 (fun v70 H70 locs hp hz hS => ?_)
            obtain ⟨x34, rfl, lx34, ux34, hI1, hf, hR, z70_0, z70_1⟩ := hp
            have hB := th_B_c hB hI1 hS hf (by decide)
            have mm35 := (th_F_o hf h0 ro_20 (j := 3) (by decide) (by decide)).trans mm32
            have mm36 := (th_F_o hf h0 ro_20 (j := 7) (by decide) (by decide)).trans mb3x
            have zf70 := z70_1
            rw [tk_41] at zf70
            replace hF := hF.trans (congrArg (dv_k (f_X5_readPlain_4b d (dv_pre (fun _ _ => dv_z) f_X5_readTest d))) (dv_bn2 (zf70)))
            refine W.eq (g2 := F0 m 73 ls [.int x34]) rfl ?_
            refine tr_if_ne (tgt := 156) hx hb gX5_readPlain_4.2.2.2.2.2.1 (by decide) (Eq.refl _) (fun c73 => ?_) (fun c73 => ?_)
            · replace hF := hF.trans (congrArg (dv_k (f_X5_readPlain_4b d (dv_pre (fun _ _ => dv_z) f_X5_readTest d))) (if_pos c73))
              exact jn156 H70 locs ls hB hR (lv_sub hl [0, 1] rfl) hF mm36
            · replace hF := hF.trans (congrArg (dv_k (f_X5_readPlain_4b d (dv_pre (fun _ _ => dv_z) f_X5_readTest d))) (if_neg (not_not_intro c73)))
              refine lv_aload_n hx hb gX5_readPlain_4.2.2.2.2.2.2.1 rfl (lv_at hl 0 rfl) ?_
              refine th_call (th_runV (As := []) (rest := []) hC mf_X5_fail km_X5_58 im_X5_fail se_X5_fail (c_X5_fail l G Γ H70 hB.1 hR hU a0 h0) rfl rfl ⟨by dsimp only; omega, by dsimp only; omega⟩ hB.1 h0 ro_20 rfl rfl hl.1 rfl (Nat.le_of_ble_eq_true rfl) gX5_readPlain_4.2.2.2.2.2.2.2 ⟨Nat.le_refl _, Nat.le_refl _⟩) hB.2.1 (fun v77 H77 locs hp hz hS => ?_)
              obtain ⟨rfl, hI1, hf, hR, z77_0⟩ := hp
              have hB := th_B_c hB hI1 hS hf (by decide)
              have mm37 := (th_F_o hf h0 ro_20 (j := 3) (by decide) (by decide)).trans mm35
              have mm38 := (th_F_o hf h0 ro_20 (j := 7) (by decide) (by decide)).trans mm36
              replace hF := hF.trans (congrArg (dv_k (f_X5_readPlain_4b d (dv_pre (fun _ _ => dv_z) f_X5_readTest d))) (dv_bn2 (z77_0)))
              refine W.eq (g2 := F0 m 80 ls []) rfl ?_
              refine lv_goto (tgt := 156) hx hb gX5_readPlain_5.1 (by decide) ?_
              exact jn156 H77 locs ls hB hR (lv_sub hl [0, 1] rfl) hF mm38
      refine tr_icmp_ge (tgt := 37) hx hb gX5_readPlain_0.2.2.2.2.2.2.1 (by decide) (Eq.refl _) tk_400 (fun c8 => ?_) (fun c8 => ?_)
      · replace hF := hF.trans (congrArg (dv_k (f_X5_readPlain_4b d (dv_pre (fun _ _ => dv_z) f_X5_readTest d))) (if_pos c8))
        exact jn37 H4 locs ls hB hR (lv_sub hl [0, 1] rfl) hF g4_4
      · replace hF := hF.trans (congrArg (dv_k (f_X5_readPlain_4b d (dv_pre (fun _ _ => dv_z) f_X5_readTest d))) (if_neg (Int.not_le.mpr c8)))
        refine lv_aload_n hx hb gX5_readPlain_0.2.2.2.2.2.2.2 rfl (lv_at hl 0 rfl) ?_
        refine lv_sipush (v := 314) hx hb gX5_readPlain_1.1 (by decide) ?_
        refine th_call (th_runV (As := [.int 314]) (rest := []) hC mf_X5_take km_X5_54 im_X5_take se_X5_take (c_X5_take l G Γ H4 hB.1 hR hU a0 h0 314 (by decide)) rfl rfl ⟨by dsimp only; omega, by dsimp only; omega⟩ hB.1 h0 ro_20 rfl rfl hl.1 rfl (Nat.le_of_ble_eq_true rfl) gX5_readPlain_1.2.1 ⟨Nat.le_refl _, Nat.le_refl _⟩) hB.2.1 (fun v15 H15 locs hp hz hS => ?_)
        obtain ⟨x39, rfl, lx39, ux39, hI1, hf, hR, z15_0, z15_1⟩ := hp
        have hB := th_B_c hB hI1 hS hf (by decide)
        have mm40 := (th_F_o hf h0 ro_20 (j := 7) (by decide) (by decide)).trans g4_4
        have mm41 := (th_F_o hf h0 ro_20 (j := 3) (by decide) (by decide)).trans mm1
        have zf15 := z15_1
        rw [tk_314] at zf15
        replace hF := hF.trans (congrArg (dv_k (f_X5_readPlain_4b d (dv_pre (fun _ _ => dv_z) f_X5_readTest d))) (dv_bn2 (zf15)))
        refine W.eq (g2 := F0 m 18 ls [.int x39]) rfl ?_
        refine tr_if_eq (tgt := 37) hx hb gX5_readPlain_1.2.2.1 (by decide) (Eq.refl _) (fun c18 => ?_) (fun c18 => ?_)
        · replace hF := hF.trans (congrArg (dv_k (f_X5_readPlain_4b d (dv_pre (fun _ _ => dv_z) f_X5_readTest d))) (if_pos c18))
          exact jn37 H15 locs ls hB hR (lv_sub hl [0, 1] rfl) hF mm40
        · replace hF := hF.trans (congrArg (dv_k (f_X5_readPlain_4b d (dv_pre (fun _ _ => dv_z) f_X5_readTest d))) (if_neg c18))
          refine lv_iload_n hx hb gX5_readPlain_1.2.2.2.1 rfl (lv_at hl 1 rfl) ?_
          have jn30 : ∀ (locs : List Loc) (ls : Array Slot) (s30_0 : Int32), th_B G Γ Γ [(20, 5), (20, 6), (20, 7), (20, 8), (40, 0), (39, 2)] H0 H15 locs → lv_has ls 3 [(0, .ref a0), (2, .int j4_2)] → F = dv_k (f_X5_readPlain_4b d (dv_pre (fun _ _ => dv_z) f_X5_readTest d)) (f_X5_readPlain_30 d (dv_pre (fun _ _ => dv_z) f_X5_readTest d) (dv G Γ H15) ((a0 : Int)) (j4_2.toInt) (s30_0.toInt)) → 0 ≤ s30_0.toInt → s30_0.toInt ≤ 1 → W p l e ({ frames := 26 + 2 * d, cells := 0, slots := 0, locals := 900 + d * 46 } : Room) s m ([.ref a0] : List Value).toArray below meth c H15 locs 0 0 (MQ below (th_Q (fun (v : Option Value) (H1 : Heap) => v = none ∧ th_I G Γ H1 ∧ th_F G Γ [(20, 5), (20, 6), (20, 7), (20, 8), (40, 0), (39, 2)] H0 H1 ∧ th_RD G Γ H1 ∧ (th_sl H1 a0 (G.1.1.2 5 7) = .int bv) ∧ (f_X5_readPlain d (dv G Γ H0) (a0 : Int) = (dv G Γ H1, 0))) G) ([.ref a0] : List Value).toArray s 0 0 (fun q => G.1.2.2 ≤ q)) (F0 m 30 ls [.int s30_0]) := by
            intro locs ls s30_0 hB hl hF g30_0 g30_1
            have ls30_0 := ti_lo s30_0; have us30_0 := ti_hi s30_0
            replace hF := hF.trans (congrArg (dv_k (f_X5_readPlain_4b d (dv_pre (fun _ _ => dv_z) f_X5_readTest d))) (f_X5_readPlain_30.eq_1 d (dv_pre (fun _ _ => dv_z) f_X5_readTest d) (dv G Γ H15) ((a0 : Int)) (j4_2.toInt) (s30_0.toInt)))
            refine lv_istore_n (lv' := [(1, .int s30_0), (0, .ref a0), (2, .int j4_2)]) hx hb gX5_readPlain_2.1 rfl hl (by decide) rfl (fun ls hl => ?_)
            refine tr_iinc (fun x42 => [(2, .int x42), (1, .int s30_0), (0, .ref a0)]) hx hb gX5_readPlain_2.2.1 hl (k := 2) rfl (Eq.refl _) tk_1 (by omega) (by omega) (by decide) (fun _ => rfl) (fun x42 ls ex42 hl => ?_)
            replace hF := hF.trans (congrArg (dv_k (f_X5_readPlain_4b d (dv_pre (fun _ _ => dv_z) f_X5_readTest d))) (dv_bn (ex42.symm)))
            refine lv_goto (tgt := 4) hx hb gX5_readPlain_2.2.2.1 (by decide) ?_
            replace hF := hF.trans (dv_kl)
            exact ih4 H15 locs ls s30_0 x42 hB hR (lv_sub hl [2, 1, 0] rfl) hF (by omega) (by omega) (by omega) (by omega) mm40 (by omega)
          refine tr_if_ne (tgt := 29) hx hb gX5_readPlain_1.2.2.2.2.1 (by decide) (Eq.refl _) (fun c22 => ?_) (fun c22 => ?_)
          · replace hF := hF.trans (congrArg (dv_k (f_X5_readPlain_4b d (dv_pre (fun _ _ => dv_z) f_X5_readTest d))) (if_pos c22))
            refine lv_iconst (v := 0) hx hb gX5_readPlain_1.2.2.2.2.2.2.2 (by decide) ?_
            exact jn30 locs ls 0 hB (lv_sub hl [0, 2] rfl) (by rw [tk_0]; exact hF) (by decide) (by decide)
          · replace hF := hF.trans (congrArg (dv_k (f_X5_readPlain_4b d (dv_pre (fun _ _ => dv_z) f_X5_readTest d))) (if_neg (not_not_intro c22)))
            refine lv_iconst (v := 1) hx hb gX5_readPlain_1.2.2.2.2.2.1 (by decide) ?_
            refine lv_goto (tgt := 30) hx hb gX5_readPlain_1.2.2.2.2.2.2.1 (by decide) ?_
            exact jn30 locs ls 1 hB (lv_sub hl [0, 2] rfl) (by rw [tk_1]; exact hF) (by decide) (by decide)
  exact lp4 ((2147483648 : Int) - (0)).toNat H0 [] ls 0 0 hB hR (lv_sub hl [2, 1, 0] rfl) (by rw [tk_0]; exact hF) (by decide) (by decide) (by decide) (by decide) mbv (by have w0 := tk_0; omega)

set_option maxHeartbeats 4000000 in
set_option maxRecDepth 100000 in
theorem c_X5_readTest_s (d : Nat) (ihp : s_X5_readPlain d) : s_X5_readTest d := by
  intro l G Γ H0 hI hR hU a0 h0 nn3 bv mbv nbv hdm
  refine th_met RX5 (by decide) rfl (Nat.le_of_ble_eq_true rfl) ?_
  intro p e s m below meth c hC hH hr hlocks hnm ls hl
  have hx := hC.1
  have hb := hC.2.1
  have hB : th_B G Γ Γ [(20, 5), (20, 6), (20, 7), (20, 8), (40, 0), (39, 2)] H0 H0 [] := ⟨hI, va_S.rf, th_F_rf⟩
  have hl : lv_has ls 5 [(0, .ref a0)] := hl
  have lbv := ti_lo bv; have ubv := ti_hi bv
  obtain ⟨bn3, mbn3, hbn3⟩ := nn3
  obtain ⟨F, hF0⟩ : ∃ F, F = f_X5_readTest d (dv G Γ H0) ((a0 : Int)) := ⟨_, rfl⟩
  have hF := hF0.trans ((f_X5_readTest_d d (dv G Γ H0) ((a0 : Int))).trans (f_X5_readTest_B.eq_1 d (f_X5_readPlain d) (dv G Γ H0) ((a0 : Int))))
  refine lv_aload_n hx hb gX5_readTest_0.1 rfl (lv_at hl 0 rfl) ?_
  refine th_call (th_runV (As := []) (rest := []) hC mf_X5_readPlain km_X5_183 im_X5_readPlain se_X5_readPlain (ihp l G Γ H0 hB.1 hR hU a0 h0 ⟨_, mbn3, hbn3⟩ bv mbv (by omega) (by omega)) rfl rfl ⟨by dsimp only; omega, by dsimp only; omega⟩ hB.1 h0 ro_20 rfl rfl hl.1 rfl (Nat.le_of_ble_eq_true rfl) gX5_readTest_0.2.1 ⟨Nat.le_refl _, Nat.le_refl _⟩) hB.2.1 (fun v1 H1 locs hp hz hS => ?_)
  obtain ⟨rfl, hI1, hf, hR, z1_0, z1_1⟩ := hp
  have hB := th_B_c hB hI1 hS hf (by decide)
  have mm1 := (th_F_o hf h0 ro_20 (j := 3) (by decide) (by decide)).trans mbn3
  replace hF := hF.trans (dv_bn2 (z1_1))
  refine W.eq (g2 := F0 m 4 ls []) rfl ?_
  refine lv_iconst (v := (-1)) hx hb gX5_readTest_0.2.2.1 (by decide) ?_
  refine lv_istore_n (lv' := [(1, .int (-1)), (0, .ref a0)]) hx hb gX5_readTest_0.2.2.2.1 rfl hl (by decide) rfl (fun ls hl => ?_)
  refine lv_iconst (v := 0) hx hb gX5_readTest_0.2.2.2.2.1 (by decide) ?_
  refine lv_istore_n (lv' := [(2, .int 0), (1, .int (-1)), (0, .ref a0)]) hx hb gX5_readTest_0.2.2.2.2.2.1 rfl hl (by decide) rfl (fun ls hl => ?_)
  have lp8 : ∀ (n8 : Nat) (H8 : Heap) (locs : List Loc) (ls : Array Slot) (j8_1 : Int32) (j8_2 : Int32), th_B G Γ Γ [(20, 5), (20, 6), (20, 7), (20, 8), (40, 0), (39, 2)] H0 H8 locs → th_RD G Γ H8 → lv_has ls 5 [(0, .ref a0), (1, .int j8_1), (2, .int j8_2)] → F = dv_lp (f_X5_readTest_8b d (f_X5_readPlain d)) (dv G Γ H8, (a0 : Int), j8_1.toInt, j8_2.toInt) → (-1) ≤ j8_1.toInt → j8_1.toInt ≤ 399 → 0 ≤ j8_2.toInt → j8_2.toInt ≤ 400 → th_sl H8 a0 (G.1.1.2 5 7) = .int bv → (2147483648 : Int) - j8_2.toInt ≤ (n8 : Int) → W p l e ({ frames := 27 + 2 * d, cells := 0, slots := 0, locals := 922 + d * 46 } : Room) s m ([.ref a0] : List Value).toArray below meth c H8 locs 0 0 (MQ below (th_Q (fun (v : Option Value) (H1 : Heap) => v = none ∧ th_I G Γ H1 ∧ th_F G Γ [(20, 5), (20, 6), (20, 7), (20, 8), (40, 0), (39, 2)] H0 H1 ∧ th_RD G Γ H1 ∧ (th_sl H1 a0 (G.1.1.2 5 7) = .int bv) ∧ (f_X5_readTest d (dv G Γ H0) (a0 : Int) = (dv G Γ H1, 0))) G) ([.ref a0] : List Value).toArray s 0 0 (fun q => G.1.2.2 ≤ q)) (F0 m 8 ls []) := by
    intro n8
    induction n8 with
    | zero => intro H8 locs ls j8_1 j8_2 hB hR hl hF g8_0 g8_1 g8_2 g8_3 g8_4 hm8; exact absurd hm8 (by have := ti_hi j8_2; omega)
    | succ n8 ih8 =>
      intro H8 locs ls j8_1 j8_2 hB hR hl hF g8_0 g8_1 g8_2 g8_3 g8_4 hm8
      have lj8_1 := ti_lo j8_1; have uj8_1 := ti_hi j8_1
      have lj8_2 := ti_lo j8_2; have uj8_2 := ti_hi j8_2
      have mm2 := (th_F_o hB.2.2 h0 ro_20 (j := 3) (by decide) (by decide)).trans mbn3
      have hm8 : (2147483648 : Int) - j8_2.toInt ≤ (n8 : Int) + 1 := by omega
      replace hF := hF.trans (dv_lp_eq)
      replace hF := hF.trans (congrArg (dv_k (f_X5_readTest_8b d (f_X5_readPlain d))) (f_X5_readTest_8c.eq_1 d (f_X5_readPlain d) (dv G Γ H8) ((a0 : Int)) (j8_1.toInt) (j8_2.toInt)))
      refine lv_iload_n hx hb gX5_readTest_0.2.2.2.2.2.2.1 rfl (lv_at hl 2 rfl) ?_
      refine lv_sipush (v := 400) hx hb gX5_readTest_0.2.2.2.2.2.2.2 (by decide) ?_
      have jn128 : ∀ (locs : List Loc) (ls : Array Slot) , th_B G Γ Γ [(20, 5), (20, 6), (20, 7), (20, 8), (40, 0), (39, 2)] H0 H8 locs → lv_has ls 5 [(0, .ref a0), (1, .int j8_1)] → F = dv_k (f_X5_readTest_8b d (f_X5_readPlain d)) (f_X5_readTest_128 d (f_X5_readPlain d) (dv G Γ H8) ((a0 : Int)) (j8_1.toInt)) → W p l e ({ frames := 27 + 2 * d, cells := 0, slots := 0, locals := 922 + d * 46 } : Room) s m ([.ref a0] : List Value).toArray below meth c H8 locs 0 0 (MQ below (th_Q (fun (v : Option Value) (H1 : Heap) => v = none ∧ th_I G Γ H1 ∧ th_F G Γ [(20, 5), (20, 6), (20, 7), (20, 8), (40, 0), (39, 2)] H0 H1 ∧ th_RD G Γ H1 ∧ (th_sl H1 a0 (G.1.1.2 5 7) = .int bv) ∧ (f_X5_readTest d (dv G Γ H0) (a0 : Int) = (dv G Γ H1, 0))) G) ([.ref a0] : List Value).toArray s 0 0 (fun q => G.1.2.2 ≤ q)) (F0 m 128 ls []) := by
        intro locs ls hB hl hF
        replace hF := hF.trans (congrArg (dv_k (f_X5_readTest_8b d (f_X5_readPlain d))) (f_X5_readTest_128.eq_1 d (f_X5_readPlain d) (dv G Γ H8) ((a0 : Int)) (j8_1.toInt)))
        refine lv_aload_n hx hb gX5_readTest_7.2.2.2.2.1 rfl (lv_at hl 0 rfl) ?_
        refine th_getK hC cf_X5 hB.1 h0 ro_20 rfl (j := 3) (by decide) mm2 kf_X5_22 gX5_readTest_7.2.2.2.2.2.1 ?_
        replace hF := hF.trans (congrArg (dv_k (f_X5_readTest_8b d (f_X5_readPlain d))) (dv_bn (dv_getR h0 ro_20 (j := 3) rfl mm2 (by decide))))
        refine lv_iload_n hx hb gX5_readTest_7.2.2.2.2.2.2.1 rfl (lv_at hl 1 rfl) ?_
        refine lv_aload_n hx hb gX5_readTest_7.2.2.2.2.2.2.2 rfl (lv_at hl 0 rfl) ?_
        refine th_getK hC cf_X5 hB.1 h0 ro_20 rfl (j := 3) (by decide) mm2 kf_X5_22 gX5_readTest_8.1 ?_
        replace hF := hF.trans (congrArg (dv_k (f_X5_readTest_8b d (f_X5_readPlain d))) (dv_bn (dv_getR h0 ro_20 (j := 3) rfl mm2 (by decide))))
        refine th_getI (j := 2) hC cf_X10 hB.1 hbn3 ro_39 rfl rfl kf_X5_174 gX5_readTest_8.2.1 (fun x3 mx3 lx3 ux3 => ?_)
        replace hF := hF.trans (congrArg (dv_k (f_X5_readTest_8b d (f_X5_readPlain d))) (dv_bn (dv_getI hbn3 ro_39 (j := 2) rfl mx3 (by decide))))
        refine th_call (th_runV (As := [.int j8_1, .int x3]) (rest := []) hC mf_X10_setCode km_X5_189 im_X10_setCode se_X10_setCode (c_X10_setCode l G Γ H8 hB.1 hR.1 hU bn3 hbn3 j8_1 x3 (by omega)) rfl rfl ⟨by dsimp only; omega, by dsimp only; omega⟩ hB.1 hbn3 ro_39 rfl rfl hl.1 rfl (Nat.le_of_ble_eq_true rfl) gX5_readTest_8.2.2.1 ⟨Nat.le_refl _, Nat.le_refl _⟩) hB.2.1 (fun v140 H140 locs hp hz hS => ?_)
        have hRD := hR
        obtain ⟨rfl, hI1, hf, hR, z140_0⟩ := hp
        have hR := th_RD_c hR hRD hf (by decide)
        have hB := th_B_c hB hI1 hS hf (by decide)
        have mm4 := (th_F_o hf h0 ro_20 (j := 7) (by decide) (by decide)).trans g8_4
        have mm5 := (th_F_o hf h0 ro_20 (j := 3) (by decide) (by decide)).trans mm2
        replace hF := hF.trans (congrArg (dv_k (f_X5_readTest_8b d (f_X5_readPlain d))) (dv_bn2 (z140_0)))
        refine W.eq (g2 := F0 m 143 ls []) rfl ?_
        replace hF := hF.trans (dv_kr)
        exact th_vret hC hH hr hlocks hB.2.1 ⟨rfl, hB.1, hB.2.2, hR, mm4, (hF0.symm.trans hF)⟩ gX5_readTest_8.2.2.2
      refine tr_icmp_ge (tgt := 128) hx hb gX5_readTest_1.1 (by decide) (Eq.refl _) tk_400 (fun c12 => ?_) (fun c12 => ?_)
      · replace hF := hF.trans (congrArg (dv_k (f_X5_readTest_8b d (f_X5_readPlain d))) (if_pos c12))
        exact jn128 locs ls hB (lv_sub hl [0, 1] rfl) hF
      · replace hF := hF.trans (congrArg (dv_k (f_X5_readTest_8b d (f_X5_readPlain d))) (if_neg (Int.not_le.mpr c12)))
        refine lv_aload_n hx hb gX5_readTest_1.2.1 rfl (lv_at hl 0 rfl) ?_
        refine th_call (th_runV (As := []) (rest := []) hC mf_X5_seenToken km_X5_186 im_X5_seenToken se_X5_seenToken (c_X5_seenToken l G Γ H8 hB.1 hR hU a0 h0) rfl rfl ⟨by dsimp only; omega, by dsimp only; omega⟩ hB.1 h0 ro_20 rfl rfl hl.1 rfl (Nat.le_of_ble_eq_true rfl) gX5_readTest_1.2.2.1 ⟨Nat.le_refl _, Nat.le_refl _⟩) hB.2.1 (fun v16 H16 locs hp hz hS => ?_)
        obtain ⟨x6, rfl, q16_0, q16_1, rfl⟩ := hp
        have hB := th_B_s hB hS
        replace hF := hF.trans (congrArg (dv_k (f_X5_readTest_8b d (f_X5_readPlain d))) (dv_bn2 (q16_1)))
        refine W.eq (g2 := F0 m 19 ls [.int x6]) rfl ?_
        refine lv_sipush (v := 312) hx hb gX5_readTest_1.2.2.2.1 (by decide) ?_
        refine tr_icmp_eq (tgt := 35) hx hb gX5_readTest_1.2.2.2.2.1 (by decide) (Eq.refl _) tk_312 (fun c22 => ?_) (fun c22 => ?_)
        · replace hF := hF.trans (congrArg (dv_k (f_X5_readTest_8b d (f_X5_readPlain d))) (if_pos c22))
          refine lv_aload_n hx hb gX5_readTest_2.2.1 rfl (lv_at hl 0 rfl) ?_
          refine lv_sipush (v := 312) hx hb gX5_readTest_2.2.2.1 (by decide) ?_
          refine th_call (th_runV (As := [.int 312]) (rest := []) hC mf_X5_take km_X5_54 im_X5_take se_X5_take (c_X5_take l G Γ H8 hB.1 hR hU a0 h0 312 (by decide)) rfl rfl ⟨by dsimp only; omega, by dsimp only; omega⟩ hB.1 h0 ro_20 rfl rfl hl.1 rfl (Nat.le_of_ble_eq_true rfl) gX5_readTest_2.2.2.2.1 ⟨Nat.le_refl _, Nat.le_refl _⟩) hB.2.1 (fun v39 H39 locs hp hz hS => ?_)
          obtain ⟨x7, rfl, lx7, ux7, hI1, hf, hR, z39_0, z39_1⟩ := hp
          have hB := th_B_c hB hI1 hS hf (by decide)
          have mm8 := (th_F_o hf h0 ro_20 (j := 7) (by decide) (by decide)).trans g8_4
          have mm9 := (th_F_o hf h0 ro_20 (j := 3) (by decide) (by decide)).trans mm2
          have zf39 := z39_1
          rw [tk_312] at zf39
          replace hF := hF.trans (congrArg (dv_k (f_X5_readTest_8b d (f_X5_readPlain d))) (dv_bn2 (zf39)))
          refine W.eq (g2 := F0 m 42 ls [.int x7]) rfl ?_
          refine lv_istore_n (lv' := [(3, .int x7), (0, .ref a0), (1, .int j8_1), (2, .int j8_2)]) hx hb gX5_readTest_2.2.2.2.2.1 rfl hl (by decide) rfl (fun ls hl => ?_)
          refine lv_iload_n hx hb gX5_readTest_2.2.2.2.2.2.1 rfl (lv_at hl 0 rfl) ?_
          have jn122 : ∀ (H122 : Heap) (locs : List Loc) (ls : Array Slot) (j122_1 : Int32), th_B G Γ Γ [(20, 5), (20, 6), (20, 7), (20, 8), (40, 0), (39, 2)] H0 H122 locs → th_RD G Γ H122 → lv_has ls 5 [(0, .ref a0), (2, .int j8_2), (1, .int j122_1)] → F = dv_k (f_X5_readTest_8b d (f_X5_readPlain d)) (f_X5_readTest_122 d (f_X5_readPlain d) (dv G Γ H122) ((a0 : Int)) (j8_2.toInt) (j122_1.toInt)) → (-1) ≤ j122_1.toInt → j122_1.toInt ≤ 399 → th_sl H122 a0 (G.1.1.2 5 7) = .int bv → W p l e ({ frames := 27 + 2 * d, cells := 0, slots := 0, locals := 922 + d * 46 } : Room) s m ([.ref a0] : List Value).toArray below meth c H122 locs 0 0 (MQ below (th_Q (fun (v : Option Value) (H1 : Heap) => v = none ∧ th_I G Γ H1 ∧ th_F G Γ [(20, 5), (20, 6), (20, 7), (20, 8), (40, 0), (39, 2)] H0 H1 ∧ th_RD G Γ H1 ∧ (th_sl H1 a0 (G.1.1.2 5 7) = .int bv) ∧ (f_X5_readTest d (dv G Γ H0) (a0 : Int) = (dv G Γ H1, 0))) G) ([.ref a0] : List Value).toArray s 0 0 (fun q => G.1.2.2 ≤ q)) (F0 m 122 ls []) := by
            intro H122 locs ls j122_1 hB hR hl hF g122_0 g122_1 g122_2
            have lj122_1 := ti_lo j122_1; have uj122_1 := ti_hi j122_1
            have mm10 := (th_F_o hB.2.2 h0 ro_20 (j := 3) (by decide) (by decide)).trans mbn3
            replace hF := hF.trans (congrArg (dv_k (f_X5_readTest_8b d (f_X5_readPlain d))) (f_X5_readTest_122.eq_1 d (f_X5_readPlain d) (dv G Γ H122) ((a0 : Int)) (j8_2.toInt) (j122_1.toInt)))
            refine tr_iinc (fun x11 => [(2, .int x11), (0, .ref a0), (1, .int j122_1)]) hx hb gX5_readTest_7.2.2.1 hl (k := 1) rfl (Eq.refl _) tk_1 (by omega) (by omega) (by decide) (fun _ => rfl) (fun x11 ls ex11 hl => ?_)
            replace hF := hF.trans (congrArg (dv_k (f_X5_readTest_8b d (f_X5_readPlain d))) (dv_bn (ex11.symm)))
            refine lv_goto (tgt := 8) hx hb gX5_readTest_7.2.2.2.1 (by decide) ?_
            replace hF := hF.trans (dv_kl)
            exact ih8 H122 locs ls j122_1 x11 hB hR (lv_sub hl [1, 2, 0] rfl) hF (by omega) (by omega) (by omega) (by omega) g122_2 (by omega)
          refine tr_if_eq (tgt := 80) hx hb gX5_readTest_2.2.2.2.2.2.2.1 (by decide) (Eq.refl _) (fun c44 => ?_) (fun c44 => ?_)
          · replace hF := hF.trans (congrArg (dv_k (f_X5_readTest_8b d (f_X5_readPlain d))) (if_pos c44))
            refine lv_aload_n hx hb gX5_readTest_4.2.2.2.2.2.2.1 rfl (lv_at hl 1 rfl) ?_
            have tk : th_TK G Γ H39 a0 := by rw [z39_0 (by omega)]; first | exact q26_0 (by omega) | exact q16_0 (by omega)
            refine lv_dup hx hb gX5_readTest_4.2.2.2.2.2.2.2 rfl ?_
            refine th_getI (j := 5) hC cf_X5 hB.1 h0 ro_20 rfl rfl kf_X5_30 gX5_readTest_5.1 (fun x12 mx12 lx12 ux12 => ?_)
            obtain ⟨rax12, rbx12⟩ := th_RI_at (hR.2 _ _ h0) mx12
            replace hF := hF.trans (congrArg (dv_k (f_X5_readTest_8b d (f_X5_readPlain d))) (dv_bn (dv_getI h0 ro_20 (j := 5) rfl mx12 (by decide))))
            refine lv_iconst (v := 1) hx hb gX5_readTest_5.2.1 (by decide) ?_
            refine tr_iadd hx hb gX5_readTest_5.2.2.1 (Eq.refl _) tk_1 (by omega) (by omega) (fun x13 ex13 => ?_)
            replace hF := hF.trans (congrArg (dv_k (f_X5_readTest_8b d (f_X5_readPlain d))) (dv_bn (ex13.symm)))
            refine th_put hC cf_X5 hB h0 (Or.inl h0) ro_20 rfl (j := 5) rfl th_sIa (by decide) rfl rfl rfl kf_X5_30 gX5_readTest_5.2.2.2.1 (fun H87 locs hB hf hst87 => ?_)
            have mm14 := (th_F_o hf h0 ro_20 (j := 7) (by decide) (by decide)).trans mm8
            have mm15 := (th_F_o hf h0 ro_20 (j := 3) (by decide) (by decide)).trans mm9
            replace hF := hF.trans (congrArg (dv_k (f_X5_readTest_8b d (f_X5_readPlain d))) (dv_bn (dv_putI hB.1 h0 ro_20 (j := 5) rfl (th_apart hC cf_X5) hst87 (Eq.refl _) (by decide))))
            have mm16 := hst87.2.1
            have hR := th_RD_st (th_RC_F hB.1 hR.1 hf (th_T_s h0 ro_20 hst87) (by decide)) hR h0 hst87 (th_RD_up (th_apart hC cf_X5 0 5 (by decide) (by decide) (by decide)) (hR.2 _ _ h0) tk h0 mx12 (by have w1 := tk_1; omega) hst87)
            refine lv_aload_n hx hb gX5_readTest_5.2.2.2.2.1 rfl (lv_at hl 1 rfl) ?_
            refine th_getK hC cf_X5 hB.1 h0 ro_20 rfl (j := 3) (by decide) mm15 kf_X5_22 gX5_readTest_5.2.2.2.2.2.1 ?_
            replace hF := hF.trans (congrArg (dv_k (f_X5_readTest_8b d (f_X5_readPlain d))) (dv_bn (dv_getR h0 ro_20 (j := 3) rfl mm15 (by decide))))
            refine lv_sipush (v := 3009) hx hb gX5_readTest_5.2.2.2.2.2.2.1 (by decide) ?_
            refine th_call (th_runV (As := [.int 3009]) (rest := []) hC mf_X10_addJump km_X5_192 im_X10_addJump se_X10_addJump (c_X10_addJump l G Γ H87 hB.1 hR.1 hU bn3 hbn3 3009 (by decide)) rfl rfl ⟨by dsimp only; omega, by dsimp only; omega⟩ hB.1 hbn3 ro_39 rfl rfl hl.1 rfl (Nat.le_of_ble_eq_true rfl) gX5_readTest_5.2.2.2.2.2.2.2 ⟨Nat.le_refl _, Nat.le_refl _⟩) hB.2.1 (fun v97 H97 locs hp hz hS => ?_)
            have hRD := hR
            obtain ⟨x17, rfl, lx17, ux17, hI1, hf, hR, z97_0⟩ := hp
            have hR := th_RD_c hR hRD hf (by decide)
            have hB := th_B_c hB hI1 hS hf (by decide)
            have mm18 := (th_F_o hf h0 ro_20 (j := 7) (by decide) (by decide)).trans mm14
            have mm19 := (th_F_o hf h0 ro_20 (j := 3) (by decide) (by decide)).trans mm15
            have mm20 := (th_F_o hf h0 ro_20 (j := 5) (by decide) (by decide)).trans mm16
            have zf97 := z97_0
            rw [tk_3009] at zf97
            replace hF := hF.trans (congrArg (dv_k (f_X5_readTest_8b d (f_X5_readPlain d))) (dv_bn2 (zf97)))
            refine W.eq (g2 := F0 m 100 ls [.int x17]) rfl ?_
            refine lv_istore (lv' := [(4, .int x17), (3, .int x7), (0, .ref a0), (1, .int j8_1), (2, .int j8_2)]) hx hb gX5_readTest_6.1 hl (by decide) rfl (fun ls hl => ?_)
            refine lv_aload_n hx hb gX5_readTest_6.2.1 rfl (lv_at hl 2 rfl) ?_
            refine th_call (th_runV (As := []) (rest := []) hC mf_X5_readPlain km_X5_183 im_X5_readPlain se_X5_readPlain (ihp l G Γ H97 hB.1 hR hU a0 h0 ⟨_, mm19, hbn3⟩ bv mm18 (by omega) (by omega)) rfl rfl ⟨by dsimp only; omega, by dsimp only; omega⟩ hB.1 h0 ro_20 rfl rfl hl.1 rfl (Nat.le_of_ble_eq_true rfl) gX5_readTest_6.2.2.1 ⟨Nat.le_refl _, Nat.le_refl _⟩) hB.2.1 (fun v103 H103 locs hp hz hS => ?_)
            obtain ⟨rfl, hI1, hf, hR, z103_0, z103_1⟩ := hp
            have hB := th_B_c hB hI1 hS hf (by decide)
            have mm21 := (th_F_o hf h0 ro_20 (j := 3) (by decide) (by decide)).trans mm19
            replace hF := hF.trans (congrArg (dv_k (f_X5_readTest_8b d (f_X5_readPlain d))) (dv_bn2 (z103_1)))
            refine W.eq (g2 := F0 m 106 ls []) rfl ?_
            refine lv_aload_n hx hb gX5_readTest_6.2.2.2.1 rfl (lv_at hl 2 rfl) ?_
            refine th_getK hC cf_X5 hB.1 h0 ro_20 rfl (j := 3) (by decide) mm21 kf_X5_22 gX5_readTest_6.2.2.2.2.1 ?_
            replace hF := hF.trans (congrArg (dv_k (f_X5_readTest_8b d (f_X5_readPlain d))) (dv_bn (dv_getR h0 ro_20 (j := 3) rfl mm21 (by decide))))
            refine lv_iload hx hb gX5_readTest_6.2.2.2.2.2.1 (lv_at hl 0 rfl) ?_
            refine lv_aload_n hx hb gX5_readTest_6.2.2.2.2.2.2.1 rfl (lv_at hl 2 rfl) ?_
            refine th_getK hC cf_X5 hB.1 h0 ro_20 rfl (j := 3) (by decide) mm21 kf_X5_22 gX5_readTest_6.2.2.2.2.2.2.2 ?_
            replace hF := hF.trans (congrArg (dv_k (f_X5_readTest_8b d (f_X5_readPlain d))) (dv_bn (dv_getR h0 ro_20 (j := 3) rfl mm21 (by decide))))
            refine th_getI (j := 2) hC cf_X10 hB.1 hbn3 ro_39 rfl rfl kf_X5_174 gX5_readTest_7.1 (fun x22 mx22 lx22 ux22 => ?_)
            replace hF := hF.trans (congrArg (dv_k (f_X5_readTest_8b d (f_X5_readPlain d))) (dv_bn (dv_getI hbn3 ro_39 (j := 2) rfl mx22 (by decide))))
            refine th_call (th_runV (As := [.int x17, .int x22]) (rest := []) hC mf_X10_setCode km_X5_189 im_X10_setCode se_X10_setCode (c_X10_setCode l G Γ H103 hB.1 hR.1 hU bn3 hbn3 x17 x22 (by omega)) rfl rfl ⟨by dsimp only; omega, by dsimp only; omega⟩ hB.1 hbn3 ro_39 rfl rfl hl.1 rfl (Nat.le_of_ble_eq_true rfl) gX5_readTest_7.2.1 ⟨Nat.le_refl _, Nat.le_refl _⟩) hB.2.1 (fun v119 H119 locs hp hz hS => ?_)
            have hRD := hR
            obtain ⟨rfl, hI1, hf, hR, z119_0⟩ := hp
            have hR := th_RD_c hR hRD hf (by decide)
            have hB := th_B_c hB hI1 hS hf (by decide)
            have mm23 := (th_F_o hf h0 ro_20 (j := 3) (by decide) (by decide)).trans mm21
            have mm24 := (th_F_o hf h0 ro_20 (j := 7) (by decide) (by decide)).trans z103_0
            have mm25 := (th_F_o hf hbn3 ro_39 (j := 2) (by decide) (by decide)).trans mx22
            replace hF := hF.trans (congrArg (dv_k (f_X5_readTest_8b d (f_X5_readPlain d))) (dv_bn2 (z119_0)))
            refine W.eq (g2 := F0 m 122 ls []) rfl ?_
            exact jn122 H119 locs ls j8_1 hB hR (lv_sub hl [2, 4, 3] rfl) hF (by omega) (by omega) mm24
          · replace hF := hF.trans (congrArg (dv_k (f_X5_readTest_8b d (f_X5_readPlain d))) (if_neg c44))
            refine lv_aload_n hx hb gX5_readTest_2.2.2.2.2.2.2.2 rfl (lv_at hl 1 rfl) ?_
            refine th_getK hC cf_X5 hB.1 h0 ro_20 rfl (j := 3) (by decide) mm9 kf_X5_22 gX5_readTest_3.1 ?_
            replace hF := hF.trans (congrArg (dv_k (f_X5_readTest_8b d (f_X5_readPlain d))) (dv_bn (dv_getR h0 ro_20 (j := 3) rfl mm9 (by decide))))
            refine lv_iload_n hx hb gX5_readTest_3.2.1 rfl (lv_at hl 2 rfl) ?_
            refine lv_aload_n hx hb gX5_readTest_3.2.2.1 rfl (lv_at hl 1 rfl) ?_
            refine th_getK hC cf_X5 hB.1 h0 ro_20 rfl (j := 3) (by decide) mm9 kf_X5_22 gX5_readTest_3.2.2.2.1 ?_
            replace hF := hF.trans (congrArg (dv_k (f_X5_readTest_8b d (f_X5_readPlain d))) (dv_bn (dv_getR h0 ro_20 (j := 3) rfl mm9 (by decide))))
            refine th_getI (j := 2) hC cf_X10 hB.1 hbn3 ro_39 rfl rfl kf_X5_174 gX5_readTest_3.2.2.2.2.1 (fun x26 mx26 lx26 ux26 => ?_)
            replace hF := hF.trans (congrArg (dv_k (f_X5_readTest_8b d (f_X5_readPlain d))) (dv_bn (dv_getI hbn3 ro_39 (j := 2) rfl mx26 (by decide))))
            refine th_call (th_runV (As := [.int j8_1, .int x26]) (rest := []) hC mf_X10_setCode km_X5_189 im_X10_setCode se_X10_setCode (c_X10_setCode l G Γ H39 hB.1 hR.1 hU bn3 hbn3 j8_1 x26 (by omega)) rfl rfl ⟨by dsimp only; omega, by dsimp only; omega⟩ hB.1 hbn3 ro_39 rfl rfl hl.1 rfl (Nat.le_of_ble_eq_true rfl) gX5_readTest_3.2.2.2.2.2.1 ⟨Nat.le_refl _, Nat.le_refl _⟩) hB.2.1 (fun v59 H59 locs hp hz hS => ?_)
            have hRD := hR
            obtain ⟨rfl, hI1, hf, hR, z59_0⟩ := hp
            have hR := th_RD_c hR hRD hf (by decide)
            have hB := th_B_c hB hI1 hS hf (by decide)
            have mm27 := (th_F_o hf h0 ro_20 (j := 7) (by decide) (by decide)).trans mm8
            have mm28 := (th_F_o hf h0 ro_20 (j := 3) (by decide) (by decide)).trans mm9
            have mm29 := (th_F_o hf hbn3 ro_39 (j := 2) (by decide) (by decide)).trans mx26
            replace hF := hF.trans (congrArg (dv_k (f_X5_readTest_8b d (f_X5_readPlain d))) (dv_bn2 (z59_0)))
            refine W.eq (g2 := F0 m 62 ls []) rfl ?_
            refine lv_aload_n hx hb gX5_readTest_3.2.2.2.2.2.2.1 rfl (lv_at hl 1 rfl) ?_
            refine th_getK hC cf_X5 hB.1 h0 ro_20 rfl (j := 3) (by decide) mm28 kf_X5_22 gX5_readTest_3.2.2.2.2.2.2.2 ?_
            replace hF := hF.trans (congrArg (dv_k (f_X5_readTest_8b d (f_X5_readPlain d))) (dv_bn (dv_getR h0 ro_20 (j := 3) rfl mm28 (by decide))))
            refine lv_sipush (v := 3010) hx hb gX5_readTest_4.1 (by decide) ?_
            refine th_call (th_runV (As := [.int 3010]) (rest := []) hC mf_X10_addJump km_X5_192 im_X10_addJump se_X10_addJump (c_X10_addJump l G Γ H59 hB.1 hR.1 hU bn3 hbn3 3010 (by decide)) rfl rfl ⟨by dsimp only; omega, by dsimp only; omega⟩ hB.1 hbn3 ro_39 rfl rfl hl.1 rfl (Nat.le_of_ble_eq_true rfl) gX5_readTest_4.2.1 ⟨Nat.le_refl _, Nat.le_refl _⟩) hB.2.1 (fun v69 H69 locs hp hz hS => ?_)
            have hRD := hR
            obtain ⟨x30, rfl, lx30, ux30, hI1, hf, hR, z69_0⟩ := hp
            have hR := th_RD_c hR hRD hf (by decide)
            have hB := th_B_c hB hI1 hS hf (by decide)
            have mm31 := (th_F_o hf h0 ro_20 (j := 7) (by decide) (by decide)).trans mm27
            have mm32 := (th_F_o hf h0 ro_20 (j := 3) (by decide) (by decide)).trans mm28
            have zf69 := z69_0
            rw [tk_3010] at zf69
            replace hF := hF.trans (congrArg (dv_k (f_X5_readTest_8b d (f_X5_readPlain d))) (dv_bn2 (zf69)))
            refine W.eq (g2 := F0 m 72 ls [.int x30]) rfl ?_
            refine lv_istore_n (lv' := [(1, .int x30), (3, .int x7), (0, .ref a0), (2, .int j8_2)]) hx hb gX5_readTest_4.2.2.1 rfl hl (by decide) rfl (fun ls hl => ?_)
            refine lv_aload_n hx hb gX5_readTest_4.2.2.2.1 rfl (lv_at hl 2 rfl) ?_
            refine th_call (th_runV (As := []) (rest := []) hC mf_X5_readPlain km_X5_183 im_X5_readPlain se_X5_readPlain (ihp l G Γ H69 hB.1 hR hU a0 h0 ⟨_, mm32, hbn3⟩ bv mm31 (by omega) (by omega)) rfl rfl ⟨by dsimp only; omega, by dsimp only; omega⟩ hB.1 h0 ro_20 rfl rfl hl.1 rfl (Nat.le_of_ble_eq_true rfl) gX5_readTest_4.2.2.2.2.1 ⟨Nat.le_refl _, Nat.le_refl _⟩) hB.2.1 (fun v74 H74 locs hp hz hS => ?_)
            obtain ⟨rfl, hI1, hf, hR, z74_0, z74_1⟩ := hp
            have hB := th_B_c hB hI1 hS hf (by decide)
            have mm33 := (th_F_o hf h0 ro_20 (j := 3) (by decide) (by decide)).trans mm32
            replace hF := hF.trans (congrArg (dv_k (f_X5_readTest_8b d (f_X5_readPlain d))) (dv_bn2 (z74_1)))
            refine W.eq (g2 := F0 m 77 ls []) rfl ?_
            refine lv_goto (tgt := 122) hx hb gX5_readTest_4.2.2.2.2.2.1 (by decide) ?_
            exact jn122 H74 locs ls x30 hB hR (lv_sub hl [2, 3, 0] rfl) hF (by omega) (by omega) z74_0
        · replace hF := hF.trans (congrArg (dv_k (f_X5_readTest_8b d (f_X5_readPlain d))) (if_neg c22))
          refine lv_aload_n hx hb gX5_readTest_1.2.2.2.2.2.1 rfl (lv_at hl 0 rfl) ?_
          refine th_call (th_runV (As := []) (rest := []) hC mf_X5_seenToken km_X5_186 im_X5_seenToken se_X5_seenToken (c_X5_seenToken l G Γ H8 hB.1 hR hU a0 h0) rfl rfl ⟨by dsimp only; omega, by dsimp only; omega⟩ hB.1 h0 ro_20 rfl rfl hl.1 rfl (Nat.le_of_ble_eq_true rfl) gX5_readTest_1.2.2.2.2.2.2.1 ⟨Nat.le_refl _, Nat.le_refl _⟩) hB.2.1 (fun v26 H26 locs hp hz hS => ?_)
          obtain ⟨x34, rfl, q26_0, q26_1, rfl⟩ := hp
          have hB := th_B_s hB hS
          replace hF := hF.trans (congrArg (dv_k (f_X5_readTest_8b d (f_X5_readPlain d))) (dv_bn2 (q26_1)))
          refine W.eq (g2 := F0 m 29 ls [.int x34]) rfl ?_
          refine lv_sipush (v := 313) hx hb gX5_readTest_1.2.2.2.2.2.2.2 (by decide) ?_
          refine tr_icmp_ne (tgt := 128) hx hb gX5_readTest_2.1 (by decide) (Eq.refl _) tk_313 (fun c32 => ?_) (fun c32 => ?_)
          · replace hF := hF.trans (congrArg (dv_k (f_X5_readTest_8b d (f_X5_readPlain d))) (if_pos c32))
            exact jn128 locs ls hB (lv_sub hl [0, 1] rfl) hF
          · replace hF := hF.trans (congrArg (dv_k (f_X5_readTest_8b d (f_X5_readPlain d))) (if_neg (not_not_intro c32)))
            refine lv_aload_n hx hb gX5_readTest_2.2.1 rfl (lv_at hl 0 rfl) ?_
            refine lv_sipush (v := 312) hx hb gX5_readTest_2.2.2.1 (by decide) ?_
            refine th_call (th_runV (As := [.int 312]) (rest := []) hC mf_X5_take km_X5_54 im_X5_take se_X5_take (c_X5_take l G Γ H8 hB.1 hR hU a0 h0 312 (by decide)) rfl rfl ⟨by dsimp only; omega, by dsimp only; omega⟩ hB.1 h0 ro_20 rfl rfl hl.1 rfl (Nat.le_of_ble_eq_true rfl) gX5_readTest_2.2.2.2.1 ⟨Nat.le_refl _, Nat.le_refl _⟩) hB.2.1 (fun v39 H39 locs hp hz hS => ?_)
            obtain ⟨x35, rfl, lx35, ux35, hI1, hf, hR, z39_0, z39_1⟩ := hp
            have hB := th_B_c hB hI1 hS hf (by decide)
            have mm36 := (th_F_o hf h0 ro_20 (j := 7) (by decide) (by decide)).trans g8_4
            have mm37 := (th_F_o hf h0 ro_20 (j := 3) (by decide) (by decide)).trans mm2
            have zf39 := z39_1
            rw [tk_312] at zf39
            replace hF := hF.trans (congrArg (dv_k (f_X5_readTest_8b d (f_X5_readPlain d))) (dv_bn2 (zf39)))
            refine W.eq (g2 := F0 m 42 ls [.int x35]) rfl ?_
            refine lv_istore_n (lv' := [(3, .int x35), (0, .ref a0), (1, .int j8_1), (2, .int j8_2)]) hx hb gX5_readTest_2.2.2.2.2.1 rfl hl (by decide) rfl (fun ls hl => ?_)
            refine lv_iload_n hx hb gX5_readTest_2.2.2.2.2.2.1 rfl (lv_at hl 0 rfl) ?_
            have jn122 : ∀ (H122 : Heap) (locs : List Loc) (ls : Array Slot) (j122_1 : Int32), th_B G Γ Γ [(20, 5), (20, 6), (20, 7), (20, 8), (40, 0), (39, 2)] H0 H122 locs → th_RD G Γ H122 → lv_has ls 5 [(0, .ref a0), (2, .int j8_2), (1, .int j122_1)] → F = dv_k (f_X5_readTest_8b d (f_X5_readPlain d)) (f_X5_readTest_122x2 d (f_X5_readPlain d) (dv G Γ H122) ((a0 : Int)) (j8_2.toInt) (j122_1.toInt)) → (-1) ≤ j122_1.toInt → j122_1.toInt ≤ 399 → th_sl H122 a0 (G.1.1.2 5 7) = .int bv → W p l e ({ frames := 27 + 2 * d, cells := 0, slots := 0, locals := 922 + d * 46 } : Room) s m ([.ref a0] : List Value).toArray below meth c H122 locs 0 0 (MQ below (th_Q (fun (v : Option Value) (H1 : Heap) => v = none ∧ th_I G Γ H1 ∧ th_F G Γ [(20, 5), (20, 6), (20, 7), (20, 8), (40, 0), (39, 2)] H0 H1 ∧ th_RD G Γ H1 ∧ (th_sl H1 a0 (G.1.1.2 5 7) = .int bv) ∧ (f_X5_readTest d (dv G Γ H0) (a0 : Int) = (dv G Γ H1, 0))) G) ([.ref a0] : List Value).toArray s 0 0 (fun q => G.1.2.2 ≤ q)) (F0 m 122 ls []) := by
              intro H122 locs ls j122_1 hB hR hl hF g122_0 g122_1 g122_2
              have lj122_1 := ti_lo j122_1; have uj122_1 := ti_hi j122_1
              have mm38 := (th_F_o hB.2.2 h0 ro_20 (j := 3) (by decide) (by decide)).trans mbn3
              replace hF := hF.trans (congrArg (dv_k (f_X5_readTest_8b d (f_X5_readPlain d))) (f_X5_readTest_122x2.eq_1 d (f_X5_readPlain d) (dv G Γ H122) ((a0 : Int)) (j8_2.toInt) (j122_1.toInt)))
              refine tr_iinc (fun x39 => [(2, .int x39), (0, .ref a0), (1, .int j122_1)]) hx hb gX5_readTest_7.2.2.1 hl (k := 1) rfl (Eq.refl _) tk_1 (by omega) (by omega) (by decide) (fun _ => rfl) (fun x39 ls ex39 hl => ?_)
              replace hF := hF.trans (congrArg (dv_k (f_X5_readTest_8b d (f_X5_readPlain d))) (dv_bn (ex39.symm)))
              refine lv_goto (tgt := 8) hx hb gX5_readTest_7.2.2.2.1 (by decide) ?_
              replace hF := hF.trans (dv_kl)
              exact ih8 H122 locs ls j122_1 x39 hB hR (lv_sub hl [1, 2, 0] rfl) hF (by omega) (by omega) (by omega) (by omega) g122_2 (by omega)
            refine tr_if_eq (tgt := 80) hx hb gX5_readTest_2.2.2.2.2.2.2.1 (by decide) (Eq.refl _) (fun c44 => ?_) (fun c44 => ?_)
            · replace hF := hF.trans (congrArg (dv_k (f_X5_readTest_8b d (f_X5_readPlain d))) (if_pos c44))
              refine lv_aload_n hx hb gX5_readTest_4.2.2.2.2.2.2.1 rfl (lv_at hl 1 rfl) ?_
              have tk : th_TK G Γ H39 a0 := by rw [z39_0 (by omega)]; first | exact q26_0 (by omega) | exact q16_0 (by omega)
              refine lv_dup hx hb gX5_readTest_4.2.2.2.2.2.2.2 rfl ?_
              refine th_getI (j := 5) hC cf_X5 hB.1 h0 ro_20 rfl rfl kf_X5_30 gX5_readTest_5.1 (fun x40 mx40 lx40 ux40 => ?_)
              obtain ⟨rax40, rbx40⟩ := th_RI_at (hR.2 _ _ h0) mx40
              replace hF := hF.trans (congrArg (dv_k (f_X5_readTest_8b d (f_X5_readPlain d))) (dv_bn (dv_getI h0 ro_20 (j := 5) rfl mx40 (by decide))))
              refine lv_iconst (v := 1) hx hb gX5_readTest_5.2.1 (by decide) ?_
              refine tr_iadd hx hb gX5_readTest_5.2.2.1 (Eq.refl _) tk_1 (by omega) (by omega) (fun x41 ex41 => ?_)
              replace hF := hF.trans (congrArg (dv_k (f_X5_readTest_8b d (f_X5_readPlain d))) (dv_bn (ex41.symm)))
              refine th_put hC cf_X5 hB h0 (Or.inl h0) ro_20 rfl (j := 5) rfl th_sIa (by decide) rfl rfl rfl kf_X5_30 gX5_readTest_5.2.2.2.1 (fun H87 locs hB hf hst87 => ?_)
              have mm42 := (th_F_o hf h0 ro_20 (j := 7) (by decide) (by decide)).trans mm36
              have mm43 := (th_F_o hf h0 ro_20 (j := 3) (by decide) (by decide)).trans mm37
              replace hF := hF.trans (congrArg (dv_k (f_X5_readTest_8b d (f_X5_readPlain d))) (dv_bn (dv_putI hB.1 h0 ro_20 (j := 5) rfl (th_apart hC cf_X5) hst87 (Eq.refl _) (by decide))))
              have mm44 := hst87.2.1
              have hR := th_RD_st (th_RC_F hB.1 hR.1 hf (th_T_s h0 ro_20 hst87) (by decide)) hR h0 hst87 (th_RD_up (th_apart hC cf_X5 0 5 (by decide) (by decide) (by decide)) (hR.2 _ _ h0) tk h0 mx40 (by have w1 := tk_1; omega) hst87)
              refine lv_aload_n hx hb gX5_readTest_5.2.2.2.2.1 rfl (lv_at hl 1 rfl) ?_
              refine th_getK hC cf_X5 hB.1 h0 ro_20 rfl (j := 3) (by decide) mm43 kf_X5_22 gX5_readTest_5.2.2.2.2.2.1 ?_
              replace hF := hF.trans (congrArg (dv_k (f_X5_readTest_8b d (f_X5_readPlain d))) (dv_bn (dv_getR h0 ro_20 (j := 3) rfl mm43 (by decide))))
              refine lv_sipush (v := 3009) hx hb gX5_readTest_5.2.2.2.2.2.2.1 (by decide) ?_
              refine th_call (th_runV (As := [.int 3009]) (rest := []) hC mf_X10_addJump km_X5_192 im_X10_addJump se_X10_addJump (c_X10_addJump l G Γ H87 hB.1 hR.1 hU bn3 hbn3 3009 (by decide)) rfl rfl ⟨by dsimp only; omega, by dsimp only; omega⟩ hB.1 hbn3 ro_39 rfl rfl hl.1 rfl (Nat.le_of_ble_eq_true rfl) gX5_readTest_5.2.2.2.2.2.2.2 ⟨Nat.le_refl _, Nat.le_refl _⟩) hB.2.1 (fun v97 H97 locs hp hz hS => ?_)
              have hRD := hR
              obtain ⟨x45, rfl, lx45, ux45, hI1, hf, hR, z97_0⟩ := hp
              have hR := th_RD_c hR hRD hf (by decide)
              have hB := th_B_c hB hI1 hS hf (by decide)
              have mm46 := (th_F_o hf h0 ro_20 (j := 7) (by decide) (by decide)).trans mm42
              have mm47 := (th_F_o hf h0 ro_20 (j := 3) (by decide) (by decide)).trans mm43
              have mm48 := (th_F_o hf h0 ro_20 (j := 5) (by decide) (by decide)).trans mm44
              have zf97 := z97_0
              rw [tk_3009] at zf97
              replace hF := hF.trans (congrArg (dv_k (f_X5_readTest_8b d (f_X5_readPlain d))) (dv_bn2 (zf97)))
              refine W.eq (g2 := F0 m 100 ls [.int x45]) rfl ?_
              refine lv_istore (lv' := [(4, .int x45), (3, .int x35), (0, .ref a0), (1, .int j8_1), (2, .int j8_2)]) hx hb gX5_readTest_6.1 hl (by decide) rfl (fun ls hl => ?_)
              refine lv_aload_n hx hb gX5_readTest_6.2.1 rfl (lv_at hl 2 rfl) ?_
              refine th_call (th_runV (As := []) (rest := []) hC mf_X5_readPlain km_X5_183 im_X5_readPlain se_X5_readPlain (ihp l G Γ H97 hB.1 hR hU a0 h0 ⟨_, mm47, hbn3⟩ bv mm46 (by omega) (by omega)) rfl rfl ⟨by dsimp only; omega, by dsimp only; omega⟩ hB.1 h0 ro_20 rfl rfl hl.1 rfl (Nat.le_of_ble_eq_true rfl) gX5_readTest_6.2.2.1 ⟨Nat.le_refl _, Nat.le_refl _⟩) hB.2.1 (fun v103 H103 locs hp hz hS => ?_)
              obtain ⟨rfl, hI1, hf, hR, z103_0, z103_1⟩ := hp
              have hB := th_B_c hB hI1 hS hf (by decide)
              have mm49 := (th_F_o hf h0 ro_20 (j := 3) (by decide) (by decide)).trans mm47
              replace hF := hF.trans (congrArg (dv_k (f_X5_readTest_8b d (f_X5_readPlain d))) (dv_bn2 (z103_1)))
              refine W.eq (g2 := F0 m 106 ls []) rfl ?_
              refine lv_aload_n hx hb gX5_readTest_6.2.2.2.1 rfl (lv_at hl 2 rfl) ?_
              refine th_getK hC cf_X5 hB.1 h0 ro_20 rfl (j := 3) (by decide) mm49 kf_X5_22 gX5_readTest_6.2.2.2.2.1 ?_
              replace hF := hF.trans (congrArg (dv_k (f_X5_readTest_8b d (f_X5_readPlain d))) (dv_bn (dv_getR h0 ro_20 (j := 3) rfl mm49 (by decide))))
              refine lv_iload hx hb gX5_readTest_6.2.2.2.2.2.1 (lv_at hl 0 rfl) ?_
              refine lv_aload_n hx hb gX5_readTest_6.2.2.2.2.2.2.1 rfl (lv_at hl 2 rfl) ?_
              refine th_getK hC cf_X5 hB.1 h0 ro_20 rfl (j := 3) (by decide) mm49 kf_X5_22 gX5_readTest_6.2.2.2.2.2.2.2 ?_
              replace hF := hF.trans (congrArg (dv_k (f_X5_readTest_8b d (f_X5_readPlain d))) (dv_bn (dv_getR h0 ro_20 (j := 3) rfl mm49 (by decide))))
              refine th_getI (j := 2) hC cf_X10 hB.1 hbn3 ro_39 rfl rfl kf_X5_174 gX5_readTest_7.1 (fun x50 mx50 lx50 ux50 => ?_)
              replace hF := hF.trans (congrArg (dv_k (f_X5_readTest_8b d (f_X5_readPlain d))) (dv_bn (dv_getI hbn3 ro_39 (j := 2) rfl mx50 (by decide))))
              refine th_call (th_runV (As := [.int x45, .int x50]) (rest := []) hC mf_X10_setCode km_X5_189 im_X10_setCode se_X10_setCode (c_X10_setCode l G Γ H103 hB.1 hR.1 hU bn3 hbn3 x45 x50 (by omega)) rfl rfl ⟨by dsimp only; omega, by dsimp only; omega⟩ hB.1 hbn3 ro_39 rfl rfl hl.1 rfl (Nat.le_of_ble_eq_true rfl) gX5_readTest_7.2.1 ⟨Nat.le_refl _, Nat.le_refl _⟩) hB.2.1 (fun v119 H119 locs hp hz hS => ?_)
              have hRD := hR
              obtain ⟨rfl, hI1, hf, hR, z119_0⟩ := hp
              have hR := th_RD_c hR hRD hf (by decide)
              have hB := th_B_c hB hI1 hS hf (by decide)
              have mm51 := (th_F_o hf h0 ro_20 (j := 3) (by decide) (by decide)).trans mm49
              have mm52 := (th_F_o hf h0 ro_20 (j := 7) (by decide) (by decide)).trans z103_0
              have mm53 := (th_F_o hf hbn3 ro_39 (j := 2) (by decide) (by decide)).trans mx50
              replace hF := hF.trans (congrArg (dv_k (f_X5_readTest_8b d (f_X5_readPlain d))) (dv_bn2 (z119_0)))
              refine W.eq (g2 := F0 m 122 ls []) rfl ?_
              exact jn122 H119 locs ls j8_1 hB hR (lv_sub hl [2, 4, 3] rfl) hF (by omega) (by omega) mm52
            · replace hF := hF.trans (congrArg (dv_k (f_X5_readTest_8b d (f_X5_readPlain d))) (if_neg c44))
              refine lv_aload_n hx hb gX5_readTest_2.2.2.2.2.2.2.2 rfl (lv_at hl 1 rfl) ?_
              refine th_getK hC cf_X5 hB.1 h0 ro_20 rfl (j := 3) (by decide) mm37 kf_X5_22 gX5_readTest_3.1 ?_
              replace hF := hF.trans (congrArg (dv_k (f_X5_readTest_8b d (f_X5_readPlain d))) (dv_bn (dv_getR h0 ro_20 (j := 3) rfl mm37 (by decide))))
              refine lv_iload_n hx hb gX5_readTest_3.2.1 rfl (lv_at hl 2 rfl) ?_
              refine lv_aload_n hx hb gX5_readTest_3.2.2.1 rfl (lv_at hl 1 rfl) ?_
              refine th_getK hC cf_X5 hB.1 h0 ro_20 rfl (j := 3) (by decide) mm37 kf_X5_22 gX5_readTest_3.2.2.2.1 ?_
              replace hF := hF.trans (congrArg (dv_k (f_X5_readTest_8b d (f_X5_readPlain d))) (dv_bn (dv_getR h0 ro_20 (j := 3) rfl mm37 (by decide))))
              refine th_getI (j := 2) hC cf_X10 hB.1 hbn3 ro_39 rfl rfl kf_X5_174 gX5_readTest_3.2.2.2.2.1 (fun x54 mx54 lx54 ux54 => ?_)
              replace hF := hF.trans (congrArg (dv_k (f_X5_readTest_8b d (f_X5_readPlain d))) (dv_bn (dv_getI hbn3 ro_39 (j := 2) rfl mx54 (by decide))))
              refine th_call (th_runV (As := [.int j8_1, .int x54]) (rest := []) hC mf_X10_setCode km_X5_189 im_X10_setCode se_X10_setCode (c_X10_setCode l G Γ H39 hB.1 hR.1 hU bn3 hbn3 j8_1 x54 (by omega)) rfl rfl ⟨by dsimp only; omega, by dsimp only; omega⟩ hB.1 hbn3 ro_39 rfl rfl hl.1 rfl (Nat.le_of_ble_eq_true rfl) gX5_readTest_3.2.2.2.2.2.1 ⟨Nat.le_refl _, Nat.le_refl _⟩) hB.2.1 (fun v59 H59 locs hp hz hS => ?_)
              have hRD := hR
              obtain ⟨rfl, hI1, hf, hR, z59_0⟩ := hp
              have hR := th_RD_c hR hRD hf (by decide)
              have hB := th_B_c hB hI1 hS hf (by decide)
              have mm55 := (th_F_o hf h0 ro_20 (j := 7) (by decide) (by decide)).trans mm36
              have mm56 := (th_F_o hf h0 ro_20 (j := 3) (by decide) (by decide)).trans mm37
              have mm57 := (th_F_o hf hbn3 ro_39 (j := 2) (by decide) (by decide)).trans mx54
              replace hF := hF.trans (congrArg (dv_k (f_X5_readTest_8b d (f_X5_readPlain d))) (dv_bn2 (z59_0)))
              refine W.eq (g2 := F0 m 62 ls []) rfl ?_
              refine lv_aload_n hx hb gX5_readTest_3.2.2.2.2.2.2.1 rfl (lv_at hl 1 rfl) ?_
              refine th_getK hC cf_X5 hB.1 h0 ro_20 rfl (j := 3) (by decide) mm56 kf_X5_22 gX5_readTest_3.2.2.2.2.2.2.2 ?_
              replace hF := hF.trans (congrArg (dv_k (f_X5_readTest_8b d (f_X5_readPlain d))) (dv_bn (dv_getR h0 ro_20 (j := 3) rfl mm56 (by decide))))
              refine lv_sipush (v := 3010) hx hb gX5_readTest_4.1 (by decide) ?_
              refine th_call (th_runV (As := [.int 3010]) (rest := []) hC mf_X10_addJump km_X5_192 im_X10_addJump se_X10_addJump (c_X10_addJump l G Γ H59 hB.1 hR.1 hU bn3 hbn3 3010 (by decide)) rfl rfl ⟨by dsimp only; omega, by dsimp only; omega⟩ hB.1 hbn3 ro_39 rfl rfl hl.1 rfl (Nat.le_of_ble_eq_true rfl) gX5_readTest_4.2.1 ⟨Nat.le_refl _, Nat.le_refl _⟩) hB.2.1 (fun v69 H69 locs hp hz hS => ?_)
              have hRD := hR
              obtain ⟨x58, rfl, lx58, ux58, hI1, hf, hR, z69_0⟩ := hp
              have hR := th_RD_c hR hRD hf (by decide)
              have hB := th_B_c hB hI1 hS hf (by decide)
              have mm59 := (th_F_o hf h0 ro_20 (j := 7) (by decide) (by decide)).trans mm55
              have mm60 := (th_F_o hf h0 ro_20 (j := 3) (by decide) (by decide)).trans mm56
              have zf69 := z69_0
              rw [tk_3010] at zf69
              replace hF := hF.trans (congrArg (dv_k (f_X5_readTest_8b d (f_X5_readPlain d))) (dv_bn2 (zf69)))
              refine W.eq (g2 := F0 m 72 ls [.int x58]) rfl ?_
              refine lv_istore_n (lv' := [(1, .int x58), (3, .int x35), (0, .ref a0), (2, .int j8_2)]) hx hb gX5_readTest_4.2.2.1 rfl hl (by decide) rfl (fun ls hl => ?_)
              refine lv_aload_n hx hb gX5_readTest_4.2.2.2.1 rfl (lv_at hl 2 rfl) ?_
              refine th_call (th_runV (As := []) (rest := []) hC mf_X5_readPlain km_X5_183 im_X5_readPlain se_X5_readPlain (ihp l G Γ H69 hB.1 hR hU a0 h0 ⟨_, mm60, hbn3⟩ bv mm59 (by omega) (by omega)) rfl rfl ⟨by dsimp only; omega, by dsimp only; omega⟩ hB.1 h0 ro_20 rfl rfl hl.1 rfl (Nat.le_of_ble_eq_true rfl) gX5_readTest_4.2.2.2.2.1 ⟨Nat.le_refl _, Nat.le_refl _⟩) hB.2.1 (fun v74 H74 locs hp hz hS => ?_)
              obtain ⟨rfl, hI1, hf, hR, z74_0, z74_1⟩ := hp
              have hB := th_B_c hB hI1 hS hf (by decide)
              have mm61 := (th_F_o hf h0 ro_20 (j := 3) (by decide) (by decide)).trans mm60
              replace hF := hF.trans (congrArg (dv_k (f_X5_readTest_8b d (f_X5_readPlain d))) (dv_bn2 (z74_1)))
              refine W.eq (g2 := F0 m 77 ls []) rfl ?_
              refine lv_goto (tgt := 122) hx hb gX5_readTest_4.2.2.2.2.2.1 (by decide) ?_
              exact jn122 H74 locs ls x58 hB hR (lv_sub hl [2, 3, 0] rfl) hF (by omega) (by omega) z74_0
  exact lp8 ((2147483648 : Int) - (0)).toNat H1 locs ls (-1) 0 hB hR (lv_sub hl [2, 1, 0] rfl) (by rw [tk_m1, tk_0]; exact hF) (by decide) (by decide) (by decide) (by decide) z1_0 (by have w0 := tk_0; have w1 := tk_m1; omega)

theorem c_X5_readTest_d (d : Nat) : s_X5_readTest d := by
  induction d with
  | zero => exact c_X5_readTest_s 0 (c_X5_readPlain_s 0 (fun d' h => absurd h (by omega)))
  | succ d ih => exact c_X5_readTest_s (d + 1) (c_X5_readPlain_s (d + 1) (fun d' h => by cases h; exact ih))
theorem c_X5_readPlain_d (d : Nat) : s_X5_readPlain d := c_X5_readPlain_s d (fun d' _ => c_X5_readTest_d d')

theorem c_X5_readPlain (l : Launch) (G : th_G) (Γ : th_Ga) (H0 : Heap) (hI : th_I G Γ H0) (hR : th_RD G Γ H0) (hU : dv_U Γ) (a0 : Nat) (h0 : Γ a0 = (20, 0)) (nn3 : ∃ b : Nat, th_sl H0 a0 (G.1.1.2 5 3) = .ref b ∧ Γ b = (39, 0)) (bv : Int32) (mbv : th_sl H0 a0 (G.1.1.2 5 7) = .int bv) (nbv : 0 ≤ bv.toInt) (hlo : 0 ≤ bv.toInt) : Met l yX5_readPlain (.code yX5_readPlain cX5_readPlain 3 (none) :: th_tb) ({ frames := 42, cells := 0, slots := 0, locals := 1268 } : Room) (th_P [.ref a0] G H0) (th_Q (fun (v : Option Value) (H1 : Heap) => v = none ∧ th_I G Γ H1 ∧ th_F G Γ [(20, 5), (20, 6), (20, 7), (20, 8), (40, 0), (39, 2)] H0 H1 ∧ th_RD G Γ H1 ∧ (th_sl H1 a0 (G.1.1.2 5 7) = .int bv) ∧ (f_X5_readPlain 8 (dv G Γ H0) (a0 : Int) = (dv G Γ H1, 0))) G) 0 0 (fun q => G.1.2.2 ≤ q) := c_X5_readPlain_d 8 l G Γ H0 hI hR hU a0 h0 nn3 bv mbv nbv (by omega)

theorem c_X5_readTest (l : Launch) (G : th_G) (Γ : th_Ga) (H0 : Heap) (hI : th_I G Γ H0) (hR : th_RD G Γ H0) (hU : dv_U Γ) (a0 : Nat) (h0 : Γ a0 = (20, 0)) (nn3 : ∃ b : Nat, th_sl H0 a0 (G.1.1.2 5 3) = .ref b ∧ Γ b = (39, 0)) (bv : Int32) (mbv : th_sl H0 a0 (G.1.1.2 5 7) = .int bv) (nbv : 0 ≤ bv.toInt) (hlo : 0 ≤ bv.toInt) : Met l yX5_readTest (.code yX5_readTest cX5_readTest 5 (none) :: th_tb) ({ frames := 43, cells := 0, slots := 0, locals := 1290 } : Room) (th_P [.ref a0] G H0) (th_Q (fun (v : Option Value) (H1 : Heap) => v = none ∧ th_I G Γ H1 ∧ th_F G Γ [(20, 5), (20, 6), (20, 7), (20, 8), (40, 0), (39, 2)] H0 H1 ∧ th_RD G Γ H1 ∧ (th_sl H1 a0 (G.1.1.2 5 7) = .int bv) ∧ (f_X5_readTest 8 (dv G Γ H0) (a0 : Int) = (dv G Γ H1, 0))) G) 0 0 (fun q => G.1.2.2 ≤ q) := c_X5_readTest_d 8 l G Γ H0 hI hR hU a0 h0 nn3 bv mbv nbv (by omega)
end
section
section TSTR
variable {p : Program} {l : Launch} {e : Env} {R : Room} {s : State} {m : MethodId} {args : Array Value} {below : List Frame} {meth : Method} {c : Code} {H H0 : Heap} {locs : List Loc} {cells slots : Nat} {Q : State → Prop}
variable {cc : ByteArray} {pc : Nat} {ls : Array Slot} {rest : List Value} {G : th_G} {Γ Γ0 : th_Ga} {L : List (Nat × Nat)}
/-- what a predicate of the state must bear: another frame, warmer tables -/
def th_MV (X : State → Prop) : Prop := (∀ u U : State, U.vm = u.vm → X u → X U) ∧ (∀ u U : State, u.WarmedH U.vm → X u → X U)
def th_PX (av : List Value) (G : th_G) (H : Heap) (X : State → Prop) : Array Value → State → Prop := va_Pc av (fun U => U.heap = H ∧ th_K G U ∧ X U)
theorem th_blindX {av : List Value} {X : State → Prop} (hm : th_MV X) : FrameBlind (th_PX av G H X) := fun a U g mk q => ⟨q.1, q.2.1, th_K_moved (u := U) (U := U.calling g mk a) (Vm.Alike.refl U.vm) q.2.2.1, hm.1 U (U.calling g mk a) rfl q.2.2.2⟩
theorem th_metX {y : MethodName} {code' : ByteArray} {maxL : Nat} {ret' : Option FieldType} {rm : Room} {av : List Value} {post : Option Value → Heap → Prop} {mc ms : Nat} {X : State → Prop} (own : String) (hy : plainName y.cls = true) (hown : y.cls = own) (hlen : (lg_sl av).length ≤ maxL)
    (body : ∀ (p : Program) (e : Env) (s : State) (m : MethodId) (below : List Frame) (meth : Method) (c : Code), th_C p s m av.toArray c code' maxL own G → X s → s.heap = H → meth.sig.returnType = ret' → meth.locks = false → meth.name = y.name → ∀ ls : Array Slot, lv_has ls maxL (lv_args 0 av) →
      W p l e rm s m av.toArray below meth c H [] 0 0 (MQ below (th_Q post G) av.toArray s mc ms (fun q => G.1.2.2 ≤ q)) (F0 m 0 ls [])) : Met l y (.code y code' maxL ret' :: th_tb) rm (th_PX av G H X) (th_Q post G) mc ms (fun q => G.1.2.2 ≤ q) := by
  refine Met.ofW (cc := code') (maxL := maxL) (ret := ret') hy rfl ?_
  intro p e s m args below meth c s₁ B hml hv
  obtain ⟨rfl, hH, hK, hX⟩ := hv
  have hts := atoms_spec (ws := .code y code' maxL ret' :: th_tb) B.pre
  have hl := lv_entry av (n := maxL) hlen
  rw [lg_entry_eq]
  generalize (lg_sl av ++ List.replicate (maxL - (lg_sl av).length) Slot.unset).toArray = ls at hl ⊢
  have hw := body p e s m below meth c ⟨B.exec, B.bytes, hml, hown ▸ findClass_of_methodNamed B.named, fun w hw => hts w (List.mem_cons_of_mem _ hw), hK⟩ hX hH B.returns B.notSynchronized (name_of_methodNamed B.named B.method).1 ls hl
  rw [← hH] at hw
  exact hw
theorem th_runSX {nL : Nat} {own : String} {X : State → Prop} (hm : th_MV X) (hX : X s) (hC : th_C p s m args c cc nL own G) {y : MethodName} {bytes : ByteArray} {maxL n index mc ms : Nat} {ret' : Option FieldType} {rm : Room} {post : Option Value → Heap → Prop} {As : List Value} (hF : th_MF y bytes maxL ret' n) (hlk : Cond.methodLink own index y ∈ th_tb) (hst : Cond.static y ∈ th_tb)
    (hM : Met l y (.code y bytes maxL ret' :: th_tb) rm (th_PX As G H X) (th_Q post G) mc ms (fun q => G.1.2.2 ≤ q)) (hrc : rm.cells = mc) (hrs : rm.slots = ms) (hR : rm.frames + 1 ≤ R.frames ∧ 8 + (maxL + 11) + rm.locals ≤ R.locals)
    {st0 : List Value} (hn : As.length = n) (hsize : ls.size = nL) (hstack : st0 = As.reverse ++ rest) (hW : (rest.map fun v => v.category).sum ≤ 8) (hdg : decode cc pc = .ok (.invokestatic index, 3)) (hf : cells + mc ≤ R.cells ∧ slots + ms ≤ R.slots) :
    va_Run p l e R s m args below meth c H locs cells slots mc ms (F0 m pc ls st0) rest (th_Q post G As.toArray) (fun q => G.1.2.2 ≤ q) :=
  va_runS (nL := nL) (Ts := th_tb) ⟨hC.1, hC.2.1, hC.2.2.1, hC.2.2.2.1, hC.2.2.2.2.1⟩ hM ⟨th_cb hC hF hlk hrc hrs hR, hC.2.2.2.2.1 _ hst⟩ ⟨th_blindX hm, fun U hU hW => ⟨rfl, hU, th_K_moved hW.alike hC.2.2.2.2.2, hm.2 s U hW hX⟩⟩ rfl hn hsize hstack (lv_room hW) hdg hf
theorem th_runVX {nL : Nat} {own : String} {X : State → Prop} (hm : th_MV X) (hX : X s) (hC : th_C p s m args c cc nL own G) {y : MethodName} {bytes : ByteArray} {maxL n index mc ms : Nat} {ret' : Option FieldType} {rm : Room} {post : Option Value → Heap → Prop} {As : List Value} {b : Nat} (hF : th_MF y bytes maxL ret' n) (hlk : Cond.methodLink own index y ∈ th_tb) (hin : Cond.instanceMethod y ∈ th_tb) (hse : Cond.selects y.cls y y ∈ th_tb)
    (hM : Met l y (.code y bytes maxL ret' :: th_tb) rm (th_PX (.ref b :: As) G H X) (th_Q post G) mc ms (fun q => G.1.2.2 ≤ q)) (hrc : rm.cells = mc) (hrs : rm.slots = ms) (hR : rm.frames + 1 ≤ R.frames ∧ 8 + (maxL + 11) + rm.locals ≤ R.locals)
    {T : u_T} {N k r o : Nat} {fs : List th_sp} (hI : th_I G Γ H) (ha : Γ b = (r, o)) (hr : th_ro r = some (.inl (k, fs))) (hc : th_cl[k]? = some (y.cls, T, N))
    {st0 : List Value} (hn : As.length = n) (hsize : ls.size = nL) (hstack : st0 = As.reverse ++ .ref b :: rest) (hW : (rest.map fun v => v.category).sum ≤ 8) (hdg : decode cc pc = .ok (.invokevirtual index, 3)) (hf : cells + mc ≤ R.cells ∧ slots + ms ≤ R.slots) :
    va_Run p l e R s m args below meth c H locs cells slots mc ms (F0 m pc ls st0) rest (th_Q post G (Value.ref b :: As).toArray) (fun q => G.1.2.2 ≤ q) := by
  obtain ⟨-, ⟨cell, q1, q2, q3, -⟩, -⟩ := hI b r o _ ha hr
  exact va_runV (nL := nL) (Ts := th_tb) (C := y.cls) ⟨hC.1, hC.2.1, hC.2.2.1, hC.2.2.2.1, hC.2.2.2.2.1⟩ hM ⟨th_cb hC hF hlk hrc hrs hR, hC.2.2.2.2.1 _ hin, hC.2.2.2.2.1 _ hse⟩ ⟨th_blindX hm, ⟨cell, q1, by rw [q3]; rfl, by rw [q2]; exact (hC.2.2.2.2.2.1.1 k _ hc).2.1⟩, fun U hU hW => ⟨rfl, hU, th_K_moved hW.alike hC.2.2.2.2.2, hm.2 s U hW hX⟩⟩ rfl hn hsize hstack (lv_room hW) hdg hf
/-- the statics that String's methods read -/
def th_Zc (G : th_G) (U : State) (H : Heap) : Prop := va_Z "java/lang/String" "COMPACT_STRINGS" "Z" (.int 1) (fun q => G.1.2.2 ≤ q) U H ∧ ∃ w : Value, (w = .null ∨ ∃ a : Nat, w = .ref a) ∧ va_Z "jdk/internal/util/Preconditions" "SIOOBE_FORMATTER" "Ljava/util/function/BiFunction;" w (fun q => G.1.2.2 ≤ q) U H
/-- a String of n bytes, outside the system -/
def th_Zq (G : th_G) (q : Nat) (n : List Int32) (U : State) (H : Heap) : Prop := n.length < 8 ∧ ∃ v : Nat, va_O "java/lang/String" q (fun q => G.1.2.2 ≤ q) U H ∧ va_OF "java/lang/String" "coder" "B" (.int 0) q (fun q => G.1.2.2 ≤ q) U H ∧ va_OF "java/lang/String" "value" "[B" (.ref v) q (fun q => G.1.2.2 ≤ q) U H ∧ va_T .byte v n.length (fun j => .int (n.getD j 0)) (fun q => G.1.2.2 ≤ q) U H
theorem th_Zc_m {u U : State} (hvm : u.vm.Alike U.vm) (h : th_Zc G u H) : th_Zc G U H := ⟨va_Z.moved hvm h.1, by obtain ⟨w, h1, h2⟩ := h.2; exact ⟨w, h1, va_Z.moved hvm h2⟩⟩
theorem th_Zq_m {u U : State} {q : Nat} {n : List Int32} (hvm : u.vm.Alike U.vm) (h : th_Zq G q n u H) : th_Zq G q n U H := by
  obtain ⟨h0, v, h1, h2, h3, h4⟩ := h
  exact ⟨h0, v, va_O.moved hvm h1, va_OF.moved hvm h2, va_OF.moved hvm h3, va_T.moved hvm h4⟩
theorem th_Zc_k {U : State} {H1 : Heap} (h : th_Zc G U H) (hS : va_S (fun q => G.1.2.2 ≤ q) H H1 locs) : th_Zc G U H1 := by
  obtain ⟨h1, w, h2, h3⟩ := h
  exact ⟨h1.kept hS.2.1, w, h2, h3.kept hS.2.1⟩
theorem th_Zq_k {U : State} {H1 : Heap} {q : Nat} {n : List Int32} (h : th_Zq G q n U H) (hS : va_S (fun q => G.1.2.2 ≤ q) H H1 locs) : th_Zq G q n U H1 := by
  obtain ⟨h0, v, h1, h2, h3, h4⟩ := h
  exact ⟨h0, v, h1.kept hS.2.1, h2.kept hS.2.1, h3.kept hS.2.1, h4.kept hS.2.1⟩
theorem th_alike {u U : State} (e : U.vm = u.vm) : u.vm.Alike U.vm := by rw [e]; exact Vm.Alike.refl _
theorem th_mvc : th_MV (fun U => th_Zc G U H) := ⟨fun _ _ e h => th_Zc_m (th_alike e) h, fun _ _ e h => th_Zc_m e.alike h⟩
theorem th_mvq {q : Nat} {n : List Int32} : th_MV (fun U => th_Zc G U H ∧ th_Zq G q n U H) := ⟨fun _ _ e h => ⟨th_Zc_m (th_alike e) h.1, th_Zq_m (th_alike e) h.2⟩, fun _ _ e h => ⟨th_Zc_m e.alike h.1, th_Zq_m e.alike h.2⟩⟩
def th_XT (G : th_G) (v : Nat) (n : List Int32) (U : State) (H : Heap) : Prop := n.length < 8 ∧ va_T .byte v n.length (fun j => .int (n.getD j 0)) (fun q => G.1.2.2 ≤ q) U H
theorem th_XT_m {u U : State} {q : Nat} {n : List Int32} (hvm : u.vm.Alike U.vm) (h : th_XT G q n u H) : th_XT G q n U H := by
  obtain ⟨h0, h4⟩ := h
  exact ⟨h0, va_T.moved hvm h4⟩
theorem th_mvt {q : Nat} {n : List Int32} : th_MV (fun U => th_Zc G U H ∧ th_XT G q n U H) := ⟨fun _ _ e h => ⟨th_Zc_m (th_alike e) h.1, th_XT_m (th_alike e) h.2⟩, fun _ _ e h => ⟨th_Zc_m e.alike h.1, th_XT_m e.alike h.2⟩⟩
/-- a call of a String's own method -/
theorem th_runQ {nL : Nat} {own : String} {X : State → Prop} (hm : th_MV X) (hX : X s) {b : Nat} {n0 : List Int32} (hq : th_Zq G b n0 s H) (hC : th_C p s m args c cc nL own G) {y : MethodName} {bytes : ByteArray} {maxL n index mc ms : Nat} {ret' : Option FieldType} {rm : Room} {post : Option Value → Heap → Prop} {As : List Value} (hy : y.cls = "java/lang/String") (hF : th_MF y bytes maxL ret' n) (hlk : Cond.methodLink own index y ∈ th_tb) (hin : Cond.instanceMethod y ∈ th_tb) (hse : Cond.selects y.cls y y ∈ th_tb)
    (hM : Met l y (.code y bytes maxL ret' :: th_tb) rm (th_PX (.ref b :: As) G H X) (th_Q post G) mc ms (fun q => G.1.2.2 ≤ q)) (hrc : rm.cells = mc) (hrs : rm.slots = ms) (hR : rm.frames + 1 ≤ R.frames ∧ 8 + (maxL + 11) + rm.locals ≤ R.locals)
    {st0 : List Value} (hn : As.length = n) (hsize : ls.size = nL) (hstack : st0 = As.reverse ++ .ref b :: rest) (hW : (rest.map fun v => v.category).sum ≤ 8) (hdg : decode cc pc = .ok (.invokevirtual index, 3)) (hf : cells + mc ≤ R.cells ∧ slots + ms ≤ R.slots) :
    va_Run p l e R s m args below meth c H locs cells slots mc ms (F0 m pc ls st0) rest (th_Q post G (Value.ref b :: As).toArray) (fun q => G.1.2.2 ≤ q) := by
  obtain ⟨-, v, ⟨cell, q1, q2, q3, -⟩, -⟩ := hq
  exact va_runV (nL := nL) (Ts := th_tb) (C := y.cls) ⟨hC.1, hC.2.1, hC.2.2.1, hC.2.2.2.1, hC.2.2.2.2.1⟩ hM ⟨th_cb hC hF hlk hrc hrs hR, hC.2.2.2.2.1 _ hin, hC.2.2.2.2.1 _ hse⟩ ⟨th_blindX hm, ⟨cell, q1, q2, by rw [hy]; exact q3⟩, fun U hU hW => ⟨rfl, hU, th_K_moved hW.alike hC.2.2.2.2.2, hm.2 s U hW hX⟩⟩ rfl hn hsize hstack (lv_room hW) hdg hf
/-- the words of the language: place in the pool, text, bytes -/
def th_st27 : List (Nat × String × List Int32) := [(94, "costs", [99, 111, 115, 116, 115]), (100, "wears", [119, 101, 97, 114, 115]), (102, "bars", [98, 97, 114, 115]), (104, "lay", [108, 97, 121]), (106, "roll", [114, 111, 108, 108]), (108, "mirror", [109, 105, 114, 114, 111, 114]), (110, "pass", [112, 97, 115, 115]), (112, "if", [105, 102]), (114, "times", [116, 105, 109, 101, 115]), (116, "at", [97, 116]), (117, "by", [98, 121]), (119, "or", [111, 114]), (121, "and", [97, 110, 100]), (123, "not", [110, 111, 116]), (125, "carpet", [99, 97, 114, 112, 101, 116]), (127, "side", [115, 105, 100, 101]), (129, "kind", [107, 105, 110, 100]), (131, "pile", [112, 105, 108, 101]), (133, "x", [120]), (135, "y", [121]), (137, "year", [121, 101, 97, 114]), (139, "mood", [109, 111, 111, 100]), (141, "done", [100, 111, 110, 101]), (143, "latest", [108, 97, 116, 101, 115, 116]), (145, "bare", [98, 97, 114, 101]), (147, "paid", [112, 97, 105, 100]), (149, "laid", [108, 97, 105, 100])]
def th_Z (G : th_G) (U : State) (H : Heap) : Prop := th_Zc G U H ∧ ∀ k : Nat × String × List Int32, k ∈ th_st27 → ∃ q : Nat, th_Zq G q k.2.2 U H ∧ vk_R RX5 k.1 k.2.1 q U
theorem th_Z_k {U : State} {H1 : Heap} (h : th_Z G U H) (hS : va_S (fun q => G.1.2.2 ≤ q) H H1 locs) : th_Z G U H1 := ⟨th_Zc_k h.1 hS, fun k hk => by obtain ⟨q, h1, h2⟩ := h.2 k hk; exact ⟨q, th_Zq_k h1 hS, h2⟩⟩
theorem th_mvZ : th_MV (fun U => th_Z G U H) := ⟨fun _ _ e h => ⟨th_Zc_m (th_alike e) h.1, fun k hk => by obtain ⟨q, h1, h2⟩ := h.2 k hk; exact ⟨q, th_Zq_m (th_alike e) h1, h2.same e⟩⟩, fun _ _ e h => ⟨th_Zc_m e.alike h.1, fun k hk => by obtain ⟨q, h1, h2⟩ := h.2 k hk; exact ⟨q, th_Zq_m e.alike h1, h2.warm e⟩⟩⟩
theorem th_ksub {x s z : Int32} (e : z = x - s) (h1 : 301 ≤ s.toInt) (h2 : s.toInt ≤ 304) (h3 : 0 ≤ z.toInt) : x.toInt ≠ -1 := by
  intro q
  have h4 := ti_sub (x := x) (y := s) q rfl (by omega) (by omega)
  rw [← e] at h4
  omega
theorem th_nch (x : Int32) : narrow .char (.int (x.toUInt32 % 65536).toInt32) = .int (x.toUInt32 % 65536).toInt32 := by
  show Value.int ((x.toUInt32 % 65536).toInt32.toUInt32.toUInt16.toUInt32.toInt32) = _
  congr 1
  rw [UInt32.toUInt32_toInt32]
  congr 1
  apply UInt32.toNat_inj.mp
  simp [UInt32.toNat_mod]
theorem th_shr0 {n : Nat} (h : n < 8) : (Int32.ofNat n >>> ((0 : Int32) &&& 31)).toInt = (n : Int) := by
  have h2 : ∀ k : Fin 8, (Int32.ofNat k.1 >>> ((0 : Int32) &&& 31)).toInt = ((k.1 : Nat) : Int) := by decide
  exact h2 ⟨n, h⟩
theorem c_J0_coder (l : Launch) (G : th_G) (H0 : Heap) (q : Nat) (n : List Int32) : Met l yJ0_coder_7d493 (.code yJ0_coder_7d493 cJ0_coder_7d493 1 (some FieldType.byte) :: th_tb) ({ frames := 0, cells := 0, slots := 0, locals := 0 } : Room) (th_PX [.ref q] G H0 (fun U => th_Zc G U H0 ∧ th_Zq G q n U H0)) (th_Q (fun (v : Option Value) (H1 : Heap) => v = some (.int 0) ∧ H0 = H1) G) 0 0 (fun q => G.1.2.2 ≤ q) := by
  refine th_metX RJ0 (by decide) rfl (Nat.le_of_ble_eq_true rfl) ?_
  intro p e s m below meth c hC hX hH hr hlocks hnm ls hl
  subst hH
  obtain ⟨⟨hz, -⟩, -, v, h1, h2, h3, h4⟩ := hX
  have hx := hC.1
  have hb := hC.2.1
  have hl : lv_has ls 1 [(0, .ref q)] := hl
  refine va_gets hx hb hz va_S.rf hC.2.2.2.1 (hC.2.2.2.2.1 _ kw_618) (fun _ h => h) dJ0_coder_7d493_0 ?_
  refine tr_if_eq (tgt := 13) hx hb dJ0_coder_7d493_3 (by decide) tk_1 (fun c3 => ?_) (fun c3 => ?_)
  · exfalso; omega
  · refine lv_aload_n hx hb dJ0_coder_7d493_6 rfl (lv_at hl 0 rfl) ?_
    refine vk_getf hx hb h2 va_S.rf hC.2.2.2.1 (hC.2.2.2.2.1 _ kw_1966) (fun _ h => h) dJ0_coder_7d493_7 ?_
    refine lv_goto (tgt := 14) hx hb dJ0_coder_7d493_10 (by decide) ?_
    exact th_iret hC rfl hr hlocks rfl va_S.rf ⟨rfl, rfl⟩ dJ0_coder_7d493_14
theorem c_J0_isLatin1 (l : Launch) (G : th_G) (H0 : Heap) (q : Nat) (n : List Int32) : Met l yJ0_isLatin1_aae02 (.code yJ0_isLatin1_aae02 cJ0_isLatin1_aae02 1 (some FieldType.boolean) :: th_tb) ({ frames := 0, cells := 0, slots := 0, locals := 0 } : Room) (th_PX [.ref q] G H0 (fun U => th_Zc G U H0 ∧ th_Zq G q n U H0)) (th_Q (fun (v : Option Value) (H1 : Heap) => v = some (.int 1) ∧ H0 = H1) G) 0 0 (fun q => G.1.2.2 ≤ q) := by
  refine th_metX RJ0 (by decide) rfl (Nat.le_of_ble_eq_true rfl) ?_
  intro p e s m below meth c hC hX hH hr hlocks hnm ls hl
  subst hH
  obtain ⟨⟨hz, -⟩, -, v, h1, h2, h3, h4⟩ := hX
  have hx := hC.1
  have hb := hC.2.1
  have hl : lv_has ls 1 [(0, .ref q)] := hl
  refine va_gets hx hb hz va_S.rf hC.2.2.2.1 (hC.2.2.2.2.1 _ kw_618) (fun _ h => h) dJ0_isLatin1_aae02_0 ?_
  refine tr_if_eq (tgt := 17) hx hb dJ0_isLatin1_aae02_3 (by decide) tk_1 (fun c3 => ?_) (fun c3 => ?_)
  · exfalso; omega
  · refine lv_aload_n hx hb dJ0_isLatin1_aae02_6 rfl (lv_at hl 0 rfl) ?_
    refine vk_getf hx hb h2 va_S.rf hC.2.2.2.1 (hC.2.2.2.2.1 _ kw_1966) (fun _ h => h) dJ0_isLatin1_aae02_7 ?_
    refine tr_if_ne (tgt := 17) hx hb dJ0_isLatin1_aae02_10 (by decide) tk_0 (fun c3 => ?_) (fun c3 => ?_)
    · exfalso; omega
    · refine lv_iconst (v := 1) hx hb dJ0_isLatin1_aae02_13 (by decide) ?_
      refine lv_goto (tgt := 18) hx hb dJ0_isLatin1_aae02_14 (by decide) ?_
      exact th_iret hC rfl hr hlocks narrow_b1 va_S.rf ⟨rfl, rfl⟩ dJ0_isLatin1_aae02_18
theorem c_J0_length (l : Launch) (G : th_G) (H0 : Heap) (q : Nat) (n : List Int32) : Met l yJ0_length_8abf5 (.code yJ0_length_8abf5 cJ0_length_8abf5 1 (some FieldType.int) :: th_tb) ({ frames := 1, cells := 0, slots := 0, locals := 20 } : Room) (th_PX [.ref q] G H0 (fun U => th_Zc G U H0 ∧ th_Zq G q n U H0)) (th_Q (fun (v : Option Value) (H1 : Heap) => ∃ r : Int32, v = some (.int r) ∧ r.toInt = (n.length : Int) ∧ H0 = H1) G) 0 0 (fun q => G.1.2.2 ≤ q) := by
  refine th_metX RJ0 (by decide) rfl (Nat.le_of_ble_eq_true rfl) ?_
  intro p e s m below meth c hC hX hH hr hlocks hnm ls hl
  subst hH
  obtain ⟨hn, v, h1, h2, h3, h4⟩ := id hX.2
  have hx := hC.1
  have hb := hC.2.1
  have hl : lv_has ls 1 [(0, .ref q)] := hl
  refine lv_aload_n hx hb dJ0_length_8abf5_0 rfl (lv_at hl 0 rfl) ?_
  refine vk_getf hx hb h3 va_S.rf hC.2.2.2.1 (hC.2.2.2.2.1 _ kw_1965) (fun _ h => h) dJ0_length_8abf5_1 ?_
  refine va_tlen hx hb h4 va_S.rf rfl dJ0_length_8abf5_4 ?_
  refine lv_aload_n hx hb dJ0_length_8abf5_5 rfl (lv_at hl 0 rfl) ?_
  refine th_call (th_runQ (As := []) (rest := [.int (Int32.ofNat n.length)]) th_mvq hX hX.2 hC rfl mf_J0_coder_7d493 kw_614 im_J0_coder_7d493 se_J0_coder_7d493 (c_J0_coder l G s.heap q n) rfl rfl ⟨Nat.le_of_ble_eq_true rfl, Nat.le_of_ble_eq_true rfl⟩ rfl hl.1 rfl (Nat.le_of_ble_eq_true rfl) dJ0_length_8abf5_6 ⟨Nat.le_refl _, Nat.le_refl _⟩) va_S.rf (fun v6 H6 locs hp hz hS => ?_)
  obtain ⟨rfl, rfl⟩ := hp
  refine W.eq (g2 := F0 m 9 ls [.int 0, .int (Int32.ofNat n.length)]) rfl ?_
  refine lv_ishr hx hb dJ0_length_8abf5_9 ?_
  exact th_iret hC rfl hr hlocks rfl hS ⟨_, rfl, th_shr0 hn, rfl⟩ dJ0_length_8abf5_10
theorem mf_J3 : th_MF yJ3_checkIndex_8e157 cJ3_checkIndex_8e157 3 (some FieldType.int) 3 := ⟨kw_638, kw_18, by decide +kernel⟩
theorem c_J3_checkIndex (l : Launch) (G : th_G) (H0 : Heap) (i n : Int32) (w : Value) (hw : w = .null ∨ ∃ a : Nat, w = .ref a) (h1 : 0 ≤ i.toInt) (h2 : i.toInt < n.toInt) : Met l yJ3_checkIndex_8e157 (.code yJ3_checkIndex_8e157 cJ3_checkIndex_8e157 3 (some FieldType.int) :: th_tb) ({ frames := 0, cells := 0, slots := 0, locals := 0 } : Room) (th_P [.int i, .int n, w] G H0) (th_Q (fun (v : Option Value) (H1 : Heap) => (∃ r : Int32, v = some (.int r)) ∧ H0 = H1) G) 0 0 (fun q => G.1.2.2 ≤ q) := by
  refine th_met RJ3 (by decide) rfl (by rcases hw with rfl | ⟨b, rfl⟩ <;> exact Nat.le_of_ble_eq_true rfl) ?_
  intro p e s m below meth c hC hH hr hlocks hnm ls hl
  subst hH
  have hx := hC.1
  have hb := hC.2.1
  have hl : lv_has ls 3 [(0, .int i), (1, .int n), (2, w)] := by rcases hw with rfl | ⟨b, rfl⟩ <;> exact hl
  refine lv_iload_n hx hb dJ3_checkIndex_8e157_0 rfl (lv_at hl 0 rfl) ?_
  refine tr_if_lt (tgt := 9) hx hb dJ3_checkIndex_8e157_1 (by decide) (Eq.refl _) (fun c3 => ?_) (fun c3 => ?_)
  · exfalso; omega
  · refine lv_iload_n hx hb dJ3_checkIndex_8e157_4 rfl (lv_at hl 0 rfl) ?_
    refine lv_iload_n hx hb dJ3_checkIndex_8e157_5 rfl (lv_at hl 1 rfl) ?_
    refine tr_icmp_lt (tgt := 16) hx hb dJ3_checkIndex_8e157_6 (by decide) (Eq.refl _) (Eq.refl _) (fun c4 => ?_) (fun c4 => ?_)
    · refine lv_iload_n hx hb dJ3_checkIndex_8e157_16 rfl (lv_at hl 0 rfl) ?_
      exact th_iret hC rfl hr hlocks rfl va_S.rf ⟨⟨_, rfl⟩, rfl⟩ dJ3_checkIndex_8e157_17
    · exfalso; omega
theorem c_J0_checkIndex (l : Launch) (G : th_G) (H0 : Heap) (i n : Int32) (h1 : 0 ≤ i.toInt) (h2 : i.toInt < n.toInt) : Met l yJ0_checkIndex_df160 (.code yJ0_checkIndex_df160 cJ0_checkIndex_df160 2 none :: th_tb) ({ frames := 1, cells := 0, slots := 0, locals := 22 } : Room) (th_PX [.int i, .int n] G H0 (fun U => th_Zc G U H0)) (th_Q (fun (v : Option Value) (H1 : Heap) => v = none ∧ H0 = H1) G) 0 0 (fun q => G.1.2.2 ≤ q) := by
  refine th_metX RJ0 (by decide) rfl (Nat.le_of_ble_eq_true rfl) ?_
  intro p e s m below meth c hC hX hH hr hlocks hnm ls hl
  subst hH
  obtain ⟨-, w, hw, hz⟩ := hX
  have hx := hC.1
  have hb := hC.2.1
  have hl : lv_has ls 2 [(0, .int i), (1, .int n)] := hl
  refine lv_iload_n hx hb dJ0_checkIndex_df160_0 rfl (lv_at hl 0 rfl) ?_
  refine lv_iload_n hx hb dJ0_checkIndex_df160_1 rfl (lv_at hl 1 rfl) ?_
  refine va_gets hx hb hz va_S.rf hC.2.2.2.1 (hC.2.2.2.2.1 _ kw_634) (fun _ h => h) dJ0_checkIndex_df160_2 ?_
  refine th_call (th_runS (As := [.int i, .int n, w]) (rest := []) hC mf_J3 kw_636 kw_637 (c_J3_checkIndex l G s.heap i n w hw h1 h2) rfl rfl ⟨Nat.le_of_ble_eq_true rfl, Nat.le_of_ble_eq_true rfl⟩ rfl hl.1 rfl (Nat.le_of_ble_eq_true rfl) dJ0_checkIndex_df160_5 ⟨Nat.le_refl _, Nat.le_refl _⟩) va_S.rf (fun v6 H6 locs hp hz hS => ?_)
  obtain ⟨⟨r, rfl⟩, rfl⟩ := hp
  refine W.eq (g2 := F0 m 8 ls [.int r]) rfl ?_
  refine lv_pop hx hb dJ0_checkIndex_df160_8 rfl ?_
  exact th_vret hC rfl hr hlocks hS ⟨rfl, rfl⟩ dJ0_checkIndex_df160_9
theorem c_J1_charAt (l : Launch) (G : th_G) (H0 : Heap) (q : Nat) (n : List Int32) (i : Int32) (h1 : 0 ≤ i.toInt) (h2 : i.toInt < (n.length : Int)) : Met l yJ1_charAt_3b067 (.code yJ1_charAt_3b067 cJ1_charAt_3b067 2 (some FieldType.char) :: th_tb) ({ frames := 2, cells := 0, slots := 0, locals := 43 } : Room) (th_PX [.ref q, .int i] G H0 (fun U => th_Zc G U H0 ∧ th_XT G q n U H0)) (th_Q (fun (v : Option Value) (H1 : Heap) => (∃ r : Int32, v = some (.int r) ∧ narrow .char (.int r) = .int r ∧ r.toInt = dv_ch (n.getD i.toInt.toNat 0)) ∧ H0 = H1) G) 0 0 (fun q => G.1.2.2 ≤ q) := by
  refine th_metX RJ1 (by decide) rfl (Nat.le_of_ble_eq_true rfl) ?_
  intro p e s m below meth c hC hX hH hr hlocks hnm ls hl
  subst hH
  obtain ⟨hzc, hn, h4⟩ := id hX
  have hx := hC.1
  have hb := hC.2.1
  have hl : lv_has ls 2 [(0, .ref q), (1, .int i)] := hl
  have hni : (Int32.ofNat n.length).toInt = (n.length : Int) := Int32.toInt_ofNat_of_lt (by omega)
  refine lv_iload_n hx hb dJ1_charAt_3b067_0 rfl (lv_at hl 1 rfl) ?_
  refine lv_aload_n hx hb dJ1_charAt_3b067_1 rfl (lv_at hl 0 rfl) ?_
  refine va_tlen hx hb h4 va_S.rf rfl dJ1_charAt_3b067_2 ?_
  refine th_call (th_runSX (As := [.int i, .int (Int32.ofNat n.length)]) (rest := []) th_mvc hzc hC mf_J0_checkIndex_df160 kw_631 st_J0_checkIndex_df160 (c_J0_checkIndex l G s.heap i (Int32.ofNat n.length) h1 (by rw [hni]; exact h2)) rfl rfl ⟨Nat.le_of_ble_eq_true rfl, Nat.le_of_ble_eq_true rfl⟩ rfl hl.1 rfl (Nat.le_of_ble_eq_true rfl) dJ1_charAt_3b067_3 ⟨Nat.le_refl _, Nat.le_refl _⟩) va_S.rf (fun v6 H6 locs hp hz hS => ?_)
  obtain ⟨rfl, rfl⟩ := hp
  refine W.eq (g2 := F0 m 6 ls []) rfl ?_
  refine lv_aload_n hx hb dJ1_charAt_3b067_6 rfl (lv_at hl 0 rfl) ?_
  refine lv_iload_n hx hb dJ1_charAt_3b067_7 rfl (lv_at hl 1 rfl) ?_
  refine va_tb hx hb h4 hS (ti_in h1 h2) rfl dJ1_charAt_3b067_8 ?_
  refine lv_sipush (v := 255) hx hb dJ1_charAt_3b067_9 (by decide) ?_
  refine lv_iand hx hb dJ1_charAt_3b067_12 ?_
  refine lv_i2c hx hb dJ1_charAt_3b067_13 rfl ?_
  exact th_iret hC rfl hr hlocks (th_nch _) hS ⟨⟨_, rfl, th_nch _, rfl⟩, rfl⟩ dJ1_charAt_3b067_14
theorem c_J0_charAt (l : Launch) (G : th_G) (H0 : Heap) (q : Nat) (n : List Int32) (i : Int32) (h1 : 0 ≤ i.toInt) (h2 : i.toInt < (n.length : Int)) : Met l yJ0_charAt_5068e (.code yJ0_charAt_5068e cJ0_charAt_5068e 2 (some FieldType.char) :: th_tb) ({ frames := 3, cells := 0, slots := 0, locals := 64 } : Room) (th_PX [.ref q, .int i] G H0 (fun U => th_Zc G U H0 ∧ th_Zq G q n U H0)) (th_Q (fun (v : Option Value) (H1 : Heap) => (∃ r : Int32, v = some (.int r) ∧ r.toInt = dv_ch (n.getD i.toInt.toNat 0)) ∧ H0 = H1) G) 0 0 (fun q => G.1.2.2 ≤ q) := by
  refine th_metX RJ0 (by decide) rfl (Nat.le_of_ble_eq_true rfl) ?_
  intro p e s m below meth c hC hX hH hr hlocks hnm ls hl
  subst hH
  obtain ⟨hn, v, h3, h4, h5, h6⟩ := id hX.2
  have hx := hC.1
  have hb := hC.2.1
  have hl : lv_has ls 2 [(0, .ref q), (1, .int i)] := hl
  refine lv_aload_n hx hb dJ0_charAt_5068e_0 rfl (lv_at hl 0 rfl) ?_
  refine th_call (th_runQ (As := []) (rest := []) th_mvq hX hX.2 hC rfl mf_J0_isLatin1_aae02 kw_624 im_J0_isLatin1_aae02 se_J0_isLatin1_aae02 (c_J0_isLatin1 l G s.heap q n) rfl rfl ⟨Nat.le_of_ble_eq_true rfl, Nat.le_of_ble_eq_true rfl⟩ rfl hl.1 rfl (Nat.le_of_ble_eq_true rfl) dJ0_charAt_5068e_1 ⟨Nat.le_refl _, Nat.le_refl _⟩) va_S.rf (fun v6 H6 locs hp hz hS => ?_)
  obtain ⟨rfl, rfl⟩ := hp
  refine W.eq (g2 := F0 m 4 ls [.int 1]) rfl ?_
  refine tr_if_eq (tgt := 16) hx hb dJ0_charAt_5068e_4 (by decide) tk_1 (fun c3 => ?_) (fun c3 => ?_)
  · exfalso; omega
  · refine lv_aload_n hx hb dJ0_charAt_5068e_7 rfl (lv_at hl 0 rfl) ?_
    refine vk_getf hx hb h5 hS hC.2.2.2.1 (hC.2.2.2.2.1 _ kw_1965) (fun _ h => h) dJ0_charAt_5068e_8 ?_
    refine lv_iload_n hx hb dJ0_charAt_5068e_11 rfl (lv_at hl 1 rfl) ?_
    refine th_call (th_runSX (As := [.ref v, .int i]) (rest := []) (th_mvt (n := n)) ⟨hX.1, hn, h6⟩ hC mf_J1_charAt_3b067 kw_628 st_J1_charAt_3b067 (c_J1_charAt l G s.heap v n i h1 h2) rfl rfl ⟨Nat.le_of_ble_eq_true rfl, Nat.le_of_ble_eq_true rfl⟩ rfl hl.1 rfl (Nat.le_of_ble_eq_true rfl) dJ0_charAt_5068e_12 ⟨Nat.le_refl _, Nat.le_refl _⟩) hS (fun v6 H6 locs hp hz hS => ?_)
    obtain ⟨⟨r, rfl, hnr, her⟩, rfl⟩ := hp
    refine W.eq (g2 := F0 m 15 ls [.int r]) rfl ?_
    exact th_iret hC rfl hr hlocks hnr hS ⟨⟨_, rfl, her⟩, rfl⟩ dJ0_charAt_5068e_15
end TSTR
end
section
set_option maxHeartbeats 4000000 in
set_option maxRecDepth 100000 in
theorem c_X5_is (l : Launch) (G : th_G) (Γ : th_Ga) (H0 : Heap) (hI : th_I G Γ H0) (hU : dv_U Γ) (a0 : Nat) (h0 : Γ a0 = (20, 0)) (p1 : Nat) (w1 : List Int32) (p2 : Int32) (f2 : 0 ≤ p2.toInt) (g2 : p2.toInt ≤ 400) (p3 : Int32) (f3 : 0 ≤ p3.toInt) (g3 : p3.toInt ≤ 400) (nn2 : ∃ b : Nat, th_sl H0 a0 (G.1.1.2 5 2) = .ref b ∧ Γ b = (37, 0)) : Met l yX5_is (.code yX5_is cX5_is 5 (some FieldType.boolean) :: th_tb) ({ frames := 4, cells := 0, slots := 0, locals := 85 } : Room) (th_PX [.ref a0, .ref p1, .int p2, .int p3] G H0 (fun U => th_Zc G U H0 ∧ th_Zq G p1 w1 U H0)) (th_Q (fun (v : Option Value) (H1 : Heap) => ∃ r : Int32, v = some (.int r) ∧ 0 ≤ r.toInt ∧ r.toInt ≤ 1 ∧ (f_X5_is w1 (dv G Γ H0) (a0 : Int) p2.toInt p3.toInt = (r.toInt, ())) ∧ H0 = H1) G) 0 0 (fun q => G.1.2.2 ≤ q) := by
  refine th_metX RX5 (by decide) rfl (Nat.le_of_ble_eq_true rfl) ?_
  intro p e s m below meth c hC hX hH hr hlocks hnm ls hl
  have hx := hC.1
  have hb := hC.2.1
  have hB : th_B G Γ Γ [] H0 H0 [] := ⟨hI, va_S.rf, th_F_rf⟩
  have hl : lv_has ls 5 [(0, .ref a0), (1, .ref p1), (2, .int p2), (3, .int p3)] := hl
  have lp2 := ti_lo p2; have up2 := ti_hi p2
  have lp3 := ti_lo p3; have up3 := ti_hi p3
  obtain ⟨bn2, mbn2, hbn2⟩ := nn2
  obtain ⟨F, hF0⟩ : ∃ F, F = f_X5_is w1 (dv G Γ H0) ((a0 : Int)) (p2.toInt) (p3.toInt) := ⟨_, rfl⟩
  have hF := hF0.trans (f_X5_is.eq_1 w1 (dv G Γ H0) ((a0 : Int)) (p2.toInt) (p3.toInt))
  refine lv_iload_n hx hb gX5_is_0.1 rfl (lv_at hl 3 rfl) ?_
  refine lv_iload_n hx hb gX5_is_0.2.1 rfl (lv_at hl 2 rfl) ?_
  refine tr_isub hx hb gX5_is_0.2.2.1 (Eq.refl _) (Eq.refl _) (by omega) (by omega) (fun x1 ex1 => ?_)
  replace hF := hF.trans (dv_bn (ex1.symm))
  refine lv_aload_n hx hb gX5_is_0.2.2.2.1 rfl (lv_at hl 1 rfl) ?_
  have n8 := hX.2.1
  refine th_call (th_runQ (As := []) (rest := [.int x1]) th_mvq hX hX.2 hC rfl mf_J0_length_8abf5 km_X5_151 im_J0_length_8abf5 se_J0_length_8abf5 (c_J0_length l G H0 p1 w1) rfl rfl ⟨Nat.le_of_ble_eq_true rfl, Nat.le_of_ble_eq_true rfl⟩ rfl hl.1 rfl (Nat.le_of_ble_eq_true rfl) gX5_is_0.2.2.2.2.1 ⟨Nat.le_refl _, Nat.le_refl _⟩) hB.2.1 (fun v4 H4 locs hp hz hS => ?_)
  obtain ⟨x2, rfl, ex2, rfl⟩ := hp
  have hB := th_B_s hB hS
  replace hF := hF.trans (dv_bn (ex2.symm))
  refine W.eq (g2 := F0 m 7 ls [.int x2, .int x1]) rfl ?_
  refine tr_icmp_eq (tgt := 12) hx hb gX5_is_0.2.2.2.2.2.1 (by decide) (Eq.refl _) (Eq.refl _) (fun c7 => ?_) (fun c7 => ?_)
  · replace hF := hF.trans (if_pos c7)
    refine lv_iload_n hx hb gX5_is_1.1 rfl (lv_at hl 2 rfl) ?_
    refine lv_istore (lv' := [(4, .int p2), (0, .ref a0), (1, .ref p1), (2, .int p2), (3, .int p3)]) hx hb gX5_is_1.2.1 hl (by decide) rfl (fun ls hl => ?_)
    have lp15 : ∀ (n15 : Nat) (locs : List Loc) (ls : Array Slot) (j15_4 : Int32), th_B G Γ Γ [] H0 H0 locs → lv_has ls 5 [(0, .ref a0), (1, .ref p1), (2, .int p2), (3, .int p3), (4, .int j15_4)] → F = dv_lp (f_X5_is_15b w1) (dv G Γ H0, (a0 : Int), p2.toInt, p3.toInt, j15_4.toInt) → 0 ≤ j15_4.toInt → j15_4.toInt ≤ 400 → p2.toInt ≤ j15_4.toInt → (2147483648 : Int) - j15_4.toInt ≤ (n15 : Int) → W p l e ({ frames := 4, cells := 0, slots := 0, locals := 85 } : Room) s m ([.ref a0, .ref p1, .int p2, .int p3] : List Value).toArray below meth c H0 locs 0 0 (MQ below (th_Q (fun (v : Option Value) (H1 : Heap) => ∃ r : Int32, v = some (.int r) ∧ 0 ≤ r.toInt ∧ r.toInt ≤ 1 ∧ (f_X5_is w1 (dv G Γ H0) (a0 : Int) p2.toInt p3.toInt = (r.toInt, ())) ∧ H0 = H1) G) ([.ref a0, .ref p1, .int p2, .int p3] : List Value).toArray s 0 0 (fun q => G.1.2.2 ≤ q)) (F0 m 15 ls []) := by
      intro n15
      induction n15 with
      | zero => intro locs ls j15_4 hB hl hF g15_0 g15_1 g15_2 hm15; exact absurd hm15 (by have := ti_hi j15_4; omega)
      | succ n15 ih15 =>
        intro locs ls j15_4 hB hl hF g15_0 g15_1 g15_2 hm15
        have lj15_4 := ti_lo j15_4; have uj15_4 := ti_hi j15_4
        have hm15 : (2147483648 : Int) - j15_4.toInt ≤ (n15 : Int) + 1 := by omega
        replace hF := hF.trans (dv_lp_eq)
        replace hF := hF.trans (congrArg (dv_k (f_X5_is_15b w1)) (f_X5_is_15c.eq_1 w1 (dv G Γ H0) ((a0 : Int)) (p2.toInt) (p3.toInt) (j15_4.toInt)))
        refine lv_iload hx hb gX5_is_1.2.2.1 (lv_at hl 4 rfl) ?_
        refine lv_iload_n hx hb gX5_is_1.2.2.2.1 rfl (lv_at hl 3 rfl) ?_
        refine tr_icmp_ge (tgt := 50) hx hb gX5_is_1.2.2.2.2.1 (by decide) (Eq.refl _) (Eq.refl _) (fun c18 => ?_) (fun c18 => ?_)
        · replace hF := hF.trans (congrArg (dv_k (f_X5_is_15b w1)) (if_pos c18))
          refine lv_iconst (v := 1) hx hb gX5_is_3.2.2.2.2.1 (by decide) ?_
          replace hF := hF.trans (dv_kr)
          exact th_iret hC hH hr hlocks narrow_b1 hB.2.1 ⟨_, rfl, by decide, by decide, (hF0.symm.trans (hF.trans (by rw [tk_1]))), rfl⟩ gX5_is_3.2.2.2.2.2
        · replace hF := hF.trans (congrArg (dv_k (f_X5_is_15b w1)) (if_neg (Int.not_le.mpr c18)))
          refine lv_aload_n hx hb gX5_is_1.2.2.2.2.2.1 rfl (lv_at hl 0 rfl) ?_
          refine th_getK hC cf_X5 hB.1 h0 ro_20 rfl (j := 2) (by decide) mbn2 kf_X5_18 gX5_is_1.2.2.2.2.2.2.1 ?_
          replace hF := hF.trans (congrArg (dv_k (f_X5_is_15b w1)) (dv_bn (dv_getR h0 ro_20 (j := 2) rfl mbn2 (by decide))))
          refine th_getO (j := 0) (r2 := 38) hC cf_X9 hB.1 hbn2 ro_37 rfl rfl kf_X5_66 gX5_is_1.2.2.2.2.2.2.2 (fun b3 mb3 hb3 => ?_)
          refine lv_iload hx hb gX5_is_2.1 (lv_at hl 4 rfl) ?_
          refine th_ialdF hC hB.1 hb3 ro_38 rfl (Eq.refl _) (by omega) (by omega) rfl gX5_is_2.2.1 (fun x4 mx4 lx4 ux4 => ?_)
          replace hF := hF.trans (congrArg (dv_k (f_X5_is_15b w1)) (dv_bn (dv_aldI hB.1 hU hb3 ow_38 (z := j15_4.toInt) mx4 (by omega))))
          refine lv_aload_n hx hb gX5_is_2.2.2.1 rfl (lv_at hl 1 rfl) ?_
          refine lv_iload hx hb gX5_is_2.2.2.2.1 (lv_at hl 4 rfl) ?_
          refine lv_iload_n hx hb gX5_is_2.2.2.2.2.1 rfl (lv_at hl 2 rfl) ?_
          refine tr_isub hx hb gX5_is_2.2.2.2.2.2.1 (Eq.refl _) (Eq.refl _) (by omega) (by omega) (fun x5 ex5 => ?_)
          replace hF := hF.trans (congrArg (dv_k (f_X5_is_15b w1)) (dv_bn (ex5.symm)))
          have n8 := hX.2.1
          refine th_call (th_runQ (As := [.int x5]) (rest := [.int x4]) th_mvq hX hX.2 hC rfl mf_J0_charAt_5068e km_X5_156 im_J0_charAt_5068e se_J0_charAt_5068e (c_J0_charAt l G H0 p1 w1 x5 (by omega) (by omega)) rfl rfl ⟨Nat.le_of_ble_eq_true rfl, Nat.le_of_ble_eq_true rfl⟩ rfl hl.1 rfl (Nat.le_of_ble_eq_true rfl) gX5_is_2.2.2.2.2.2.2.1 ⟨Nat.le_refl _, Nat.le_refl _⟩) hB.2.1 (fun v36 H36 locs hp hz hS => ?_)
          obtain ⟨⟨x6, rfl, ex6⟩, rfl⟩ := hp
          have lx6 := ti_lo x6; have ux6 := ti_hi x6
          have hB := th_B_s hB hS
          replace hF := hF.trans (congrArg (dv_k (f_X5_is_15b w1)) (dv_bn (ex6.symm)))
          refine W.eq (g2 := F0 m 39 ls [.int x6, .int x4]) rfl ?_
          refine tr_icmp_eq (tgt := 44) hx hb gX5_is_2.2.2.2.2.2.2.2 (by decide) (Eq.refl _) (Eq.refl _) (fun c39 => ?_) (fun c39 => ?_)
          · replace hF := hF.trans (congrArg (dv_k (f_X5_is_15b w1)) (if_pos c39))
            refine tr_iinc (fun x7 => [(4, .int x7), (0, .ref a0), (1, .ref p1), (2, .int p2), (3, .int p3)]) hx hb gX5_is_3.2.2.1 hl (k := 4) rfl (Eq.refl _) tk_1 (by omega) (by omega) (by decide) (fun _ => rfl) (fun x7 ls ex7 hl => ?_)
            replace hF := hF.trans (congrArg (dv_k (f_X5_is_15b w1)) (dv_bn (ex7.symm)))
            refine lv_goto (tgt := 15) hx hb gX5_is_3.2.2.2.1 (by decide) ?_
            replace hF := hF.trans (dv_kl)
            exact ih15 locs ls x7 hB (lv_sub hl [1, 2, 3, 4, 0] rfl) hF (by omega) (by omega) (by omega) (by omega)
          · replace hF := hF.trans (congrArg (dv_k (f_X5_is_15b w1)) (if_neg c39))
            refine lv_iconst (v := 0) hx hb gX5_is_3.1 (by decide) ?_
            replace hF := hF.trans (dv_kr)
            exact th_iret hC hH hr hlocks narrow_b0 hB.2.1 ⟨_, rfl, by decide, by decide, (hF0.symm.trans (hF.trans (by rw [tk_0]))), rfl⟩ gX5_is_3.2.1
    exact lp15 ((2147483648 : Int) - (p2.toInt)).toNat locs ls p2 hB (lv_sub hl [1, 2, 3, 4, 0] rfl) hF (by omega) (by omega) (by omega) (by omega)
  · replace hF := hF.trans (if_neg c7)
    refine lv_iconst (v := 0) hx hb gX5_is_0.2.2.2.2.2.2.1 (by decide) ?_
    exact th_iret hC hH hr hlocks narrow_b0 hB.2.1 ⟨_, rfl, by decide, by decide, (hF0.symm.trans (hF.trans (by rw [tk_0]))), rfl⟩ gX5_is_0.2.2.2.2.2.2.2

set_option maxHeartbeats 4000000 in
set_option maxRecDepth 100000 in
theorem c_X5_wordFrom (l : Launch) (G : th_G) (Γ : th_Ga) (H0 : Heap) (hI : th_I G Γ H0) (hU : dv_U Γ) (a0 : Nat) (h0 : Γ a0 = (20, 0)) (p1 : Int32) (f1 : 0 ≤ p1.toInt) (g1 : p1.toInt ≤ 400) (p2 : Int32) (f2 : 0 ≤ p2.toInt) (g2 : p2.toInt ≤ 400) (nn2 : ∃ b : Nat, th_sl H0 a0 (G.1.1.2 5 2) = .ref b ∧ Γ b = (37, 0)) : Met l yX5_wordFrom (.code yX5_wordFrom cX5_wordFrom 3 (some FieldType.int) :: th_tb) ({ frames := 5, cells := 0, slots := 0, locals := 109 } : Room) (th_PX [.ref a0, .int p1, .int p2] G H0 (fun U => th_Z G U H0)) (th_Q (fun (v : Option Value) (H1 : Heap) => ∃ r : Int32, v = some (.int r) ∧ 300 ≤ r.toInt ∧ r.toInt ≤ 327 ∧ (f_X5_wordFrom (dv G Γ H0) (a0 : Int) p1.toInt p2.toInt = (r.toInt, ())) ∧ H0 = H1) G) 0 0 (fun q => G.1.2.2 ≤ q) := by
  refine th_metX RX5 (by decide) rfl (Nat.le_of_ble_eq_true rfl) ?_
  intro p e s m below meth c hC hX hH hr hlocks hnm ls hl
  have hx := hC.1
  have hb := hC.2.1
  have hB : th_B G Γ Γ [] H0 H0 [] := ⟨hI, va_S.rf, th_F_rf⟩
  have hl : lv_has ls 3 [(0, .ref a0), (1, .int p1), (2, .int p2)] := hl
  have lp1 := ti_lo p1; have up1 := ti_hi p1
  have lp2 := ti_lo p2; have up2 := ti_hi p2
  obtain ⟨bn2, mbn2, hbn2⟩ := nn2
  obtain ⟨F, hF0⟩ : ∃ F, F = f_X5_wordFrom (dv G Γ H0) ((a0 : Int)) (p1.toInt) (p2.toInt) := ⟨_, rfl⟩
  have hF := hF0.trans (f_X5_wordFrom.eq_1 (dv G Γ H0) ((a0 : Int)) (p1.toInt) (p2.toInt))
  refine lv_aload_n hx hb gX5_wordFrom_0.1 rfl (lv_at hl 0 rfl) ?_
  obtain ⟨qs1, hq1, hr1⟩ := hX.2 (94, "costs", [99, 111, 115, 116, 115]) (List.mem_of_getElem? (i := 0) rfl)
  refine va_ldcS hx hb hC.2.2.2.1 hr1 gX5_wordFrom_0.2.1 ?_
  refine lv_iload_n hx hb gX5_wordFrom_0.2.2.1 rfl (lv_at hl 1 rfl) ?_
  refine lv_iload_n hx hb gX5_wordFrom_0.2.2.2.1 rfl (lv_at hl 2 rfl) ?_
  refine th_call (th_runVX (As := [.ref qs1, .int p1, .int p2]) (rest := []) th_mvq (show th_Zc G s H0 ∧ th_Zq G qs1 [99, 111, 115, 116, 115] s H0 from ⟨hX.1, hq1⟩) hC mf_X5_is km_X5_96 im_X5_is se_X5_is (c_X5_is l G Γ H0 hB.1 hU a0 h0 qs1 [99, 111, 115, 116, 115] p1 (by omega) (by omega) p2 (by omega) (by omega) ⟨_, mbn2, hbn2⟩) rfl rfl ⟨Nat.le_of_ble_eq_true rfl, Nat.le_of_ble_eq_true rfl⟩ hB.1 h0 ro_20 rfl rfl hl.1 rfl (Nat.le_of_ble_eq_true rfl) gX5_wordFrom_0.2.2.2.2.1 ⟨Nat.le_refl _, Nat.le_refl _⟩) hB.2.1 (fun v5 H5 locs hp hz hS => ?_)
  obtain ⟨x1, rfl, lx1, ux1, q5_0, rfl⟩ := hp
  have hB := th_B_s hB hS
  replace hF := hF.trans (dv_bn2 (q5_0))
  refine W.eq (g2 := F0 m 8 ls [.int x1]) rfl ?_
  refine tr_if_eq (tgt := 17) hx hb gX5_wordFrom_0.2.2.2.2.2.1 (by decide) (Eq.refl _) (fun c8 => ?_) (fun c8 => ?_)
  · replace hF := hF.trans (if_pos c8)
    refine lv_aload_n hx hb gX5_wordFrom_1.1 rfl (lv_at hl 0 rfl) ?_
    obtain ⟨qs18, hq18, hr18⟩ := hX.2 (100, "wears", [119, 101, 97, 114, 115]) (List.mem_of_getElem? (i := 1) rfl)
    refine va_ldcS hx hb hC.2.2.2.1 hr18 gX5_wordFrom_1.2.1 ?_
    refine lv_iload_n hx hb gX5_wordFrom_1.2.2.1 rfl (lv_at hl 1 rfl) ?_
    refine lv_iload_n hx hb gX5_wordFrom_1.2.2.2.1 rfl (lv_at hl 2 rfl) ?_
    refine th_call (th_runVX (As := [.ref qs18, .int p1, .int p2]) (rest := []) th_mvq (show th_Zc G s H0 ∧ th_Zq G qs18 [119, 101, 97, 114, 115] s H0 from ⟨hX.1, hq18⟩) hC mf_X5_is km_X5_96 im_X5_is se_X5_is (c_X5_is l G Γ H0 hB.1 hU a0 h0 qs18 [119, 101, 97, 114, 115] p1 (by omega) (by omega) p2 (by omega) (by omega) ⟨_, mbn2, hbn2⟩) rfl rfl ⟨Nat.le_of_ble_eq_true rfl, Nat.le_of_ble_eq_true rfl⟩ hB.1 h0 ro_20 rfl rfl hl.1 rfl (Nat.le_of_ble_eq_true rfl) gX5_wordFrom_1.2.2.2.2.1 ⟨Nat.le_refl _, Nat.le_refl _⟩) hB.2.1 (fun v22 H22 locs hp hz hS => ?_)
    obtain ⟨x2, rfl, lx2, ux2, q22_0, rfl⟩ := hp
    have hB := th_B_s hB hS
    replace hF := hF.trans (dv_bn2 (q22_0))
    refine W.eq (g2 := F0 m 25 ls [.int x2]) rfl ?_
    refine tr_if_eq (tgt := 34) hx hb gX5_wordFrom_1.2.2.2.2.2.1 (by decide) (Eq.refl _) (fun c25 => ?_) (fun c25 => ?_)
    · replace hF := hF.trans (if_pos c25)
      refine lv_aload_n hx hb gX5_wordFrom_2.1 rfl (lv_at hl 0 rfl) ?_
      obtain ⟨qs35, hq35, hr35⟩ := hX.2 (102, "bars", [98, 97, 114, 115]) (List.mem_of_getElem? (i := 2) rfl)
      refine va_ldcS hx hb hC.2.2.2.1 hr35 gX5_wordFrom_2.2.1 ?_
      refine lv_iload_n hx hb gX5_wordFrom_2.2.2.1 rfl (lv_at hl 1 rfl) ?_
      refine lv_iload_n hx hb gX5_wordFrom_2.2.2.2.1 rfl (lv_at hl 2 rfl) ?_
      refine th_call (th_runVX (As := [.ref qs35, .int p1, .int p2]) (rest := []) th_mvq (show th_Zc G s H0 ∧ th_Zq G qs35 [98, 97, 114, 115] s H0 from ⟨hX.1, hq35⟩) hC mf_X5_is km_X5_96 im_X5_is se_X5_is (c_X5_is l G Γ H0 hB.1 hU a0 h0 qs35 [98, 97, 114, 115] p1 (by omega) (by omega) p2 (by omega) (by omega) ⟨_, mbn2, hbn2⟩) rfl rfl ⟨Nat.le_of_ble_eq_true rfl, Nat.le_of_ble_eq_true rfl⟩ hB.1 h0 ro_20 rfl rfl hl.1 rfl (Nat.le_of_ble_eq_true rfl) gX5_wordFrom_2.2.2.2.2.1 ⟨Nat.le_refl _, Nat.le_refl _⟩) hB.2.1 (fun v39 H39 locs hp hz hS => ?_)
      obtain ⟨x3, rfl, lx3, ux3, q39_0, rfl⟩ := hp
      have hB := th_B_s hB hS
      replace hF := hF.trans (dv_bn2 (q39_0))
      refine W.eq (g2 := F0 m 42 ls [.int x3]) rfl ?_
      refine tr_if_eq (tgt := 51) hx hb gX5_wordFrom_2.2.2.2.2.2.1 (by decide) (Eq.refl _) (fun c42 => ?_) (fun c42 => ?_)
      · replace hF := hF.trans (if_pos c42)
        refine lv_aload_n hx hb gX5_wordFrom_3.1 rfl (lv_at hl 0 rfl) ?_
        obtain ⟨qs52, hq52, hr52⟩ := hX.2 (104, "lay", [108, 97, 121]) (List.mem_of_getElem? (i := 3) rfl)
        refine va_ldcS hx hb hC.2.2.2.1 hr52 gX5_wordFrom_3.2.1 ?_
        refine lv_iload_n hx hb gX5_wordFrom_3.2.2.1 rfl (lv_at hl 1 rfl) ?_
        refine lv_iload_n hx hb gX5_wordFrom_3.2.2.2.1 rfl (lv_at hl 2 rfl) ?_
        refine th_call (th_runVX (As := [.ref qs52, .int p1, .int p2]) (rest := []) th_mvq (show th_Zc G s H0 ∧ th_Zq G qs52 [108, 97, 121] s H0 from ⟨hX.1, hq52⟩) hC mf_X5_is km_X5_96 im_X5_is se_X5_is (c_X5_is l G Γ H0 hB.1 hU a0 h0 qs52 [108, 97, 121] p1 (by omega) (by omega) p2 (by omega) (by omega) ⟨_, mbn2, hbn2⟩) rfl rfl ⟨Nat.le_of_ble_eq_true rfl, Nat.le_of_ble_eq_true rfl⟩ hB.1 h0 ro_20 rfl rfl hl.1 rfl (Nat.le_of_ble_eq_true rfl) gX5_wordFrom_3.2.2.2.2.1 ⟨Nat.le_refl _, Nat.le_refl _⟩) hB.2.1 (fun v56 H56 locs hp hz hS => ?_)
        obtain ⟨x4, rfl, lx4, ux4, q56_0, rfl⟩ := hp
        have hB := th_B_s hB hS
        replace hF := hF.trans (dv_bn2 (q56_0))
        refine W.eq (g2 := F0 m 59 ls [.int x4]) rfl ?_
        refine tr_if_eq (tgt := 68) hx hb gX5_wordFrom_3.2.2.2.2.2.1 (by decide) (Eq.refl _) (fun c59 => ?_) (fun c59 => ?_)
        · replace hF := hF.trans (if_pos c59)
          refine lv_aload_n hx hb gX5_wordFrom_4.1 rfl (lv_at hl 0 rfl) ?_
          obtain ⟨qs69, hq69, hr69⟩ := hX.2 (106, "roll", [114, 111, 108, 108]) (List.mem_of_getElem? (i := 4) rfl)
          refine va_ldcS hx hb hC.2.2.2.1 hr69 gX5_wordFrom_4.2.1 ?_
          refine lv_iload_n hx hb gX5_wordFrom_4.2.2.1 rfl (lv_at hl 1 rfl) ?_
          refine lv_iload_n hx hb gX5_wordFrom_4.2.2.2.1 rfl (lv_at hl 2 rfl) ?_
          refine th_call (th_runVX (As := [.ref qs69, .int p1, .int p2]) (rest := []) th_mvq (show th_Zc G s H0 ∧ th_Zq G qs69 [114, 111, 108, 108] s H0 from ⟨hX.1, hq69⟩) hC mf_X5_is km_X5_96 im_X5_is se_X5_is (c_X5_is l G Γ H0 hB.1 hU a0 h0 qs69 [114, 111, 108, 108] p1 (by omega) (by omega) p2 (by omega) (by omega) ⟨_, mbn2, hbn2⟩) rfl rfl ⟨Nat.le_of_ble_eq_true rfl, Nat.le_of_ble_eq_true rfl⟩ hB.1 h0 ro_20 rfl rfl hl.1 rfl (Nat.le_of_ble_eq_true rfl) gX5_wordFrom_4.2.2.2.2.1 ⟨Nat.le_refl _, Nat.le_refl _⟩) hB.2.1 (fun v73 H73 locs hp hz hS => ?_)
          obtain ⟨x5, rfl, lx5, ux5, q73_0, rfl⟩ := hp
          have hB := th_B_s hB hS
          replace hF := hF.trans (dv_bn2 (q73_0))
          refine W.eq (g2 := F0 m 76 ls [.int x5]) rfl ?_
          refine tr_if_eq (tgt := 85) hx hb gX5_wordFrom_4.2.2.2.2.2.1 (by decide) (Eq.refl _) (fun c76 => ?_) (fun c76 => ?_)
          · replace hF := hF.trans (if_pos c76)
            refine lv_aload_n hx hb gX5_wordFrom_5.1 rfl (lv_at hl 0 rfl) ?_
            obtain ⟨qs86, hq86, hr86⟩ := hX.2 (108, "mirror", [109, 105, 114, 114, 111, 114]) (List.mem_of_getElem? (i := 5) rfl)
            refine va_ldcS hx hb hC.2.2.2.1 hr86 gX5_wordFrom_5.2.1 ?_
            refine lv_iload_n hx hb gX5_wordFrom_5.2.2.1 rfl (lv_at hl 1 rfl) ?_
            refine lv_iload_n hx hb gX5_wordFrom_5.2.2.2.1 rfl (lv_at hl 2 rfl) ?_
            refine th_call (th_runVX (As := [.ref qs86, .int p1, .int p2]) (rest := []) th_mvq (show th_Zc G s H0 ∧ th_Zq G qs86 [109, 105, 114, 114, 111, 114] s H0 from ⟨hX.1, hq86⟩) hC mf_X5_is km_X5_96 im_X5_is se_X5_is (c_X5_is l G Γ H0 hB.1 hU a0 h0 qs86 [109, 105, 114, 114, 111, 114] p1 (by omega) (by omega) p2 (by omega) (by omega) ⟨_, mbn2, hbn2⟩) rfl rfl ⟨Nat.le_of_ble_eq_true rfl, Nat.le_of_ble_eq_true rfl⟩ hB.1 h0 ro_20 rfl rfl hl.1 rfl (Nat.le_of_ble_eq_true rfl) gX5_wordFrom_5.2.2.2.2.1 ⟨Nat.le_refl _, Nat.le_refl _⟩) hB.2.1 (fun v90 H90 locs hp hz hS => ?_)
            obtain ⟨x6, rfl, lx6, ux6, q90_0, rfl⟩ := hp
            have hB := th_B_s hB hS
            replace hF := hF.trans (dv_bn2 (q90_0))
            refine W.eq (g2 := F0 m 93 ls [.int x6]) rfl ?_
            refine tr_if_eq (tgt := 102) hx hb gX5_wordFrom_5.2.2.2.2.2.1 (by decide) (Eq.refl _) (fun c93 => ?_) (fun c93 => ?_)
            · replace hF := hF.trans (if_pos c93)
              refine lv_aload_n hx hb gX5_wordFrom_6.1 rfl (lv_at hl 0 rfl) ?_
              obtain ⟨qs103, hq103, hr103⟩ := hX.2 (110, "pass", [112, 97, 115, 115]) (List.mem_of_getElem? (i := 6) rfl)
              refine va_ldcS hx hb hC.2.2.2.1 hr103 gX5_wordFrom_6.2.1 ?_
              refine lv_iload_n hx hb gX5_wordFrom_6.2.2.1 rfl (lv_at hl 1 rfl) ?_
              refine lv_iload_n hx hb gX5_wordFrom_6.2.2.2.1 rfl (lv_at hl 2 rfl) ?_
              refine th_call (th_runVX (As := [.ref qs103, .int p1, .int p2]) (rest := []) th_mvq (show th_Zc G s H0 ∧ th_Zq G qs103 [112, 97, 115, 115] s H0 from ⟨hX.1, hq103⟩) hC mf_X5_is km_X5_96 im_X5_is se_X5_is (c_X5_is l G Γ H0 hB.1 hU a0 h0 qs103 [112, 97, 115, 115] p1 (by omega) (by omega) p2 (by omega) (by omega) ⟨_, mbn2, hbn2⟩) rfl rfl ⟨Nat.le_of_ble_eq_true rfl, Nat.le_of_ble_eq_true rfl⟩ hB.1 h0 ro_20 rfl rfl hl.1 rfl (Nat.le_of_ble_eq_true rfl) gX5_wordFrom_6.2.2.2.2.1 ⟨Nat.le_refl _, Nat.le_refl _⟩) hB.2.1 (fun v107 H107 locs hp hz hS => ?_)
              obtain ⟨x7, rfl, lx7, ux7, q107_0, rfl⟩ := hp
              have hB := th_B_s hB hS
              replace hF := hF.trans (dv_bn2 (q107_0))
              refine W.eq (g2 := F0 m 110 ls [.int x7]) rfl ?_
              refine tr_if_eq (tgt := 119) hx hb gX5_wordFrom_6.2.2.2.2.2.1 (by decide) (Eq.refl _) (fun c110 => ?_) (fun c110 => ?_)
              · replace hF := hF.trans (if_pos c110)
                refine lv_aload_n hx hb gX5_wordFrom_7.1 rfl (lv_at hl 0 rfl) ?_
                obtain ⟨qs120, hq120, hr120⟩ := hX.2 (112, "if", [105, 102]) (List.mem_of_getElem? (i := 7) rfl)
                refine va_ldcS hx hb hC.2.2.2.1 hr120 gX5_wordFrom_7.2.1 ?_
                refine lv_iload_n hx hb gX5_wordFrom_7.2.2.1 rfl (lv_at hl 1 rfl) ?_
                refine lv_iload_n hx hb gX5_wordFrom_7.2.2.2.1 rfl (lv_at hl 2 rfl) ?_
                refine th_call (th_runVX (As := [.ref qs120, .int p1, .int p2]) (rest := []) th_mvq (show th_Zc G s H0 ∧ th_Zq G qs120 [105, 102] s H0 from ⟨hX.1, hq120⟩) hC mf_X5_is km_X5_96 im_X5_is se_X5_is (c_X5_is l G Γ H0 hB.1 hU a0 h0 qs120 [105, 102] p1 (by omega) (by omega) p2 (by omega) (by omega) ⟨_, mbn2, hbn2⟩) rfl rfl ⟨Nat.le_of_ble_eq_true rfl, Nat.le_of_ble_eq_true rfl⟩ hB.1 h0 ro_20 rfl rfl hl.1 rfl (Nat.le_of_ble_eq_true rfl) gX5_wordFrom_7.2.2.2.2.1 ⟨Nat.le_refl _, Nat.le_refl _⟩) hB.2.1 (fun v124 H124 locs hp hz hS => ?_)
                obtain ⟨x8, rfl, lx8, ux8, q124_0, rfl⟩ := hp
                have hB := th_B_s hB hS
                replace hF := hF.trans (dv_bn2 (q124_0))
                refine W.eq (g2 := F0 m 127 ls [.int x8]) rfl ?_
                refine tr_if_eq (tgt := 136) hx hb gX5_wordFrom_7.2.2.2.2.2.1 (by decide) (Eq.refl _) (fun c127 => ?_) (fun c127 => ?_)
                · replace hF := hF.trans (if_pos c127)
                  refine lv_aload_n hx hb gX5_wordFrom_8.1 rfl (lv_at hl 0 rfl) ?_
                  obtain ⟨qs137, hq137, hr137⟩ := hX.2 (114, "times", [116, 105, 109, 101, 115]) (List.mem_of_getElem? (i := 8) rfl)
                  refine va_ldcS hx hb hC.2.2.2.1 hr137 gX5_wordFrom_8.2.1 ?_
                  refine lv_iload_n hx hb gX5_wordFrom_8.2.2.1 rfl (lv_at hl 1 rfl) ?_
                  refine lv_iload_n hx hb gX5_wordFrom_8.2.2.2.1 rfl (lv_at hl 2 rfl) ?_
                  refine th_call (th_runVX (As := [.ref qs137, .int p1, .int p2]) (rest := []) th_mvq (show th_Zc G s H0 ∧ th_Zq G qs137 [116, 105, 109, 101, 115] s H0 from ⟨hX.1, hq137⟩) hC mf_X5_is km_X5_96 im_X5_is se_X5_is (c_X5_is l G Γ H0 hB.1 hU a0 h0 qs137 [116, 105, 109, 101, 115] p1 (by omega) (by omega) p2 (by omega) (by omega) ⟨_, mbn2, hbn2⟩) rfl rfl ⟨Nat.le_of_ble_eq_true rfl, Nat.le_of_ble_eq_true rfl⟩ hB.1 h0 ro_20 rfl rfl hl.1 rfl (Nat.le_of_ble_eq_true rfl) gX5_wordFrom_8.2.2.2.2.1 ⟨Nat.le_refl _, Nat.le_refl _⟩) hB.2.1 (fun v141 H141 locs hp hz hS => ?_)
                  obtain ⟨x9, rfl, lx9, ux9, q141_0, rfl⟩ := hp
                  have hB := th_B_s hB hS
                  replace hF := hF.trans (dv_bn2 (q141_0))
                  refine W.eq (g2 := F0 m 144 ls [.int x9]) rfl ?_
                  refine tr_if_eq (tgt := 153) hx hb gX5_wordFrom_8.2.2.2.2.2.1 (by decide) (Eq.refl _) (fun c144 => ?_) (fun c144 => ?_)
                  · replace hF := hF.trans (if_pos c144)
                    refine lv_aload_n hx hb gX5_wordFrom_9.1 rfl (lv_at hl 0 rfl) ?_
                    obtain ⟨qs154, hq154, hr154⟩ := hX.2 (116, "at", [97, 116]) (List.mem_of_getElem? (i := 9) rfl)
                    refine va_ldcS hx hb hC.2.2.2.1 hr154 gX5_wordFrom_9.2.1 ?_
                    refine lv_iload_n hx hb gX5_wordFrom_9.2.2.1 rfl (lv_at hl 1 rfl) ?_
                    refine lv_iload_n hx hb gX5_wordFrom_9.2.2.2.1 rfl (lv_at hl 2 rfl) ?_
                    refine th_call (th_runVX (As := [.ref qs154, .int p1, .int p2]) (rest := []) th_mvq (show th_Zc G s H0 ∧ th_Zq G qs154 [97, 116] s H0 from ⟨hX.1, hq154⟩) hC mf_X5_is km_X5_96 im_X5_is se_X5_is (c_X5_is l G Γ H0 hB.1 hU a0 h0 qs154 [97, 116] p1 (by omega) (by omega) p2 (by omega) (by omega) ⟨_, mbn2, hbn2⟩) rfl rfl ⟨Nat.le_of_ble_eq_true rfl, Nat.le_of_ble_eq_true rfl⟩ hB.1 h0 ro_20 rfl rfl hl.1 rfl (Nat.le_of_ble_eq_true rfl) gX5_wordFrom_9.2.2.2.2.1 ⟨Nat.le_refl _, Nat.le_refl _⟩) hB.2.1 (fun v158 H158 locs hp hz hS => ?_)
                    obtain ⟨x10, rfl, lx10, ux10, q158_0, rfl⟩ := hp
                    have hB := th_B_s hB hS
                    replace hF := hF.trans (dv_bn2 (q158_0))
                    refine W.eq (g2 := F0 m 161 ls [.int x10]) rfl ?_
                    refine tr_if_eq (tgt := 170) hx hb gX5_wordFrom_9.2.2.2.2.2.1 (by decide) (Eq.refl _) (fun c161 => ?_) (fun c161 => ?_)
                    · replace hF := hF.trans (if_pos c161)
                      refine lv_aload_n hx hb gX5_wordFrom_10.1 rfl (lv_at hl 0 rfl) ?_
                      obtain ⟨qs171, hq171, hr171⟩ := hX.2 (117, "by", [98, 121]) (List.mem_of_getElem? (i := 10) rfl)
                      refine va_ldcS hx hb hC.2.2.2.1 hr171 gX5_wordFrom_10.2.1 ?_
                      refine lv_iload_n hx hb gX5_wordFrom_10.2.2.1 rfl (lv_at hl 1 rfl) ?_
                      refine lv_iload_n hx hb gX5_wordFrom_10.2.2.2.1 rfl (lv_at hl 2 rfl) ?_
                      refine th_call (th_runVX (As := [.ref qs171, .int p1, .int p2]) (rest := []) th_mvq (show th_Zc G s H0 ∧ th_Zq G qs171 [98, 121] s H0 from ⟨hX.1, hq171⟩) hC mf_X5_is km_X5_96 im_X5_is se_X5_is (c_X5_is l G Γ H0 hB.1 hU a0 h0 qs171 [98, 121] p1 (by omega) (by omega) p2 (by omega) (by omega) ⟨_, mbn2, hbn2⟩) rfl rfl ⟨Nat.le_of_ble_eq_true rfl, Nat.le_of_ble_eq_true rfl⟩ hB.1 h0 ro_20 rfl rfl hl.1 rfl (Nat.le_of_ble_eq_true rfl) gX5_wordFrom_10.2.2.2.2.1 ⟨Nat.le_refl _, Nat.le_refl _⟩) hB.2.1 (fun v175 H175 locs hp hz hS => ?_)
                      obtain ⟨x11, rfl, lx11, ux11, q175_0, rfl⟩ := hp
                      have hB := th_B_s hB hS
                      replace hF := hF.trans (dv_bn2 (q175_0))
                      refine W.eq (g2 := F0 m 178 ls [.int x11]) rfl ?_
                      refine tr_if_eq (tgt := 187) hx hb gX5_wordFrom_10.2.2.2.2.2.1 (by decide) (Eq.refl _) (fun c178 => ?_) (fun c178 => ?_)
                      · replace hF := hF.trans (if_pos c178)
                        refine lv_aload_n hx hb gX5_wordFrom_11.1 rfl (lv_at hl 0 rfl) ?_
                        obtain ⟨qs188, hq188, hr188⟩ := hX.2 (119, "or", [111, 114]) (List.mem_of_getElem? (i := 11) rfl)
                        refine va_ldcS hx hb hC.2.2.2.1 hr188 gX5_wordFrom_11.2.1 ?_
                        refine lv_iload_n hx hb gX5_wordFrom_11.2.2.1 rfl (lv_at hl 1 rfl) ?_
                        refine lv_iload_n hx hb gX5_wordFrom_11.2.2.2.1 rfl (lv_at hl 2 rfl) ?_
                        refine th_call (th_runVX (As := [.ref qs188, .int p1, .int p2]) (rest := []) th_mvq (show th_Zc G s H0 ∧ th_Zq G qs188 [111, 114] s H0 from ⟨hX.1, hq188⟩) hC mf_X5_is km_X5_96 im_X5_is se_X5_is (c_X5_is l G Γ H0 hB.1 hU a0 h0 qs188 [111, 114] p1 (by omega) (by omega) p2 (by omega) (by omega) ⟨_, mbn2, hbn2⟩) rfl rfl ⟨Nat.le_of_ble_eq_true rfl, Nat.le_of_ble_eq_true rfl⟩ hB.1 h0 ro_20 rfl rfl hl.1 rfl (Nat.le_of_ble_eq_true rfl) gX5_wordFrom_11.2.2.2.2.1 ⟨Nat.le_refl _, Nat.le_refl _⟩) hB.2.1 (fun v192 H192 locs hp hz hS => ?_)
                        obtain ⟨x12, rfl, lx12, ux12, q192_0, rfl⟩ := hp
                        have hB := th_B_s hB hS
                        replace hF := hF.trans (dv_bn2 (q192_0))
                        refine W.eq (g2 := F0 m 195 ls [.int x12]) rfl ?_
                        refine tr_if_eq (tgt := 204) hx hb gX5_wordFrom_11.2.2.2.2.2.1 (by decide) (Eq.refl _) (fun c195 => ?_) (fun c195 => ?_)
                        · replace hF := hF.trans (if_pos c195)
                          refine lv_aload_n hx hb gX5_wordFrom_12.1 rfl (lv_at hl 0 rfl) ?_
                          obtain ⟨qs205, hq205, hr205⟩ := hX.2 (121, "and", [97, 110, 100]) (List.mem_of_getElem? (i := 12) rfl)
                          refine va_ldcS hx hb hC.2.2.2.1 hr205 gX5_wordFrom_12.2.1 ?_
                          refine lv_iload_n hx hb gX5_wordFrom_12.2.2.1 rfl (lv_at hl 1 rfl) ?_
                          refine lv_iload_n hx hb gX5_wordFrom_12.2.2.2.1 rfl (lv_at hl 2 rfl) ?_
                          refine th_call (th_runVX (As := [.ref qs205, .int p1, .int p2]) (rest := []) th_mvq (show th_Zc G s H0 ∧ th_Zq G qs205 [97, 110, 100] s H0 from ⟨hX.1, hq205⟩) hC mf_X5_is km_X5_96 im_X5_is se_X5_is (c_X5_is l G Γ H0 hB.1 hU a0 h0 qs205 [97, 110, 100] p1 (by omega) (by omega) p2 (by omega) (by omega) ⟨_, mbn2, hbn2⟩) rfl rfl ⟨Nat.le_of_ble_eq_true rfl, Nat.le_of_ble_eq_true rfl⟩ hB.1 h0 ro_20 rfl rfl hl.1 rfl (Nat.le_of_ble_eq_true rfl) gX5_wordFrom_12.2.2.2.2.1 ⟨Nat.le_refl _, Nat.le_refl _⟩) hB.2.1 (fun v209 H209 locs hp hz hS => ?_)
                          obtain ⟨x13, rfl, lx13, ux13, q209_0, rfl⟩ := hp
                          have hB := th_B_s hB hS
                          replace hF := hF.trans (dv_bn2 (q209_0))
                          refine W.eq (g2 := F0 m 212 ls [.int x13]) rfl ?_
                          refine tr_if_eq (tgt := 221) hx hb gX5_wordFrom_12.2.2.2.2.2.1 (by decide) (Eq.refl _) (fun c212 => ?_) (fun c212 => ?_)
                          · replace hF := hF.trans (if_pos c212)
                            refine lv_aload_n hx hb gX5_wordFrom_13.1 rfl (lv_at hl 0 rfl) ?_
                            obtain ⟨qs222, hq222, hr222⟩ := hX.2 (123, "not", [110, 111, 116]) (List.mem_of_getElem? (i := 13) rfl)
                            refine va_ldcS hx hb hC.2.2.2.1 hr222 gX5_wordFrom_13.2.1 ?_
                            refine lv_iload_n hx hb gX5_wordFrom_13.2.2.1 rfl (lv_at hl 1 rfl) ?_
                            refine lv_iload_n hx hb gX5_wordFrom_13.2.2.2.1 rfl (lv_at hl 2 rfl) ?_
                            refine th_call (th_runVX (As := [.ref qs222, .int p1, .int p2]) (rest := []) th_mvq (show th_Zc G s H0 ∧ th_Zq G qs222 [110, 111, 116] s H0 from ⟨hX.1, hq222⟩) hC mf_X5_is km_X5_96 im_X5_is se_X5_is (c_X5_is l G Γ H0 hB.1 hU a0 h0 qs222 [110, 111, 116] p1 (by omega) (by omega) p2 (by omega) (by omega) ⟨_, mbn2, hbn2⟩) rfl rfl ⟨Nat.le_of_ble_eq_true rfl, Nat.le_of_ble_eq_true rfl⟩ hB.1 h0 ro_20 rfl rfl hl.1 rfl (Nat.le_of_ble_eq_true rfl) gX5_wordFrom_13.2.2.2.2.1 ⟨Nat.le_refl _, Nat.le_refl _⟩) hB.2.1 (fun v226 H226 locs hp hz hS => ?_)
                            obtain ⟨x14, rfl, lx14, ux14, q226_0, rfl⟩ := hp
                            have hB := th_B_s hB hS
                            replace hF := hF.trans (dv_bn2 (q226_0))
                            refine W.eq (g2 := F0 m 229 ls [.int x14]) rfl ?_
                            refine tr_if_eq (tgt := 238) hx hb gX5_wordFrom_13.2.2.2.2.2.1 (by decide) (Eq.refl _) (fun c229 => ?_) (fun c229 => ?_)
                            · replace hF := hF.trans (if_pos c229)
                              refine lv_aload_n hx hb gX5_wordFrom_14.1 rfl (lv_at hl 0 rfl) ?_
                              obtain ⟨qs239, hq239, hr239⟩ := hX.2 (125, "carpet", [99, 97, 114, 112, 101, 116]) (List.mem_of_getElem? (i := 14) rfl)
                              refine va_ldcS hx hb hC.2.2.2.1 hr239 gX5_wordFrom_14.2.1 ?_
                              refine lv_iload_n hx hb gX5_wordFrom_14.2.2.1 rfl (lv_at hl 1 rfl) ?_
                              refine lv_iload_n hx hb gX5_wordFrom_14.2.2.2.1 rfl (lv_at hl 2 rfl) ?_
                              refine th_call (th_runVX (As := [.ref qs239, .int p1, .int p2]) (rest := []) th_mvq (show th_Zc G s H0 ∧ th_Zq G qs239 [99, 97, 114, 112, 101, 116] s H0 from ⟨hX.1, hq239⟩) hC mf_X5_is km_X5_96 im_X5_is se_X5_is (c_X5_is l G Γ H0 hB.1 hU a0 h0 qs239 [99, 97, 114, 112, 101, 116] p1 (by omega) (by omega) p2 (by omega) (by omega) ⟨_, mbn2, hbn2⟩) rfl rfl ⟨Nat.le_of_ble_eq_true rfl, Nat.le_of_ble_eq_true rfl⟩ hB.1 h0 ro_20 rfl rfl hl.1 rfl (Nat.le_of_ble_eq_true rfl) gX5_wordFrom_14.2.2.2.2.1 ⟨Nat.le_refl _, Nat.le_refl _⟩) hB.2.1 (fun v243 H243 locs hp hz hS => ?_)
                              obtain ⟨x15, rfl, lx15, ux15, q243_0, rfl⟩ := hp
                              have hB := th_B_s hB hS
                              replace hF := hF.trans (dv_bn2 (q243_0))
                              refine W.eq (g2 := F0 m 246 ls [.int x15]) rfl ?_
                              refine tr_if_eq (tgt := 255) hx hb gX5_wordFrom_14.2.2.2.2.2.1 (by decide) (Eq.refl _) (fun c246 => ?_) (fun c246 => ?_)
                              · replace hF := hF.trans (if_pos c246)
                                refine lv_aload_n hx hb gX5_wordFrom_15.1 rfl (lv_at hl 0 rfl) ?_
                                obtain ⟨qs256, hq256, hr256⟩ := hX.2 (127, "side", [115, 105, 100, 101]) (List.mem_of_getElem? (i := 15) rfl)
                                refine va_ldcS hx hb hC.2.2.2.1 hr256 gX5_wordFrom_15.2.1 ?_
                                refine lv_iload_n hx hb gX5_wordFrom_15.2.2.1 rfl (lv_at hl 1 rfl) ?_
                                refine lv_iload_n hx hb gX5_wordFrom_15.2.2.2.1 rfl (lv_at hl 2 rfl) ?_
                                refine th_call (th_runVX (As := [.ref qs256, .int p1, .int p2]) (rest := []) th_mvq (show th_Zc G s H0 ∧ th_Zq G qs256 [115, 105, 100, 101] s H0 from ⟨hX.1, hq256⟩) hC mf_X5_is km_X5_96 im_X5_is se_X5_is (c_X5_is l G Γ H0 hB.1 hU a0 h0 qs256 [115, 105, 100, 101] p1 (by omega) (by omega) p2 (by omega) (by omega) ⟨_, mbn2, hbn2⟩) rfl rfl ⟨Nat.le_of_ble_eq_true rfl, Nat.le_of_ble_eq_true rfl⟩ hB.1 h0 ro_20 rfl rfl hl.1 rfl (Nat.le_of_ble_eq_true rfl) gX5_wordFrom_15.2.2.2.2.1 ⟨Nat.le_refl _, Nat.le_refl _⟩) hB.2.1 (fun v260 H260 locs hp hz hS => ?_)
                                obtain ⟨x16, rfl, lx16, ux16, q260_0, rfl⟩ := hp
                                have hB := th_B_s hB hS
                                replace hF := hF.trans (dv_bn2 (q260_0))
                                refine W.eq (g2 := F0 m 263 ls [.int x16]) rfl ?_
                                refine tr_if_eq (tgt := 272) hx hb gX5_wordFrom_15.2.2.2.2.2.1 (by decide) (Eq.refl _) (fun c263 => ?_) (fun c263 => ?_)
                                · replace hF := hF.trans (if_pos c263)
                                  refine lv_aload_n hx hb gX5_wordFrom_16.1 rfl (lv_at hl 0 rfl) ?_
                                  obtain ⟨qs273, hq273, hr273⟩ := hX.2 (129, "kind", [107, 105, 110, 100]) (List.mem_of_getElem? (i := 16) rfl)
                                  refine va_ldcS hx hb hC.2.2.2.1 hr273 gX5_wordFrom_16.2.1 ?_
                                  refine lv_iload_n hx hb gX5_wordFrom_16.2.2.1 rfl (lv_at hl 1 rfl) ?_
                                  refine lv_iload_n hx hb gX5_wordFrom_16.2.2.2.1 rfl (lv_at hl 2 rfl) ?_
                                  refine th_call (th_runVX (As := [.ref qs273, .int p1, .int p2]) (rest := []) th_mvq (show th_Zc G s H0 ∧ th_Zq G qs273 [107, 105, 110, 100] s H0 from ⟨hX.1, hq273⟩) hC mf_X5_is km_X5_96 im_X5_is se_X5_is (c_X5_is l G Γ H0 hB.1 hU a0 h0 qs273 [107, 105, 110, 100] p1 (by omega) (by omega) p2 (by omega) (by omega) ⟨_, mbn2, hbn2⟩) rfl rfl ⟨Nat.le_of_ble_eq_true rfl, Nat.le_of_ble_eq_true rfl⟩ hB.1 h0 ro_20 rfl rfl hl.1 rfl (Nat.le_of_ble_eq_true rfl) gX5_wordFrom_16.2.2.2.2.1 ⟨Nat.le_refl _, Nat.le_refl _⟩) hB.2.1 (fun v277 H277 locs hp hz hS => ?_)
                                  obtain ⟨x17, rfl, lx17, ux17, q277_0, rfl⟩ := hp
                                  have hB := th_B_s hB hS
                                  replace hF := hF.trans (dv_bn2 (q277_0))
                                  refine W.eq (g2 := F0 m 280 ls [.int x17]) rfl ?_
                                  refine tr_if_eq (tgt := 289) hx hb gX5_wordFrom_16.2.2.2.2.2.1 (by decide) (Eq.refl _) (fun c280 => ?_) (fun c280 => ?_)
                                  · replace hF := hF.trans (if_pos c280)
                                    refine lv_aload_n hx hb gX5_wordFrom_17.1 rfl (lv_at hl 0 rfl) ?_
                                    obtain ⟨qs290, hq290, hr290⟩ := hX.2 (131, "pile", [112, 105, 108, 101]) (List.mem_of_getElem? (i := 17) rfl)
                                    refine va_ldcS hx hb hC.2.2.2.1 hr290 gX5_wordFrom_17.2.1 ?_
                                    refine lv_iload_n hx hb gX5_wordFrom_17.2.2.1 rfl (lv_at hl 1 rfl) ?_
                                    refine lv_iload_n hx hb gX5_wordFrom_17.2.2.2.1 rfl (lv_at hl 2 rfl) ?_
                                    refine th_call (th_runVX (As := [.ref qs290, .int p1, .int p2]) (rest := []) th_mvq (show th_Zc G s H0 ∧ th_Zq G qs290 [112, 105, 108, 101] s H0 from ⟨hX.1, hq290⟩) hC mf_X5_is km_X5_96 im_X5_is se_X5_is (c_X5_is l G Γ H0 hB.1 hU a0 h0 qs290 [112, 105, 108, 101] p1 (by omega) (by omega) p2 (by omega) (by omega) ⟨_, mbn2, hbn2⟩) rfl rfl ⟨Nat.le_of_ble_eq_true rfl, Nat.le_of_ble_eq_true rfl⟩ hB.1 h0 ro_20 rfl rfl hl.1 rfl (Nat.le_of_ble_eq_true rfl) gX5_wordFrom_17.2.2.2.2.1 ⟨Nat.le_refl _, Nat.le_refl _⟩) hB.2.1 (fun v294 H294 locs hp hz hS => ?_)
                                    obtain ⟨x18, rfl, lx18, ux18, q294_0, rfl⟩ := hp
                                    have hB := th_B_s hB hS
                                    replace hF := hF.trans (dv_bn2 (q294_0))
                                    refine W.eq (g2 := F0 m 297 ls [.int x18]) rfl ?_
                                    refine tr_if_eq (tgt := 306) hx hb gX5_wordFrom_17.2.2.2.2.2.1 (by decide) (Eq.refl _) (fun c297 => ?_) (fun c297 => ?_)
                                    · replace hF := hF.trans (if_pos c297)
                                      refine lv_aload_n hx hb gX5_wordFrom_18.1 rfl (lv_at hl 0 rfl) ?_
                                      obtain ⟨qs307, hq307, hr307⟩ := hX.2 (133, "x", [120]) (List.mem_of_getElem? (i := 18) rfl)
                                      refine va_ldcS hx hb hC.2.2.2.1 hr307 gX5_wordFrom_18.2.1 ?_
                                      refine lv_iload_n hx hb gX5_wordFrom_18.2.2.1 rfl (lv_at hl 1 rfl) ?_
                                      refine lv_iload_n hx hb gX5_wordFrom_18.2.2.2.1 rfl (lv_at hl 2 rfl) ?_
                                      refine th_call (th_runVX (As := [.ref qs307, .int p1, .int p2]) (rest := []) th_mvq (show th_Zc G s H0 ∧ th_Zq G qs307 [120] s H0 from ⟨hX.1, hq307⟩) hC mf_X5_is km_X5_96 im_X5_is se_X5_is (c_X5_is l G Γ H0 hB.1 hU a0 h0 qs307 [120] p1 (by omega) (by omega) p2 (by omega) (by omega) ⟨_, mbn2, hbn2⟩) rfl rfl ⟨Nat.le_of_ble_eq_true rfl, Nat.le_of_ble_eq_true rfl⟩ hB.1 h0 ro_20 rfl rfl hl.1 rfl (Nat.le_of_ble_eq_true rfl) gX5_wordFrom_18.2.2.2.2.1 ⟨Nat.le_refl _, Nat.le_refl _⟩) hB.2.1 (fun v311 H311 locs hp hz hS => ?_)
                                      obtain ⟨x19, rfl, lx19, ux19, q311_0, rfl⟩ := hp
                                      have hB := th_B_s hB hS
                                      replace hF := hF.trans (dv_bn2 (q311_0))
                                      refine W.eq (g2 := F0 m 314 ls [.int x19]) rfl ?_
                                      refine tr_if_eq (tgt := 323) hx hb gX5_wordFrom_18.2.2.2.2.2.1 (by decide) (Eq.refl _) (fun c314 => ?_) (fun c314 => ?_)
                                      · replace hF := hF.trans (if_pos c314)
                                        refine lv_aload_n hx hb gX5_wordFrom_19.1 rfl (lv_at hl 0 rfl) ?_
                                        obtain ⟨qs324, hq324, hr324⟩ := hX.2 (135, "y", [121]) (List.mem_of_getElem? (i := 19) rfl)
                                        refine va_ldcS hx hb hC.2.2.2.1 hr324 gX5_wordFrom_19.2.1 ?_
                                        refine lv_iload_n hx hb gX5_wordFrom_19.2.2.1 rfl (lv_at hl 1 rfl) ?_
                                        refine lv_iload_n hx hb gX5_wordFrom_19.2.2.2.1 rfl (lv_at hl 2 rfl) ?_
                                        refine th_call (th_runVX (As := [.ref qs324, .int p1, .int p2]) (rest := []) th_mvq (show th_Zc G s H0 ∧ th_Zq G qs324 [121] s H0 from ⟨hX.1, hq324⟩) hC mf_X5_is km_X5_96 im_X5_is se_X5_is (c_X5_is l G Γ H0 hB.1 hU a0 h0 qs324 [121] p1 (by omega) (by omega) p2 (by omega) (by omega) ⟨_, mbn2, hbn2⟩) rfl rfl ⟨Nat.le_of_ble_eq_true rfl, Nat.le_of_ble_eq_true rfl⟩ hB.1 h0 ro_20 rfl rfl hl.1 rfl (Nat.le_of_ble_eq_true rfl) gX5_wordFrom_19.2.2.2.2.1 ⟨Nat.le_refl _, Nat.le_refl _⟩) hB.2.1 (fun v328 H328 locs hp hz hS => ?_)
                                        obtain ⟨x20, rfl, lx20, ux20, q328_0, rfl⟩ := hp
                                        have hB := th_B_s hB hS
                                        replace hF := hF.trans (dv_bn2 (q328_0))
                                        refine W.eq (g2 := F0 m 331 ls [.int x20]) rfl ?_
                                        refine tr_if_eq (tgt := 340) hx hb gX5_wordFrom_19.2.2.2.2.2.1 (by decide) (Eq.refl _) (fun c331 => ?_) (fun c331 => ?_)
                                        · replace hF := hF.trans (if_pos c331)
                                          refine lv_aload_n hx hb gX5_wordFrom_20.1 rfl (lv_at hl 0 rfl) ?_
                                          obtain ⟨qs341, hq341, hr341⟩ := hX.2 (137, "year", [121, 101, 97, 114]) (List.mem_of_getElem? (i := 20) rfl)
                                          refine va_ldcS hx hb hC.2.2.2.1 hr341 gX5_wordFrom_20.2.1 ?_
                                          refine lv_iload_n hx hb gX5_wordFrom_20.2.2.1 rfl (lv_at hl 1 rfl) ?_
                                          refine lv_iload_n hx hb gX5_wordFrom_20.2.2.2.1 rfl (lv_at hl 2 rfl) ?_
                                          refine th_call (th_runVX (As := [.ref qs341, .int p1, .int p2]) (rest := []) th_mvq (show th_Zc G s H0 ∧ th_Zq G qs341 [121, 101, 97, 114] s H0 from ⟨hX.1, hq341⟩) hC mf_X5_is km_X5_96 im_X5_is se_X5_is (c_X5_is l G Γ H0 hB.1 hU a0 h0 qs341 [121, 101, 97, 114] p1 (by omega) (by omega) p2 (by omega) (by omega) ⟨_, mbn2, hbn2⟩) rfl rfl ⟨Nat.le_of_ble_eq_true rfl, Nat.le_of_ble_eq_true rfl⟩ hB.1 h0 ro_20 rfl rfl hl.1 rfl (Nat.le_of_ble_eq_true rfl) gX5_wordFrom_20.2.2.2.2.1 ⟨Nat.le_refl _, Nat.le_refl _⟩) hB.2.1 (fun v345 H345 locs hp hz hS => ?_)
                                          obtain ⟨x21, rfl, lx21, ux21, q345_0, rfl⟩ := hp
                                          have hB := th_B_s hB hS
                                          replace hF := hF.trans (dv_bn2 (q345_0))
                                          refine W.eq (g2 := F0 m 348 ls [.int x21]) rfl ?_
                                          refine tr_if_eq (tgt := 357) hx hb gX5_wordFrom_20.2.2.2.2.2.1 (by decide) (Eq.refl _) (fun c348 => ?_) (fun c348 => ?_)
                                          · replace hF := hF.trans (if_pos c348)
                                            refine lv_aload_n hx hb gX5_wordFrom_21.1 rfl (lv_at hl 0 rfl) ?_
                                            obtain ⟨qs358, hq358, hr358⟩ := hX.2 (139, "mood", [109, 111, 111, 100]) (List.mem_of_getElem? (i := 21) rfl)
                                            refine va_ldcS hx hb hC.2.2.2.1 hr358 gX5_wordFrom_21.2.1 ?_
                                            refine lv_iload_n hx hb gX5_wordFrom_21.2.2.1 rfl (lv_at hl 1 rfl) ?_
                                            refine lv_iload_n hx hb gX5_wordFrom_21.2.2.2.1 rfl (lv_at hl 2 rfl) ?_
                                            refine th_call (th_runVX (As := [.ref qs358, .int p1, .int p2]) (rest := []) th_mvq (show th_Zc G s H0 ∧ th_Zq G qs358 [109, 111, 111, 100] s H0 from ⟨hX.1, hq358⟩) hC mf_X5_is km_X5_96 im_X5_is se_X5_is (c_X5_is l G Γ H0 hB.1 hU a0 h0 qs358 [109, 111, 111, 100] p1 (by omega) (by omega) p2 (by omega) (by omega) ⟨_, mbn2, hbn2⟩) rfl rfl ⟨Nat.le_of_ble_eq_true rfl, Nat.le_of_ble_eq_true rfl⟩ hB.1 h0 ro_20 rfl rfl hl.1 rfl (Nat.le_of_ble_eq_true rfl) gX5_wordFrom_21.2.2.2.2.1 ⟨Nat.le_refl _, Nat.le_refl _⟩) hB.2.1 (fun v362 H362 locs hp hz hS => ?_)
                                            obtain ⟨x22, rfl, lx22, ux22, q362_0, rfl⟩ := hp
                                            have hB := th_B_s hB hS
                                            replace hF := hF.trans (dv_bn2 (q362_0))
                                            refine W.eq (g2 := F0 m 365 ls [.int x22]) rfl ?_
                                            refine tr_if_eq (tgt := 374) hx hb gX5_wordFrom_21.2.2.2.2.2.1 (by decide) (Eq.refl _) (fun c365 => ?_) (fun c365 => ?_)
                                            · replace hF := hF.trans (if_pos c365)
                                              refine lv_aload_n hx hb gX5_wordFrom_22.1 rfl (lv_at hl 0 rfl) ?_
                                              obtain ⟨qs375, hq375, hr375⟩ := hX.2 (141, "done", [100, 111, 110, 101]) (List.mem_of_getElem? (i := 22) rfl)
                                              refine va_ldcS hx hb hC.2.2.2.1 hr375 gX5_wordFrom_22.2.1 ?_
                                              refine lv_iload_n hx hb gX5_wordFrom_22.2.2.1 rfl (lv_at hl 1 rfl) ?_
                                              refine lv_iload_n hx hb gX5_wordFrom_22.2.2.2.1 rfl (lv_at hl 2 rfl) ?_
                                              refine th_call (th_runVX (As := [.ref qs375, .int p1, .int p2]) (rest := []) th_mvq (show th_Zc G s H0 ∧ th_Zq G qs375 [100, 111, 110, 101] s H0 from ⟨hX.1, hq375⟩) hC mf_X5_is km_X5_96 im_X5_is se_X5_is (c_X5_is l G Γ H0 hB.1 hU a0 h0 qs375 [100, 111, 110, 101] p1 (by omega) (by omega) p2 (by omega) (by omega) ⟨_, mbn2, hbn2⟩) rfl rfl ⟨Nat.le_of_ble_eq_true rfl, Nat.le_of_ble_eq_true rfl⟩ hB.1 h0 ro_20 rfl rfl hl.1 rfl (Nat.le_of_ble_eq_true rfl) gX5_wordFrom_22.2.2.2.2.1 ⟨Nat.le_refl _, Nat.le_refl _⟩) hB.2.1 (fun v379 H379 locs hp hz hS => ?_)
                                              obtain ⟨x23, rfl, lx23, ux23, q379_0, rfl⟩ := hp
                                              have hB := th_B_s hB hS
                                              replace hF := hF.trans (dv_bn2 (q379_0))
                                              refine W.eq (g2 := F0 m 382 ls [.int x23]) rfl ?_
                                              refine tr_if_eq (tgt := 391) hx hb gX5_wordFrom_22.2.2.2.2.2.1 (by decide) (Eq.refl _) (fun c382 => ?_) (fun c382 => ?_)
                                              · replace hF := hF.trans (if_pos c382)
                                                refine lv_aload_n hx hb gX5_wordFrom_23.1 rfl (lv_at hl 0 rfl) ?_
                                                obtain ⟨qs392, hq392, hr392⟩ := hX.2 (143, "latest", [108, 97, 116, 101, 115, 116]) (List.mem_of_getElem? (i := 23) rfl)
                                                refine va_ldcS hx hb hC.2.2.2.1 hr392 gX5_wordFrom_23.2.1 ?_
                                                refine lv_iload_n hx hb gX5_wordFrom_23.2.2.1 rfl (lv_at hl 1 rfl) ?_
                                                refine lv_iload_n hx hb gX5_wordFrom_23.2.2.2.1 rfl (lv_at hl 2 rfl) ?_
                                                refine th_call (th_runVX (As := [.ref qs392, .int p1, .int p2]) (rest := []) th_mvq (show th_Zc G s H0 ∧ th_Zq G qs392 [108, 97, 116, 101, 115, 116] s H0 from ⟨hX.1, hq392⟩) hC mf_X5_is km_X5_96 im_X5_is se_X5_is (c_X5_is l G Γ H0 hB.1 hU a0 h0 qs392 [108, 97, 116, 101, 115, 116] p1 (by omega) (by omega) p2 (by omega) (by omega) ⟨_, mbn2, hbn2⟩) rfl rfl ⟨Nat.le_of_ble_eq_true rfl, Nat.le_of_ble_eq_true rfl⟩ hB.1 h0 ro_20 rfl rfl hl.1 rfl (Nat.le_of_ble_eq_true rfl) gX5_wordFrom_23.2.2.2.2.1 ⟨Nat.le_refl _, Nat.le_refl _⟩) hB.2.1 (fun v396 H396 locs hp hz hS => ?_)
                                                obtain ⟨x24, rfl, lx24, ux24, q396_0, rfl⟩ := hp
                                                have hB := th_B_s hB hS
                                                replace hF := hF.trans (dv_bn2 (q396_0))
                                                refine W.eq (g2 := F0 m 399 ls [.int x24]) rfl ?_
                                                refine tr_if_eq (tgt := 408) hx hb gX5_wordFrom_23.2.2.2.2.2.1 (by decide) (Eq.refl _) (fun c399 => ?_) (fun c399 => ?_)
                                                · replace hF := hF.trans (if_pos c399)
                                                  refine lv_aload_n hx hb gX5_wordFrom_24.1 rfl (lv_at hl 0 rfl) ?_
                                                  obtain ⟨qs409, hq409, hr409⟩ := hX.2 (145, "bare", [98, 97, 114, 101]) (List.mem_of_getElem? (i := 24) rfl)
                                                  refine va_ldcS hx hb hC.2.2.2.1 hr409 gX5_wordFrom_24.2.1 ?_
                                                  refine lv_iload_n hx hb gX5_wordFrom_24.2.2.1 rfl (lv_at hl 1 rfl) ?_
                                                  refine lv_iload_n hx hb gX5_wordFrom_24.2.2.2.1 rfl (lv_at hl 2 rfl) ?_
                                                  refine th_call (th_runVX (As := [.ref qs409, .int p1, .int p2]) (rest := []) th_mvq (show th_Zc G s H0 ∧ th_Zq G qs409 [98, 97, 114, 101] s H0 from ⟨hX.1, hq409⟩) hC mf_X5_is km_X5_96 im_X5_is se_X5_is (c_X5_is l G Γ H0 hB.1 hU a0 h0 qs409 [98, 97, 114, 101] p1 (by omega) (by omega) p2 (by omega) (by omega) ⟨_, mbn2, hbn2⟩) rfl rfl ⟨Nat.le_of_ble_eq_true rfl, Nat.le_of_ble_eq_true rfl⟩ hB.1 h0 ro_20 rfl rfl hl.1 rfl (Nat.le_of_ble_eq_true rfl) gX5_wordFrom_24.2.2.2.2.1 ⟨Nat.le_refl _, Nat.le_refl _⟩) hB.2.1 (fun v413 H413 locs hp hz hS => ?_)
                                                  obtain ⟨x25, rfl, lx25, ux25, q413_0, rfl⟩ := hp
                                                  have hB := th_B_s hB hS
                                                  replace hF := hF.trans (dv_bn2 (q413_0))
                                                  refine W.eq (g2 := F0 m 416 ls [.int x25]) rfl ?_
                                                  refine tr_if_eq (tgt := 425) hx hb gX5_wordFrom_24.2.2.2.2.2.1 (by decide) (Eq.refl _) (fun c416 => ?_) (fun c416 => ?_)
                                                  · replace hF := hF.trans (if_pos c416)
                                                    refine lv_aload_n hx hb gX5_wordFrom_25.1 rfl (lv_at hl 0 rfl) ?_
                                                    obtain ⟨qs426, hq426, hr426⟩ := hX.2 (147, "paid", [112, 97, 105, 100]) (List.mem_of_getElem? (i := 25) rfl)
                                                    refine va_ldcS hx hb hC.2.2.2.1 hr426 gX5_wordFrom_25.2.1 ?_
                                                    refine lv_iload_n hx hb gX5_wordFrom_25.2.2.1 rfl (lv_at hl 1 rfl) ?_
                                                    refine lv_iload_n hx hb gX5_wordFrom_25.2.2.2.1 rfl (lv_at hl 2 rfl) ?_
                                                    refine th_call (th_runVX (As := [.ref qs426, .int p1, .int p2]) (rest := []) th_mvq (show th_Zc G s H0 ∧ th_Zq G qs426 [112, 97, 105, 100] s H0 from ⟨hX.1, hq426⟩) hC mf_X5_is km_X5_96 im_X5_is se_X5_is (c_X5_is l G Γ H0 hB.1 hU a0 h0 qs426 [112, 97, 105, 100] p1 (by omega) (by omega) p2 (by omega) (by omega) ⟨_, mbn2, hbn2⟩) rfl rfl ⟨Nat.le_of_ble_eq_true rfl, Nat.le_of_ble_eq_true rfl⟩ hB.1 h0 ro_20 rfl rfl hl.1 rfl (Nat.le_of_ble_eq_true rfl) gX5_wordFrom_25.2.2.2.2.1 ⟨Nat.le_refl _, Nat.le_refl _⟩) hB.2.1 (fun v430 H430 locs hp hz hS => ?_)
                                                    obtain ⟨x26, rfl, lx26, ux26, q430_0, rfl⟩ := hp
                                                    have hB := th_B_s hB hS
                                                    replace hF := hF.trans (dv_bn2 (q430_0))
                                                    refine W.eq (g2 := F0 m 433 ls [.int x26]) rfl ?_
                                                    refine tr_if_eq (tgt := 442) hx hb gX5_wordFrom_25.2.2.2.2.2.1 (by decide) (Eq.refl _) (fun c433 => ?_) (fun c433 => ?_)
                                                    · replace hF := hF.trans (if_pos c433)
                                                      refine lv_aload_n hx hb gX5_wordFrom_26.1 rfl (lv_at hl 0 rfl) ?_
                                                      obtain ⟨qs443, hq443, hr443⟩ := hX.2 (149, "laid", [108, 97, 105, 100]) (List.mem_of_getElem? (i := 26) rfl)
                                                      refine va_ldcS hx hb hC.2.2.2.1 hr443 gX5_wordFrom_26.2.1 ?_
                                                      refine lv_iload_n hx hb gX5_wordFrom_26.2.2.1 rfl (lv_at hl 1 rfl) ?_
                                                      refine lv_iload_n hx hb gX5_wordFrom_26.2.2.2.1 rfl (lv_at hl 2 rfl) ?_
                                                      refine th_call (th_runVX (As := [.ref qs443, .int p1, .int p2]) (rest := []) th_mvq (show th_Zc G s H0 ∧ th_Zq G qs443 [108, 97, 105, 100] s H0 from ⟨hX.1, hq443⟩) hC mf_X5_is km_X5_96 im_X5_is se_X5_is (c_X5_is l G Γ H0 hB.1 hU a0 h0 qs443 [108, 97, 105, 100] p1 (by omega) (by omega) p2 (by omega) (by omega) ⟨_, mbn2, hbn2⟩) rfl rfl ⟨Nat.le_of_ble_eq_true rfl, Nat.le_of_ble_eq_true rfl⟩ hB.1 h0 ro_20 rfl rfl hl.1 rfl (Nat.le_of_ble_eq_true rfl) gX5_wordFrom_26.2.2.2.2.1 ⟨Nat.le_refl _, Nat.le_refl _⟩) hB.2.1 (fun v447 H447 locs hp hz hS => ?_)
                                                      obtain ⟨x27, rfl, lx27, ux27, q447_0, rfl⟩ := hp
                                                      have hB := th_B_s hB hS
                                                      replace hF := hF.trans (dv_bn2 (q447_0))
                                                      refine W.eq (g2 := F0 m 450 ls [.int x27]) rfl ?_
                                                      refine tr_if_eq (tgt := 459) hx hb gX5_wordFrom_26.2.2.2.2.2.1 (by decide) (Eq.refl _) (fun c450 => ?_) (fun c450 => ?_)
                                                      · replace hF := hF.trans (if_pos c450)
                                                        refine lv_sipush (v := 300) hx hb gX5_wordFrom_27.1 (by decide) ?_
                                                        exact th_iret hC hH hr hlocks rfl hB.2.1 ⟨_, rfl, by decide, by decide, (hF0.symm.trans (hF.trans (by rw [tk_300]))), rfl⟩ gX5_wordFrom_27.2
                                                      · replace hF := hF.trans (if_neg c450)
                                                        refine lv_sipush (v := 327) hx hb gX5_wordFrom_26.2.2.2.2.2.2.1 (by decide) ?_
                                                        refine lv_goto (tgt := 462) hx hb gX5_wordFrom_26.2.2.2.2.2.2.2 (by decide) ?_
                                                        exact th_iret hC hH hr hlocks rfl hB.2.1 ⟨_, rfl, by decide, by decide, (hF0.symm.trans (hF.trans (by rw [tk_327]))), rfl⟩ gX5_wordFrom_27.2
                                                    · replace hF := hF.trans (if_neg c433)
                                                      refine lv_sipush (v := 326) hx hb gX5_wordFrom_25.2.2.2.2.2.2.1 (by decide) ?_
                                                      refine lv_goto (tgt := 462) hx hb gX5_wordFrom_25.2.2.2.2.2.2.2 (by decide) ?_
                                                      exact th_iret hC hH hr hlocks rfl hB.2.1 ⟨_, rfl, by decide, by decide, (hF0.symm.trans (hF.trans (by rw [tk_326]))), rfl⟩ gX5_wordFrom_27.2
                                                  · replace hF := hF.trans (if_neg c416)
                                                    refine lv_sipush (v := 325) hx hb gX5_wordFrom_24.2.2.2.2.2.2.1 (by decide) ?_
                                                    refine lv_goto (tgt := 462) hx hb gX5_wordFrom_24.2.2.2.2.2.2.2 (by decide) ?_
                                                    exact th_iret hC hH hr hlocks rfl hB.2.1 ⟨_, rfl, by decide, by decide, (hF0.symm.trans (hF.trans (by rw [tk_325]))), rfl⟩ gX5_wordFrom_27.2
                                                · replace hF := hF.trans (if_neg c399)
                                                  refine lv_sipush (v := 324) hx hb gX5_wordFrom_23.2.2.2.2.2.2.1 (by decide) ?_
                                                  refine lv_goto (tgt := 462) hx hb gX5_wordFrom_23.2.2.2.2.2.2.2 (by decide) ?_
                                                  exact th_iret hC hH hr hlocks rfl hB.2.1 ⟨_, rfl, by decide, by decide, (hF0.symm.trans (hF.trans (by rw [tk_324]))), rfl⟩ gX5_wordFrom_27.2
                                              · replace hF := hF.trans (if_neg c382)
                                                refine lv_sipush (v := 323) hx hb gX5_wordFrom_22.2.2.2.2.2.2.1 (by decide) ?_
                                                refine lv_goto (tgt := 462) hx hb gX5_wordFrom_22.2.2.2.2.2.2.2 (by decide) ?_
                                                exact th_iret hC hH hr hlocks rfl hB.2.1 ⟨_, rfl, by decide, by decide, (hF0.symm.trans (hF.trans (by rw [tk_323]))), rfl⟩ gX5_wordFrom_27.2
                                            · replace hF := hF.trans (if_neg c365)
                                              refine lv_sipush (v := 322) hx hb gX5_wordFrom_21.2.2.2.2.2.2.1 (by decide) ?_
                                              refine lv_goto (tgt := 462) hx hb gX5_wordFrom_21.2.2.2.2.2.2.2 (by decide) ?_
                                              exact th_iret hC hH hr hlocks rfl hB.2.1 ⟨_, rfl, by decide, by decide, (hF0.symm.trans (hF.trans (by rw [tk_322]))), rfl⟩ gX5_wordFrom_27.2
                                          · replace hF := hF.trans (if_neg c348)
                                            refine lv_sipush (v := 321) hx hb gX5_wordFrom_20.2.2.2.2.2.2.1 (by decide) ?_
                                            refine lv_goto (tgt := 462) hx hb gX5_wordFrom_20.2.2.2.2.2.2.2 (by decide) ?_
                                            exact th_iret hC hH hr hlocks rfl hB.2.1 ⟨_, rfl, by decide, by decide, (hF0.symm.trans (hF.trans (by rw [tk_321]))), rfl⟩ gX5_wordFrom_27.2
                                        · replace hF := hF.trans (if_neg c331)
                                          refine lv_sipush (v := 320) hx hb gX5_wordFrom_19.2.2.2.2.2.2.1 (by decide) ?_
                                          refine lv_goto (tgt := 462) hx hb gX5_wordFrom_19.2.2.2.2.2.2.2 (by decide) ?_
                                          exact th_iret hC hH hr hlocks rfl hB.2.1 ⟨_, rfl, by decide, by decide, (hF0.symm.trans (hF.trans (by rw [tk_320]))), rfl⟩ gX5_wordFrom_27.2
                                      · replace hF := hF.trans (if_neg c314)
                                        refine lv_sipush (v := 319) hx hb gX5_wordFrom_18.2.2.2.2.2.2.1 (by decide) ?_
                                        refine lv_goto (tgt := 462) hx hb gX5_wordFrom_18.2.2.2.2.2.2.2 (by decide) ?_
                                        exact th_iret hC hH hr hlocks rfl hB.2.1 ⟨_, rfl, by decide, by decide, (hF0.symm.trans (hF.trans (by rw [tk_319]))), rfl⟩ gX5_wordFrom_27.2
                                    · replace hF := hF.trans (if_neg c297)
                                      refine lv_sipush (v := 318) hx hb gX5_wordFrom_17.2.2.2.2.2.2.1 (by decide) ?_
                                      refine lv_goto (tgt := 462) hx hb gX5_wordFrom_17.2.2.2.2.2.2.2 (by decide) ?_
                                      exact th_iret hC hH hr hlocks rfl hB.2.1 ⟨_, rfl, by decide, by decide, (hF0.symm.trans (hF.trans (by rw [tk_318]))), rfl⟩ gX5_wordFrom_27.2
                                  · replace hF := hF.trans (if_neg c280)
                                    refine lv_sipush (v := 317) hx hb gX5_wordFrom_16.2.2.2.2.2.2.1 (by decide) ?_
                                    refine lv_goto (tgt := 462) hx hb gX5_wordFrom_16.2.2.2.2.2.2.2 (by decide) ?_
                                    exact th_iret hC hH hr hlocks rfl hB.2.1 ⟨_, rfl, by decide, by decide, (hF0.symm.trans (hF.trans (by rw [tk_317]))), rfl⟩ gX5_wordFrom_27.2
                                · replace hF := hF.trans (if_neg c263)
                                  refine lv_sipush (v := 316) hx hb gX5_wordFrom_15.2.2.2.2.2.2.1 (by decide) ?_
                                  refine lv_goto (tgt := 462) hx hb gX5_wordFrom_15.2.2.2.2.2.2.2 (by decide) ?_
                                  exact th_iret hC hH hr hlocks rfl hB.2.1 ⟨_, rfl, by decide, by decide, (hF0.symm.trans (hF.trans (by rw [tk_316]))), rfl⟩ gX5_wordFrom_27.2
                              · replace hF := hF.trans (if_neg c246)
                                refine lv_sipush (v := 315) hx hb gX5_wordFrom_14.2.2.2.2.2.2.1 (by decide) ?_
                                refine lv_goto (tgt := 462) hx hb gX5_wordFrom_14.2.2.2.2.2.2.2 (by decide) ?_
                                exact th_iret hC hH hr hlocks rfl hB.2.1 ⟨_, rfl, by decide, by decide, (hF0.symm.trans (hF.trans (by rw [tk_315]))), rfl⟩ gX5_wordFrom_27.2
                            · replace hF := hF.trans (if_neg c229)
                              refine lv_sipush (v := 314) hx hb gX5_wordFrom_13.2.2.2.2.2.2.1 (by decide) ?_
                              refine lv_goto (tgt := 462) hx hb gX5_wordFrom_13.2.2.2.2.2.2.2 (by decide) ?_
                              exact th_iret hC hH hr hlocks rfl hB.2.1 ⟨_, rfl, by decide, by decide, (hF0.symm.trans (hF.trans (by rw [tk_314]))), rfl⟩ gX5_wordFrom_27.2
                          · replace hF := hF.trans (if_neg c212)
                            refine lv_sipush (v := 313) hx hb gX5_wordFrom_12.2.2.2.2.2.2.1 (by decide) ?_
                            refine lv_goto (tgt := 462) hx hb gX5_wordFrom_12.2.2.2.2.2.2.2 (by decide) ?_
                            exact th_iret hC hH hr hlocks rfl hB.2.1 ⟨_, rfl, by decide, by decide, (hF0.symm.trans (hF.trans (by rw [tk_313]))), rfl⟩ gX5_wordFrom_27.2
                        · replace hF := hF.trans (if_neg c195)
                          refine lv_sipush (v := 312) hx hb gX5_wordFrom_11.2.2.2.2.2.2.1 (by decide) ?_
                          refine lv_goto (tgt := 462) hx hb gX5_wordFrom_11.2.2.2.2.2.2.2 (by decide) ?_
                          exact th_iret hC hH hr hlocks rfl hB.2.1 ⟨_, rfl, by decide, by decide, (hF0.symm.trans (hF.trans (by rw [tk_312]))), rfl⟩ gX5_wordFrom_27.2
                      · replace hF := hF.trans (if_neg c178)
                        refine lv_sipush (v := 311) hx hb gX5_wordFrom_10.2.2.2.2.2.2.1 (by decide) ?_
                        refine lv_goto (tgt := 462) hx hb gX5_wordFrom_10.2.2.2.2.2.2.2 (by decide) ?_
                        exact th_iret hC hH hr hlocks rfl hB.2.1 ⟨_, rfl, by decide, by decide, (hF0.symm.trans (hF.trans (by rw [tk_311]))), rfl⟩ gX5_wordFrom_27.2
                    · replace hF := hF.trans (if_neg c161)
                      refine lv_sipush (v := 310) hx hb gX5_wordFrom_9.2.2.2.2.2.2.1 (by decide) ?_
                      refine lv_goto (tgt := 462) hx hb gX5_wordFrom_9.2.2.2.2.2.2.2 (by decide) ?_
                      exact th_iret hC hH hr hlocks rfl hB.2.1 ⟨_, rfl, by decide, by decide, (hF0.symm.trans (hF.trans (by rw [tk_310]))), rfl⟩ gX5_wordFrom_27.2
                  · replace hF := hF.trans (if_neg c144)
                    refine lv_sipush (v := 309) hx hb gX5_wordFrom_8.2.2.2.2.2.2.1 (by decide) ?_
                    refine lv_goto (tgt := 462) hx hb gX5_wordFrom_8.2.2.2.2.2.2.2 (by decide) ?_
                    exact th_iret hC hH hr hlocks rfl hB.2.1 ⟨_, rfl, by decide, by decide, (hF0.symm.trans (hF.trans (by rw [tk_309]))), rfl⟩ gX5_wordFrom_27.2
                · replace hF := hF.trans (if_neg c127)
                  refine lv_sipush (v := 308) hx hb gX5_wordFrom_7.2.2.2.2.2.2.1 (by decide) ?_
                  refine lv_goto (tgt := 462) hx hb gX5_wordFrom_7.2.2.2.2.2.2.2 (by decide) ?_
                  exact th_iret hC hH hr hlocks rfl hB.2.1 ⟨_, rfl, by decide, by decide, (hF0.symm.trans (hF.trans (by rw [tk_308]))), rfl⟩ gX5_wordFrom_27.2
              · replace hF := hF.trans (if_neg c110)
                refine lv_sipush (v := 307) hx hb gX5_wordFrom_6.2.2.2.2.2.2.1 (by decide) ?_
                refine lv_goto (tgt := 462) hx hb gX5_wordFrom_6.2.2.2.2.2.2.2 (by decide) ?_
                exact th_iret hC hH hr hlocks rfl hB.2.1 ⟨_, rfl, by decide, by decide, (hF0.symm.trans (hF.trans (by rw [tk_307]))), rfl⟩ gX5_wordFrom_27.2
            · replace hF := hF.trans (if_neg c93)
              refine lv_sipush (v := 306) hx hb gX5_wordFrom_5.2.2.2.2.2.2.1 (by decide) ?_
              refine lv_goto (tgt := 462) hx hb gX5_wordFrom_5.2.2.2.2.2.2.2 (by decide) ?_
              exact th_iret hC hH hr hlocks rfl hB.2.1 ⟨_, rfl, by decide, by decide, (hF0.symm.trans (hF.trans (by rw [tk_306]))), rfl⟩ gX5_wordFrom_27.2
          · replace hF := hF.trans (if_neg c76)
            refine lv_sipush (v := 305) hx hb gX5_wordFrom_4.2.2.2.2.2.2.1 (by decide) ?_
            refine lv_goto (tgt := 462) hx hb gX5_wordFrom_4.2.2.2.2.2.2.2 (by decide) ?_
            exact th_iret hC hH hr hlocks rfl hB.2.1 ⟨_, rfl, by decide, by decide, (hF0.symm.trans (hF.trans (by rw [tk_305]))), rfl⟩ gX5_wordFrom_27.2
        · replace hF := hF.trans (if_neg c59)
          refine lv_sipush (v := 304) hx hb gX5_wordFrom_3.2.2.2.2.2.2.1 (by decide) ?_
          refine lv_goto (tgt := 462) hx hb gX5_wordFrom_3.2.2.2.2.2.2.2 (by decide) ?_
          exact th_iret hC hH hr hlocks rfl hB.2.1 ⟨_, rfl, by decide, by decide, (hF0.symm.trans (hF.trans (by rw [tk_304]))), rfl⟩ gX5_wordFrom_27.2
      · replace hF := hF.trans (if_neg c42)
        refine lv_sipush (v := 303) hx hb gX5_wordFrom_2.2.2.2.2.2.2.1 (by decide) ?_
        refine lv_goto (tgt := 462) hx hb gX5_wordFrom_2.2.2.2.2.2.2.2 (by decide) ?_
        exact th_iret hC hH hr hlocks rfl hB.2.1 ⟨_, rfl, by decide, by decide, (hF0.symm.trans (hF.trans (by rw [tk_303]))), rfl⟩ gX5_wordFrom_27.2
    · replace hF := hF.trans (if_neg c25)
      refine lv_sipush (v := 302) hx hb gX5_wordFrom_1.2.2.2.2.2.2.1 (by decide) ?_
      refine lv_goto (tgt := 462) hx hb gX5_wordFrom_1.2.2.2.2.2.2.2 (by decide) ?_
      exact th_iret hC hH hr hlocks rfl hB.2.1 ⟨_, rfl, by decide, by decide, (hF0.symm.trans (hF.trans (by rw [tk_302]))), rfl⟩ gX5_wordFrom_27.2
  · replace hF := hF.trans (if_neg c8)
    refine lv_sipush (v := 301) hx hb gX5_wordFrom_0.2.2.2.2.2.2.1 (by decide) ?_
    refine lv_goto (tgt := 462) hx hb gX5_wordFrom_0.2.2.2.2.2.2.2 (by decide) ?_
    exact th_iret hC hH hr hlocks rfl hB.2.1 ⟨_, rfl, by decide, by decide, (hF0.symm.trans (hF.trans (by rw [tk_301]))), rfl⟩ gX5_wordFrom_27.2

set_option maxHeartbeats 4000000 in
set_option maxRecDepth 100000 in
theorem c_X5_scan (l : Launch) (G : th_G) (Γ : th_Ga) (H0 : Heap) (hI : th_I G Γ H0) (hR : th_RC G Γ H0) (hU : dv_U Γ) (a0 : Nat) (h0 : Γ a0 = (20, 0)) (nn2 : ∃ b : Nat, th_sl H0 a0 (G.1.1.2 5 2) = .ref b ∧ Γ b = (37, 0)) : Met l yX5_scan (.code yX5_scan cX5_scan 6 (none) :: th_tb) ({ frames := 6, cells := 0, slots := 0, locals := 131 } : Room) (th_PX [.ref a0] G H0 (fun U => th_Z G U H0)) (th_Q (fun (v : Option Value) (H1 : Heap) => v = none ∧ th_I G Γ H1 ∧ th_F G Γ [(21, 0), (22, 0)] H0 H1 ∧ th_RC G Γ H1 ∧ (∃ tb o f : Nat, th_sl H1 a0 (G.1.1.2 5 0) = .ref tb ∧ Γ tb = (21, o) ∧ f ≤ 400 ∧ th_sl H1 tb f = .int (-1)) ∧ (f_X5_scan (dv G Γ H0) (a0 : Int) = (dv G Γ H1, 0))) G) 0 0 (fun q => G.1.2.2 ≤ q) := by
  refine th_metX RX5 (by decide) rfl (Nat.le_of_ble_eq_true rfl) ?_
  intro p e s m below meth c hC hX hH hr hlocks hnm ls hl
  have hx := hC.1
  have hb := hC.2.1
  have hB : th_B G Γ Γ [(21, 0), (22, 0)] H0 H0 [] := ⟨hI, va_S.rf, th_F_rf⟩
  have hl : lv_has ls 6 [(0, .ref a0)] := hl
  obtain ⟨bn2, mbn2, hbn2⟩ := nn2
  obtain ⟨F, hF0⟩ : ∃ F, F = f_X5_scan (dv G Γ H0) ((a0 : Int)) := ⟨_, rfl⟩
  have hF := hF0.trans (f_X5_scan.eq_1 (dv G Γ H0) ((a0 : Int)))
  refine lv_iconst (v := 0) hx hb gX5_scan_0.1 (by decide) ?_
  refine lv_istore_n (lv' := [(1, .int 0), (0, .ref a0)]) hx hb gX5_scan_0.2.1 rfl hl (by decide) rfl (fun ls hl => ?_)
  refine lv_iconst (v := 0) hx hb gX5_scan_0.2.2.1 (by decide) ?_
  refine lv_istore_n (lv' := [(2, .int 0), (1, .int 0), (0, .ref a0)]) hx hb gX5_scan_0.2.2.2.1 rfl hl (by decide) rfl (fun ls hl => ?_)
  refine lv_iconst (v := 0) hx hb gX5_scan_0.2.2.2.2.1 (by decide) ?_
  refine lv_istore_n (lv' := [(3, .int 0), (2, .int 0), (1, .int 0), (0, .ref a0)]) hx hb gX5_scan_0.2.2.2.2.2.1 rfl hl (by decide) rfl (fun ls hl => ?_)
  have lp6 : ∀ (n6 : Nat) (H6 : Heap) (locs : List Loc) (ls : Array Slot) (j6_1 : Int32) (j6_2 : Int32) (j6_3 : Int32), th_B G Γ Γ [(21, 0), (22, 0)] H0 H6 locs → th_RC G Γ H6 → lv_has ls 6 [(0, .ref a0), (1, .int j6_1), (2, .int j6_2), (3, .int j6_3)] → F = dv_lp f_X5_scan_6b (dv G Γ H6, (a0 : Int), j6_1.toInt, j6_2.toInt, j6_3.toInt) → 0 ≤ j6_1.toInt → j6_1.toInt ≤ 400 → 0 ≤ j6_2.toInt → j6_2.toInt ≤ 400 → 0 ≤ j6_3.toInt → j6_3.toInt ≤ 400 → j6_1.toInt ≤ j6_3.toInt → (2147483648 : Int) - j6_3.toInt ≤ (n6 : Int) → W p l e ({ frames := 6, cells := 0, slots := 0, locals := 131 } : Room) s m ([.ref a0] : List Value).toArray below meth c H6 locs 0 0 (MQ below (th_Q (fun (v : Option Value) (H1 : Heap) => v = none ∧ th_I G Γ H1 ∧ th_F G Γ [(21, 0), (22, 0)] H0 H1 ∧ th_RC G Γ H1 ∧ (∃ tb o f : Nat, th_sl H1 a0 (G.1.1.2 5 0) = .ref tb ∧ Γ tb = (21, o) ∧ f ≤ 400 ∧ th_sl H1 tb f = .int (-1)) ∧ (f_X5_scan (dv G Γ H0) (a0 : Int) = (dv G Γ H1, 0))) G) ([.ref a0] : List Value).toArray s 0 0 (fun q => G.1.2.2 ≤ q)) (F0 m 6 ls []) := by
    intro n6
    induction n6 with
    | zero => intro H6 locs ls j6_1 j6_2 j6_3 hB hR hl hF g6_0 g6_1 g6_2 g6_3 g6_4 g6_5 g6_6 hm6; exact absurd hm6 (by have := ti_hi j6_3; omega)
    | succ n6 ih6 =>
      intro H6 locs ls j6_1 j6_2 j6_3 hB hR hl hF g6_0 g6_1 g6_2 g6_3 g6_4 g6_5 g6_6 hm6
      have lj6_1 := ti_lo j6_1; have uj6_1 := ti_hi j6_1
      have lj6_2 := ti_lo j6_2; have uj6_2 := ti_hi j6_2
      have lj6_3 := ti_lo j6_3; have uj6_3 := ti_hi j6_3
      have mm1 := (th_F_o hB.2.2 h0 ro_20 (j := 2) (by decide) (by decide)).trans mbn2
      have hm6 : (2147483648 : Int) - j6_3.toInt ≤ (n6 : Int) + 1 := by omega
      replace hF := hF.trans (dv_lp_eq)
      replace hF := hF.trans (congrArg (dv_k f_X5_scan_6b) (f_X5_scan_6c.eq_1 (dv G Γ H6) ((a0 : Int)) (j6_1.toInt) (j6_2.toInt) (j6_3.toInt)))
      refine lv_iload_n hx hb gX5_scan_0.2.2.2.2.2.2.1 rfl (lv_at hl 3 rfl) ?_
      refine lv_sipush (v := 400) hx hb gX5_scan_0.2.2.2.2.2.2.2 (by decide) ?_
      have jn142 : ∀ (locs : List Loc) (ls : Array Slot) , th_B G Γ Γ [(21, 0), (22, 0)] H0 H6 locs → lv_has ls 6 [(0, .ref a0), (1, .int j6_1)] → F = dv_k f_X5_scan_6b (f_X5_scan_142 (dv G Γ H6) ((a0 : Int)) (j6_1.toInt)) → W p l e ({ frames := 6, cells := 0, slots := 0, locals := 131 } : Room) s m ([.ref a0] : List Value).toArray below meth c H6 locs 0 0 (MQ below (th_Q (fun (v : Option Value) (H1 : Heap) => v = none ∧ th_I G Γ H1 ∧ th_F G Γ [(21, 0), (22, 0)] H0 H1 ∧ th_RC G Γ H1 ∧ (∃ tb o f : Nat, th_sl H1 a0 (G.1.1.2 5 0) = .ref tb ∧ Γ tb = (21, o) ∧ f ≤ 400 ∧ th_sl H1 tb f = .int (-1)) ∧ (f_X5_scan (dv G Γ H0) (a0 : Int) = (dv G Γ H1, 0))) G) ([.ref a0] : List Value).toArray s 0 0 (fun q => G.1.2.2 ≤ q)) (F0 m 142 ls []) := by
        intro locs ls hB hl hF
        replace hF := hF.trans (congrArg (dv_k f_X5_scan_6b) (f_X5_scan_142.eq_1 (dv G Γ H6) ((a0 : Int)) (j6_1.toInt)))
        refine lv_aload_n hx hb gX5_scan_9.2.2.2.2.1 rfl (lv_at hl 0 rfl) ?_
        refine th_getO (j := 0) (r2 := 21) hC cf_X5 hB.1 h0 ro_20 rfl rfl kf_X5_11 gX5_scan_9.2.2.2.2.2.1 (fun b2 mb2 hb2 => ?_)
        refine lv_iload_n hx hb gX5_scan_9.2.2.2.2.2.2.1 rfl (lv_at hl 1 rfl) ?_
        refine lv_iconst (v := (-1)) hx hb gX5_scan_9.2.2.2.2.2.2.2 (by decide) ?_
        have hIo := hB.1
        refine th_iastF hC hB hb2 (Or.inl hb2) ro_21 rfl (by decide) (Eq.refl _) (by omega) (by omega) th_sIa gX5_scan_10.1 (fun H148 locs hB hf148 hst148 => ?_)
        have hf := hf148
        have mm3 := (th_F_o hf h0 ro_20 (j := 2) (by decide) (by decide)).trans mm1
        have hR := th_RC_F hB.1 hR hf (th_T_s hb2 ro_21 hst148) (by decide)
        replace hF := hF.trans (congrArg (dv_k f_X5_scan_6b) (dv_bn (dv_stoI hIo hB.1 hU hb2 ow_21 (i := j6_1.toInt) hst148 tk_m1 (by omega))))
        have tf0 := (th_F_o hf148 h0 ro_20 (j := 0) (by decide) (by decide)).trans mb2
        have tf1 := hst148.2.1
        refine lv_aload_n hx hb gX5_scan_10.2.1 rfl (lv_at hl 0 rfl) ?_
        refine th_getO (j := 1) (r2 := 22) hC cf_X5 hB.1 h0 ro_20 rfl rfl kf_X5_15 gX5_scan_10.2.2.1 (fun b4 mb4 hb4 => ?_)
        refine lv_iload_n hx hb gX5_scan_10.2.2.2.1 rfl (lv_at hl 1 rfl) ?_
        refine lv_aload_n hx hb gX5_scan_10.2.2.2.2.1 rfl (lv_at hl 0 rfl) ?_
        refine th_getK hC cf_X5 hB.1 h0 ro_20 rfl (j := 2) (by decide) mm3 kf_X5_18 gX5_scan_10.2.2.2.2.2.1 ?_
        replace hF := hF.trans (congrArg (dv_k f_X5_scan_6b) (dv_bn (dv_getR h0 ro_20 (j := 2) rfl mm3 (by decide))))
        refine th_getI (j := 1) hC cf_X9 hB.1 hbn2 ro_37 rfl rfl kf_X5_61 gX5_scan_10.2.2.2.2.2.2.1 (fun x5 mx5 lx5 ux5 => ?_)
        replace hF := hF.trans (congrArg (dv_k f_X5_scan_6b) (dv_bn (dv_getI hbn2 ro_37 (j := 1) rfl mx5 (by decide))))
        have hIo := hB.1
        refine th_iastF hC hB hb4 (Or.inl hb4) ro_22 rfl (by decide) (Eq.refl _) (by omega) (by omega) th_sIa gX5_scan_10.2.2.2.2.2.2.2 (fun H161 locs hB hf161 hst161 => ?_)
        have hf := hf161
        have mm6 := (th_F_o hf h0 ro_20 (j := 2) (by decide) (by decide)).trans mm3
        have hR := th_RC_F hB.1 hR hf (th_T_s hb4 ro_22 hst161) (by decide)
        replace hF := hF.trans (congrArg (dv_k f_X5_scan_6b) (dv_bn (dv_stoI hIo hB.1 hU hb4 ow_22 (i := j6_1.toInt) hst161 (Eq.refl _) (by omega))))
        have tf2 := (th_F_o hf161 h0 ro_20 (j := 0) (by decide) (by decide)).trans tf0
        have tf3 := (th_F_a hf161 hb2 ro_21 (by decide) _).trans tf1
        replace hF := hF.trans (dv_kr)
        exact th_vret hC hH hr hlocks hB.2.1 ⟨rfl, hB.1, hB.2.2, hR, ⟨_, _, _, tf2, hb2, by omega, tf3⟩, (hF0.symm.trans hF)⟩ gX5_scan_11
      refine tr_icmp_ge (tgt := 142) hx hb gX5_scan_1.1 (by decide) (Eq.refl _) tk_400 (fun c10 => ?_) (fun c10 => ?_)
      · replace hF := hF.trans (congrArg (dv_k f_X5_scan_6b) (if_pos c10))
        exact jn142 locs ls hB (lv_sub hl [0, 1] rfl) hF
      · replace hF := hF.trans (congrArg (dv_k f_X5_scan_6b) (if_neg (Int.not_le.mpr c10)))
        refine lv_iload_n hx hb gX5_scan_1.2.1 rfl (lv_at hl 2 rfl) ?_
        refine lv_aload_n hx hb gX5_scan_1.2.2.1 rfl (lv_at hl 0 rfl) ?_
        refine th_getK hC cf_X5 hB.1 h0 ro_20 rfl (j := 2) (by decide) mm1 kf_X5_18 gX5_scan_1.2.2.2.1 ?_
        replace hF := hF.trans (congrArg (dv_k f_X5_scan_6b) (dv_bn (dv_getR h0 ro_20 (j := 2) rfl mm1 (by decide))))
        refine th_getI (j := 1) hC cf_X9 hB.1 hbn2 ro_37 rfl rfl kf_X5_61 gX5_scan_1.2.2.2.2.1 (fun x7 mx7 lx7 ux7 => ?_)
        replace hF := hF.trans (congrArg (dv_k f_X5_scan_6b) (dv_bn (dv_getI hbn2 ro_37 (j := 1) rfl mx7 (by decide))))
        have sx7 := (th_F_o hB.2.2 hbn2 ro_37 (j := 1) (by decide) (by decide)).symm.trans mx7
        refine tr_icmp_ge (tgt := 142) hx hb gX5_scan_1.2.2.2.2.2.1 (by decide) (Eq.refl _) (Eq.refl _) (fun c21 => ?_) (fun c21 => ?_)
        · replace hF := hF.trans (congrArg (dv_k f_X5_scan_6b) (if_pos c21))
          exact jn142 locs ls hB (lv_sub hl [0, 1] rfl) hF
        · replace hF := hF.trans (congrArg (dv_k f_X5_scan_6b) (if_neg (Int.not_le.mpr c21)))
          refine lv_aload_n hx hb gX5_scan_1.2.2.2.2.2.2.1 rfl (lv_at hl 0 rfl) ?_
          refine th_getK hC cf_X5 hB.1 h0 ro_20 rfl (j := 2) (by decide) mm1 kf_X5_18 gX5_scan_1.2.2.2.2.2.2.2 ?_
          replace hF := hF.trans (congrArg (dv_k f_X5_scan_6b) (dv_bn (dv_getR h0 ro_20 (j := 2) rfl mm1 (by decide))))
          refine th_getO (j := 0) (r2 := 38) hC cf_X9 hB.1 hbn2 ro_37 rfl rfl kf_X5_66 gX5_scan_2.1 (fun b8 mb8 hb8 => ?_)
          have sb8 := (th_F_o hB.2.2 hbn2 ro_37 (j := 0) (by decide) (by decide)).symm.trans mb8
          refine lv_iload_n hx hb gX5_scan_2.2.1 rfl (lv_at hl 2 rfl) ?_
          refine th_ialdF hC hB.1 hb8 ro_38 rfl (Eq.refl _) (by omega) (by omega) rfl gX5_scan_2.2.2.1 (fun x9 mx9 lx9 ux9 => ?_)
          replace hF := hF.trans (congrArg (dv_k f_X5_scan_6b) (dv_bn (dv_aldI hB.1 hU hb8 ow_38 (z := j6_2.toInt) mx9 (by omega))))
          refine lv_istore (lv' := [(4, .int x9), (0, .ref a0), (1, .int j6_1), (2, .int j6_2), (3, .int j6_3)]) hx hb gX5_scan_2.2.2.2.1 hl (by decide) rfl (fun ls hl => ?_)
          refine lv_iload_n hx hb gX5_scan_2.2.2.2.2.1 rfl (lv_at hl 3 rfl) ?_
          refine lv_iconst (v := 1) hx hb gX5_scan_2.2.2.2.2.2.1 (by decide) ?_
          refine tr_iadd hx hb gX5_scan_2.2.2.2.2.2.2.1 (Eq.refl _) tk_1 (by omega) (by omega) (fun x10 ex10 => ?_)
          replace hF := hF.trans (congrArg (dv_k f_X5_scan_6b) (dv_bn (ex10.symm)))
          refine lv_istore (lv' := [(5, .int x10), (4, .int x9), (0, .ref a0), (1, .int j6_1), (2, .int j6_2), (3, .int j6_3)]) hx hb gX5_scan_2.2.2.2.2.2.2.2 hl (by decide) rfl (fun ls hl => ?_)
          refine lv_iload hx hb gX5_scan_3.1 (lv_at hl 1 rfl) ?_
          refine lv_bipush (v := 32) hx hb gX5_scan_3.2.1 (by decide) ?_
          have jn133 : ∀ (H133 : Heap) (locs : List Loc) (ls : Array Slot) (j133_1 : Int32) (j133_5 : Int32), th_B G Γ Γ [(21, 0), (22, 0)] H0 H133 locs → th_RC G Γ H133 → lv_has ls 6 [(0, .ref a0), (3, .int j6_3), (1, .int j133_1), (5, .int j133_5)] → F = dv_k f_X5_scan_6b (f_X5_scan_133 (dv G Γ H133) ((a0 : Int)) (j6_3.toInt) (j133_1.toInt) (j133_5.toInt)) → 0 ≤ j133_1.toInt → j133_1.toInt ≤ 401 → 0 ≤ j133_5.toInt → j133_5.toInt ≤ 400 → j133_1.toInt ≤ j6_3.toInt + 1 → W p l e ({ frames := 6, cells := 0, slots := 0, locals := 131 } : Room) s m ([.ref a0] : List Value).toArray below meth c H133 locs 0 0 (MQ below (th_Q (fun (v : Option Value) (H1 : Heap) => v = none ∧ th_I G Γ H1 ∧ th_F G Γ [(21, 0), (22, 0)] H0 H1 ∧ th_RC G Γ H1 ∧ (∃ tb o f : Nat, th_sl H1 a0 (G.1.1.2 5 0) = .ref tb ∧ Γ tb = (21, o) ∧ f ≤ 400 ∧ th_sl H1 tb f = .int (-1)) ∧ (f_X5_scan (dv G Γ H0) (a0 : Int) = (dv G Γ H1, 0))) G) ([.ref a0] : List Value).toArray s 0 0 (fun q => G.1.2.2 ≤ q)) (F0 m 133 ls []) := by
            intro H133 locs ls j133_1 j133_5 hB hR hl hF g133_0 g133_1 g133_2 g133_3 g133_4
            have lj133_1 := ti_lo j133_1; have uj133_1 := ti_hi j133_1
            have lj133_5 := ti_lo j133_5; have uj133_5 := ti_hi j133_5
            have mm11 := (th_F_o hB.2.2 h0 ro_20 (j := 2) (by decide) (by decide)).trans mbn2
            have mm12 := (th_F_o hB.2.2 hbn2 ro_37 (j := 1) (by decide) (by decide)).trans sx7
            have mm13 := (th_F_o hB.2.2 hbn2 ro_37 (j := 0) (by decide) (by decide)).trans sb8
            replace hF := hF.trans (congrArg (dv_k f_X5_scan_6b) (f_X5_scan_133.eq_1 (dv G Γ H133) ((a0 : Int)) (j6_3.toInt) (j133_1.toInt) (j133_5.toInt)))
            refine lv_iload hx hb gX5_scan_9.1 (lv_at hl 3 rfl) ?_
            refine lv_istore_n (lv' := [(2, .int j133_5), (0, .ref a0), (3, .int j6_3), (1, .int j133_1), (5, .int j133_5)]) hx hb gX5_scan_9.2.1 rfl hl (by decide) rfl (fun ls hl => ?_)
            refine tr_iinc (fun x14 => [(3, .int x14), (2, .int j133_5), (0, .ref a0), (1, .int j133_1), (5, .int j133_5)]) hx hb gX5_scan_9.2.2.1 hl (k := 2) rfl (Eq.refl _) tk_1 (by omega) (by omega) (by decide) (fun _ => rfl) (fun x14 ls ex14 hl => ?_)
            replace hF := hF.trans (congrArg (dv_k f_X5_scan_6b) (dv_bn (ex14.symm)))
            refine lv_goto (tgt := 6) hx hb gX5_scan_9.2.2.2.1 (by decide) ?_
            replace hF := hF.trans (dv_kl)
            exact ih6 H133 locs ls j133_1 j133_5 x14 hB hR (lv_sub hl [2, 3, 1, 0] rfl) hF (by omega) (by omega) (by omega) (by omega) (by omega) (by omega) (by omega) (by omega)
          refine tr_icmp_eq (tgt := 133) hx hb gX5_scan_3.2.2.1 (by decide) (Eq.refl _) tk_32 (fun c44 => ?_) (fun c44 => ?_)
          · replace hF := hF.trans (congrArg (dv_k f_X5_scan_6b) (if_pos c44))
            exact jn133 H6 locs ls j6_1 x10 hB hR (lv_sub hl [2, 5, 3, 0] rfl) hF (by omega) (by omega) (by omega) (by omega) (by omega)
          · replace hF := hF.trans (congrArg (dv_k f_X5_scan_6b) (if_neg c44))
            refine lv_aload_n hx hb gX5_scan_3.2.2.2.1 rfl (lv_at hl 2 rfl) ?_
            refine th_getO (j := 1) (r2 := 22) hC cf_X5 hB.1 h0 ro_20 rfl rfl kf_X5_15 gX5_scan_3.2.2.2.2.1 (fun b15 mb15 hb15 => ?_)
            have sb15 := (th_F_o hB.2.2 h0 ro_20 (j := 1) (by decide) (by decide)).symm.trans mb15
            refine lv_iload_n hx hb gX5_scan_3.2.2.2.2.2.1 rfl (lv_at hl 3 rfl) ?_
            refine lv_iload_n hx hb gX5_scan_3.2.2.2.2.2.2.1 rfl (lv_at hl 4 rfl) ?_
            have hIo := hB.1
            refine th_iastF hC hB hb15 (Or.inl hb15) ro_22 rfl (by decide) (Eq.refl _) (by omega) (by omega) th_sIa gX5_scan_3.2.2.2.2.2.2.2 (fun H53 locs hB hf53 hst53 => ?_)
            have hf := hf53
            have mm16 := (th_F_o hf h0 ro_20 (j := 2) (by decide) (by decide)).trans mm1
            have mm17 := (th_F_o hf hbn2 ro_37 (j := 1) (by decide) (by decide)).trans mx7
            have mm18 := (th_F_o hf hbn2 ro_37 (j := 0) (by decide) (by decide)).trans mb8
            have mm19 := (th_F_o hf h0 ro_20 (j := 1) (by decide) (by decide)).trans mb15
            have hR := th_RC_F hB.1 hR hf (th_T_s hb15 ro_22 hst53) (by decide)
            replace hF := hF.trans (congrArg (dv_k f_X5_scan_6b) (dv_bn (dv_stoI hIo hB.1 hU hb15 ow_22 (i := j6_1.toInt) hst53 (Eq.refl _) (by omega))))
            refine lv_iload hx hb gX5_scan_4.1 (lv_at hl 1 rfl) ?_
            refine th_call (th_runS (As := [.int x9]) (rest := []) hC mf_X5_isLetter km_X5_69 st_X5_isLetter (c_X5_isLetter l G Γ H53 hB.1 hU x9) rfl rfl ⟨Nat.le_of_ble_eq_true rfl, Nat.le_of_ble_eq_true rfl⟩ rfl hl.1 rfl (Nat.le_of_ble_eq_true rfl) gX5_scan_4.2.1 ⟨Nat.le_refl _, Nat.le_refl _⟩) hB.2.1 (fun v56 H56 locs hp hz hS => ?_)
            obtain ⟨x20, rfl, lx20, ux20, q56_0, rfl⟩ := hp
            have hB := th_B_s hB hS
            replace hF := hF.trans (congrArg (dv_k f_X5_scan_6b) (dv_bn2 (q56_0)))
            refine W.eq (g2 := F0 m 59 ls [.int x20]) rfl ?_
            have jn130 : ∀ (H130 : Heap) (locs : List Loc) (ls : Array Slot) (j130_5 : Int32), th_B G Γ Γ [(21, 0), (22, 0)] H0 H130 locs → th_RC G Γ H130 → lv_has ls 6 [(0, .ref a0), (1, .int j6_1), (3, .int j6_3), (5, .int j130_5)] → F = dv_k f_X5_scan_6b (f_X5_scan_130 (dv G Γ H130) ((a0 : Int)) (j6_1.toInt) (j6_3.toInt) (j130_5.toInt)) → 0 ≤ j130_5.toInt → j130_5.toInt ≤ 400 → j6_1.toInt ≤ j6_3.toInt → W p l e ({ frames := 6, cells := 0, slots := 0, locals := 131 } : Room) s m ([.ref a0] : List Value).toArray below meth c H130 locs 0 0 (MQ below (th_Q (fun (v : Option Value) (H1 : Heap) => v = none ∧ th_I G Γ H1 ∧ th_F G Γ [(21, 0), (22, 0)] H0 H1 ∧ th_RC G Γ H1 ∧ (∃ tb o f : Nat, th_sl H1 a0 (G.1.1.2 5 0) = .ref tb ∧ Γ tb = (21, o) ∧ f ≤ 400 ∧ th_sl H1 tb f = .int (-1)) ∧ (f_X5_scan (dv G Γ H0) (a0 : Int) = (dv G Γ H1, 0))) G) ([.ref a0] : List Value).toArray s 0 0 (fun q => G.1.2.2 ≤ q)) (F0 m 130 ls []) := by
              intro H130 locs ls j130_5 hB hR hl hF g130_0 g130_1 g130_2
              have lj130_5 := ti_lo j130_5; have uj130_5 := ti_hi j130_5
              have mm21 := (th_F_o hB.2.2 h0 ro_20 (j := 2) (by decide) (by decide)).trans mbn2
              have mm22 := (th_F_o hB.2.2 hbn2 ro_37 (j := 1) (by decide) (by decide)).trans sx7
              have mm23 := (th_F_o hB.2.2 hbn2 ro_37 (j := 0) (by decide) (by decide)).trans sb8
              have mm24 := (th_F_o hB.2.2 h0 ro_20 (j := 1) (by decide) (by decide)).trans sb15
              replace hF := hF.trans (congrArg (dv_k f_X5_scan_6b) (f_X5_scan_130.eq_1 (dv G Γ H130) ((a0 : Int)) (j6_1.toInt) (j6_3.toInt) (j130_5.toInt)))
              refine tr_iinc (fun x25 => [(1, .int x25), (0, .ref a0), (3, .int j6_3), (5, .int j130_5)]) hx hb gX5_scan_8.2.2.2.2.2.2.2 hl (k := 1) rfl (Eq.refl _) tk_1 (by omega) (by omega) (by decide) (fun _ => rfl) (fun x25 ls ex25 hl => ?_)
              replace hF := hF.trans (congrArg (dv_k f_X5_scan_6b) (dv_bn (ex25.symm)))
              exact jn133 H130 locs ls x25 j130_5 hB hR (lv_sub hl [1, 2, 0, 3] rfl) hF (by omega) (by omega) (by omega) (by omega) (by omega)
            refine tr_if_eq (tgt := 86) hx hb gX5_scan_4.2.2.1 (by decide) (Eq.refl _) (fun c59 => ?_) (fun c59 => ?_)
            · replace hF := hF.trans (congrArg (dv_k f_X5_scan_6b) (if_pos c59))
              refine lv_iload hx hb gX5_scan_6.1 (lv_at hl 1 rfl) ?_
              refine th_call (th_runS (As := [.int x9]) (rest := []) hC mf_X5_isDigit km_X5_80 st_X5_isDigit (c_X5_isDigit l G Γ H53 hB.1 hU x9) rfl rfl ⟨Nat.le_of_ble_eq_true rfl, Nat.le_of_ble_eq_true rfl⟩ rfl hl.1 rfl (Nat.le_of_ble_eq_true rfl) gX5_scan_6.2.1 ⟨Nat.le_refl _, Nat.le_refl _⟩) hB.2.1 (fun v88 H88 locs hp hz hS => ?_)
              obtain ⟨x26, rfl, lx26, ux26, q88_0, q88_1, rfl⟩ := hp
              have hB := th_B_s hB hS
              replace hF := hF.trans (congrArg (dv_k f_X5_scan_6b) (dv_bn2 (q88_1)))
              refine W.eq (g2 := F0 m 91 ls [.int x26]) rfl ?_
              refine tr_if_eq (tgt := 122) hx hb gX5_scan_6.2.2.1 (by decide) (Eq.refl _) (fun c91 => ?_) (fun c91 => ?_)
              · replace hF := hF.trans (congrArg (dv_k f_X5_scan_6b) (if_pos c91))
                refine lv_aload_n hx hb gX5_scan_8.2.2.1 rfl (lv_at hl 2 rfl) ?_
                refine th_getO (j := 0) (r2 := 21) hC cf_X5 hB.1 h0 ro_20 rfl rfl kf_X5_11 gX5_scan_8.2.2.2.1 (fun b27 mb27 hb27 => ?_)
                have sb27 := (th_F_o hB.2.2 h0 ro_20 (j := 0) (by decide) (by decide)).symm.trans mb27
                refine lv_iload_n hx hb gX5_scan_8.2.2.2.2.1 rfl (lv_at hl 3 rfl) ?_
                refine lv_iload hx hb gX5_scan_8.2.2.2.2.2.1 (lv_at hl 1 rfl) ?_
                have hIo := hB.1
                refine th_iastF hC hB hb27 (Or.inl hb27) ro_21 rfl (by decide) (Eq.refl _) (by omega) (by omega) th_sIa gX5_scan_8.2.2.2.2.2.2.1 (fun H129 locs hB hf129 hst129 => ?_)
                have hf := hf129
                have mm28 := (th_F_o hf h0 ro_20 (j := 2) (by decide) (by decide)).trans mm16
                have mm29 := (th_F_o hf hbn2 ro_37 (j := 1) (by decide) (by decide)).trans mm17
                have mm30 := (th_F_o hf hbn2 ro_37 (j := 0) (by decide) (by decide)).trans mm18
                have mm31 := (th_F_o hf h0 ro_20 (j := 1) (by decide) (by decide)).trans mm19
                have mm32 := (th_F_o hf h0 ro_20 (j := 0) (by decide) (by decide)).trans mb27
                have hR := th_RC_F hB.1 hR hf (th_T_s hb27 ro_21 hst129) (by decide)
                replace hF := hF.trans (congrArg (dv_k f_X5_scan_6b) (dv_bn (dv_stoI hIo hB.1 hU hb27 ow_21 (i := j6_1.toInt) hst129 (Eq.refl _) (by omega))))
                exact jn130 H129 locs ls x10 hB hR (lv_sub hl [2, 3, 5, 0] rfl) hF (by omega) (by omega) (by omega)
              · replace hF := hF.trans (congrArg (dv_k f_X5_scan_6b) (if_neg c91))
                refine lv_aload_n hx hb gX5_scan_6.2.2.2.1 rfl (lv_at hl 2 rfl) ?_
                refine lv_iload hx hb gX5_scan_6.2.2.2.2.1 (lv_at hl 0 rfl) ?_
                refine th_call (th_runV (As := [.int x10]) (rest := []) hC mf_X5_endOfDigits km_X5_83 im_X5_endOfDigits se_X5_endOfDigits (c_X5_endOfDigits l G Γ H53 hB.1 hU a0 h0 x10 (by omega) (by omega) ⟨_, mm16, hbn2⟩) rfl rfl ⟨Nat.le_of_ble_eq_true rfl, Nat.le_of_ble_eq_true rfl⟩ hB.1 h0 ro_20 rfl rfl hl.1 rfl (Nat.le_of_ble_eq_true rfl) gX5_scan_6.2.2.2.2.2.1 ⟨Nat.le_refl _, Nat.le_refl _⟩) hB.2.1 (fun v97 H97 locs hp hz hS => ?_)
                obtain ⟨x33, rfl, lx33, ux33, q97_0, q97_1, rfl⟩ := hp
                have hB := th_B_s hB hS
                replace hF := hF.trans (congrArg (dv_k f_X5_scan_6b) (dv_bn2 (q97_1)))
                refine W.eq (g2 := F0 m 100 ls [.int x33]) rfl ?_
                refine lv_istore (lv' := [(5, .int x33), (4, .int x9), (0, .ref a0), (1, .int j6_1), (2, .int j6_2), (3, .int j6_3)]) hx hb gX5_scan_6.2.2.2.2.2.2.1 hl (by decide) rfl (fun ls hl => ?_)
                refine lv_aload_n hx hb gX5_scan_6.2.2.2.2.2.2.2 rfl (lv_at hl 2 rfl) ?_
                refine th_getO (j := 0) (r2 := 21) hC cf_X5 hB.1 h0 ro_20 rfl rfl kf_X5_11 gX5_scan_7.1 (fun b34 mb34 hb34 => ?_)
                have sb34 := (th_F_o hB.2.2 h0 ro_20 (j := 0) (by decide) (by decide)).symm.trans mb34
                refine lv_iload_n hx hb gX5_scan_7.2.1 rfl (lv_at hl 3 rfl) ?_
                refine lv_sipush (v := 400) hx hb gX5_scan_7.2.2.1 (by decide) ?_
                refine lv_aload_n hx hb gX5_scan_7.2.2.2.1 rfl (lv_at hl 2 rfl) ?_
                refine lv_iload_n hx hb gX5_scan_7.2.2.2.2.1 rfl (lv_at hl 4 rfl) ?_
                refine lv_iload hx hb gX5_scan_7.2.2.2.2.2.1 (lv_at hl 0 rfl) ?_
                refine th_call (th_runV (As := [.int j6_2, .int x33]) (rest := [.int 400, .int j6_1, .ref b34]) hC mf_X5_valueFrom km_X5_86 im_X5_valueFrom se_X5_valueFrom (c_X5_valueFrom l G Γ H53 hB.1 hU a0 h0 j6_2 (by omega) (by omega) x33 (by omega) (by omega) ⟨_, mm16, hbn2⟩) rfl rfl ⟨Nat.le_of_ble_eq_true rfl, Nat.le_of_ble_eq_true rfl⟩ hB.1 h0 ro_20 rfl rfl hl.1 rfl (Nat.le_of_ble_eq_true rfl) gX5_scan_7.2.2.2.2.2.2.1 ⟨Nat.le_refl _, Nat.le_refl _⟩) hB.2.1 (fun v114 H114 locs hp hz hS => ?_)
                obtain ⟨x35, rfl, q114_0, rfl⟩ := hp
                have hB := th_B_s hB hS
                replace hF := hF.trans (congrArg (dv_k f_X5_scan_6b) (dv_bn2 (q114_0)))
                refine W.eq (g2 := F0 m 117 ls [.int x35, .int 400, .int j6_1, .ref b34]) rfl ?_
                refine lv_iadd hx hb gX5_scan_7.2.2.2.2.2.2.2 ?_
                refine lv_topi (fun x36 ex36 => ?_)
                have lx36 := ti_lo x36; have ux36 := ti_hi x36
                replace hF := hF.trans (congrArg (dv_k f_X5_scan_6b) (dv_bn (dv_add_e tk_400 (Eq.refl _) ex36)))
                have hIo := hB.1
                refine th_iastF hC hB hb34 (Or.inl hb34) ro_21 rfl (by decide) (Eq.refl _) (by omega) (by omega) th_sIa gX5_scan_8.1 (fun H118 locs hB hf118 hst118 => ?_)
                have hf := hf118
                have mm37 := (th_F_o hf h0 ro_20 (j := 2) (by decide) (by decide)).trans mm16
                have mm38 := (th_F_o hf hbn2 ro_37 (j := 1) (by decide) (by decide)).trans mm17
                have mm39 := (th_F_o hf hbn2 ro_37 (j := 0) (by decide) (by decide)).trans mm18
                have mm40 := (th_F_o hf h0 ro_20 (j := 1) (by decide) (by decide)).trans mm19
                have mm41 := (th_F_o hf h0 ro_20 (j := 0) (by decide) (by decide)).trans mb34
                have hR := th_RC_F hB.1 hR hf (th_T_s hb34 ro_21 hst118) (by decide)
                replace hF := hF.trans (congrArg (dv_k f_X5_scan_6b) (dv_bn (dv_stoI hIo hB.1 hU hb34 ow_21 (i := j6_1.toInt) hst118 (Eq.refl _) (by omega))))
                refine lv_goto (tgt := 130) hx hb gX5_scan_8.2.1 (by decide) ?_
                exact jn130 H118 locs ls x33 hB hR (lv_sub hl [2, 3, 5, 0] rfl) hF (by omega) (by omega) (by omega)
            · replace hF := hF.trans (congrArg (dv_k f_X5_scan_6b) (if_neg c59))
              refine lv_aload_n hx hb gX5_scan_4.2.2.2.1 rfl (lv_at hl 2 rfl) ?_
              refine lv_iload hx hb gX5_scan_4.2.2.2.2.1 (lv_at hl 0 rfl) ?_
              refine th_call (th_runV (As := [.int x10]) (rest := []) hC mf_X5_endOfLetters km_X5_72 im_X5_endOfLetters se_X5_endOfLetters (c_X5_endOfLetters l G Γ H53 hB.1 hU a0 h0 x10 (by omega) (by omega) ⟨_, mm16, hbn2⟩) rfl rfl ⟨Nat.le_of_ble_eq_true rfl, Nat.le_of_ble_eq_true rfl⟩ hB.1 h0 ro_20 rfl rfl hl.1 rfl (Nat.le_of_ble_eq_true rfl) gX5_scan_4.2.2.2.2.2.1 ⟨Nat.le_refl _, Nat.le_refl _⟩) hB.2.1 (fun v65 H65 locs hp hz hS => ?_)
              obtain ⟨x42, rfl, lx42, ux42, q65_0, q65_1, rfl⟩ := hp
              have hB := th_B_s hB hS
              replace hF := hF.trans (congrArg (dv_k f_X5_scan_6b) (dv_bn2 (q65_1)))
              refine W.eq (g2 := F0 m 68 ls [.int x42]) rfl ?_
              refine lv_istore (lv' := [(5, .int x42), (4, .int x9), (0, .ref a0), (1, .int j6_1), (2, .int j6_2), (3, .int j6_3)]) hx hb gX5_scan_4.2.2.2.2.2.2.1 hl (by decide) rfl (fun ls hl => ?_)
              refine lv_aload_n hx hb gX5_scan_4.2.2.2.2.2.2.2 rfl (lv_at hl 2 rfl) ?_
              refine th_getO (j := 0) (r2 := 21) hC cf_X5 hB.1 h0 ro_20 rfl rfl kf_X5_11 gX5_scan_5.1 (fun b43 mb43 hb43 => ?_)
              have sb43 := (th_F_o hB.2.2 h0 ro_20 (j := 0) (by decide) (by decide)).symm.trans mb43
              refine lv_iload_n hx hb gX5_scan_5.2.1 rfl (lv_at hl 3 rfl) ?_
              refine lv_aload_n hx hb gX5_scan_5.2.2.1 rfl (lv_at hl 2 rfl) ?_
              refine lv_iload_n hx hb gX5_scan_5.2.2.2.1 rfl (lv_at hl 4 rfl) ?_
              refine lv_iload hx hb gX5_scan_5.2.2.2.2.1 (lv_at hl 0 rfl) ?_
              refine th_call (th_runVX (As := [.int j6_2, .int x42]) (rest := [.int j6_1, .ref b43]) th_mvZ (th_Z_k hX hB.2.1) hC mf_X5_wordFrom km_X5_76 im_X5_wordFrom se_X5_wordFrom (c_X5_wordFrom l G Γ H53 hB.1 hU a0 h0 j6_2 (by omega) (by omega) x42 (by omega) (by omega) ⟨_, mm16, hbn2⟩) rfl rfl ⟨Nat.le_of_ble_eq_true rfl, Nat.le_of_ble_eq_true rfl⟩ hB.1 h0 ro_20 rfl rfl hl.1 rfl (Nat.le_of_ble_eq_true rfl) gX5_scan_5.2.2.2.2.2.1 ⟨Nat.le_refl _, Nat.le_refl _⟩) hB.2.1 (fun v79 H79 locs hp hz hS => ?_)
              obtain ⟨x44, rfl, lx44, ux44, q79_0, rfl⟩ := hp
              have hB := th_B_s hB hS
              replace hF := hF.trans (congrArg (dv_k f_X5_scan_6b) (dv_bn2 (q79_0)))
              refine W.eq (g2 := F0 m 82 ls [.int x44, .int j6_1, .ref b43]) rfl ?_
              have hIo := hB.1
              refine th_iastF hC hB hb43 (Or.inl hb43) ro_21 rfl (by decide) (Eq.refl _) (by omega) (by omega) th_sIa gX5_scan_5.2.2.2.2.2.2.1 (fun H82 locs hB hf82 hst82 => ?_)
              have hf := hf82
              have mm45 := (th_F_o hf h0 ro_20 (j := 2) (by decide) (by decide)).trans mm16
              have mm46 := (th_F_o hf hbn2 ro_37 (j := 1) (by decide) (by decide)).trans mm17
              have mm47 := (th_F_o hf hbn2 ro_37 (j := 0) (by decide) (by decide)).trans mm18
              have mm48 := (th_F_o hf h0 ro_20 (j := 1) (by decide) (by decide)).trans mm19
              have mm49 := (th_F_o hf h0 ro_20 (j := 0) (by decide) (by decide)).trans mb43
              have hR := th_RC_F hB.1 hR hf (th_T_s hb43 ro_21 hst82) (by decide)
              replace hF := hF.trans (congrArg (dv_k f_X5_scan_6b) (dv_bn (dv_stoI hIo hB.1 hU hb43 ow_21 (i := j6_1.toInt) hst82 (Eq.refl _) (by omega))))
              refine lv_goto (tgt := 130) hx hb gX5_scan_5.2.2.2.2.2.2.2 (by decide) ?_
              exact jn130 H82 locs ls x42 hB hR (lv_sub hl [2, 3, 5, 0] rfl) hF (by omega) (by omega) (by omega)
  exact lp6 ((2147483648 : Int) - (0)).toNat H0 [] ls 0 0 0 hB hR (lv_sub hl [3, 2, 1, 0] rfl) (by rw [tk_0]; exact hF) (by decide) (by decide) (by decide) (by decide) (by decide) (by decide) (by have w0 := tk_0; omega) (by have w0 := tk_0; omega)
end
section
set_option maxHeartbeats 4000000 in
set_option maxRecDepth 100000 in
theorem c_X5_readSums (l : Launch) (G : th_G) (Γ : th_Ga) (H0 : Heap) (hI : th_I G Γ H0) (hR : th_RD G Γ H0) (hU : dv_U Γ) (a0 : Nat) (h0 : Γ a0 = (20, 0)) (p1 : Int32) (f1 : 0 ≤ p1.toInt) (g1 : p1.toInt ≤ 3) (nn3 : ∃ b : Nat, th_sl H0 a0 (G.1.1.2 5 3) = .ref b ∧ Γ b = (39, 0)) (bv : Int32) (mbv : th_sl H0 a0 (G.1.1.2 5 7) = .int bv) (nbv : 0 ≤ bv.toInt) : Met l yX5_readSums (.code yX5_readSums cX5_readSums 3 (none) :: th_tb) ({ frames := 24, cells := 0, slots := 0, locals := 814 } : Room) (th_P [.ref a0, .int p1] G H0) (th_Q (fun (v : Option Value) (H1 : Heap) => v = none ∧ th_I G Γ H1 ∧ th_F G Γ [(20, 5), (20, 6), (20, 7), (20, 8), (40, 0), (39, 2), (41, 0)] H0 H1 ∧ th_RD G Γ H1 ∧ (th_sl H1 a0 (G.1.1.2 5 7) = .int bv) ∧ (f_X5_readSums (dv G Γ H0) (a0 : Int) p1.toInt = (dv G Γ H1, 0))) G) 0 0 (fun q => G.1.2.2 ≤ q) := by
  refine th_met RX5 (by decide) rfl (Nat.le_of_ble_eq_true rfl) ?_
  intro p e s m below meth c hC hH hr hlocks hnm ls hl
  have hx := hC.1
  have hb := hC.2.1
  have hB : th_B G Γ Γ [(20, 5), (20, 6), (20, 7), (20, 8), (40, 0), (39, 2), (41, 0)] H0 H0 [] := ⟨hI, va_S.rf, th_F_rf⟩
  have hl : lv_has ls 3 [(0, .ref a0), (1, .int p1)] := hl
  have lp1 := ti_lo p1; have up1 := ti_hi p1
  have lbv := ti_lo bv; have ubv := ti_hi bv
  obtain ⟨bn3, mbn3, hbn3⟩ := nn3
  obtain ⟨F, hF0⟩ : ∃ F, F = f_X5_readSums (dv G Γ H0) ((a0 : Int)) (p1.toInt) := ⟨_, rfl⟩
  have hF := hF0.trans (f_X5_readSums.eq_1 (dv G Γ H0) ((a0 : Int)) (p1.toInt))
  refine lv_aload_n hx hb gX5_readSums_0.1 rfl (lv_at hl 0 rfl) ?_
  refine th_getK hC cf_X5 hB.1 h0 ro_20 rfl (j := 3) (by decide) mbn3 kf_X5_22 gX5_readSums_0.2.1 ?_
  replace hF := hF.trans (dv_bn (dv_getR h0 ro_20 (j := 3) rfl mbn3 (by decide)))
  refine lv_iconst (v := 2) hx hb gX5_readSums_0.2.2.1 (by decide) ?_
  refine lv_aload_n hx hb gX5_readSums_0.2.2.2.1 rfl (lv_at hl 0 rfl) ?_
  refine th_getK hC cf_X5 hB.1 h0 ro_20 rfl (j := 3) (by decide) mbn3 kf_X5_22 gX5_readSums_0.2.2.2.2.1 ?_
  replace hF := hF.trans (dv_bn (dv_getR h0 ro_20 (j := 3) rfl mbn3 (by decide)))
  refine th_getI (j := 2) hC cf_X10 hB.1 hbn3 ro_39 rfl rfl kf_X5_174 gX5_readSums_0.2.2.2.2.2.1 (fun x1 mx1 lx1 ux1 => ?_)
  replace hF := hF.trans (dv_bn (dv_getI hbn3 ro_39 (j := 2) rfl mx1 (by decide)))
  refine th_call (th_runV (As := [.int 2, .int x1]) (rest := []) hC mf_X10_setMark km_X5_170 im_X10_setMark se_X10_setMark (c_X10_setMark l G Γ H0 hB.1 hR.1 hU bn3 hbn3 2 (by decide) (by decide) x1 (by have w0 := tk_2; omega)) rfl rfl ⟨Nat.le_of_ble_eq_true rfl, Nat.le_of_ble_eq_true rfl⟩ hB.1 hbn3 ro_39 rfl rfl hl.1 rfl (Nat.le_of_ble_eq_true rfl) gX5_readSums_0.2.2.2.2.2.2.1 ⟨Nat.le_refl _, Nat.le_refl _⟩) hB.2.1 (fun v12 H12 locs hp hz hS => ?_)
  have hRD := hR
  obtain ⟨rfl, hI1, hf, hR, z12_0⟩ := hp
  have hR := th_RD_c hR hRD hf (by decide)
  have hB := th_B_c hB hI1 hS hf (by decide)
  have mm2 := (th_F_o hf h0 ro_20 (j := 7) (by decide) (by decide)).trans mbv
  have mm3 := (th_F_o hf h0 ro_20 (j := 3) (by decide) (by decide)).trans mbn3
  have mm4 := (th_F_o hf hbn3 ro_39 (j := 2) (by decide) (by decide)).trans mx1
  have zf12 := z12_0
  rw [tk_2] at zf12
  replace hF := hF.trans (dv_bn2 (zf12))
  refine W.eq (g2 := F0 m 15 ls []) rfl ?_
  refine lv_iconst (v := 0) hx hb gX5_readSums_0.2.2.2.2.2.2.2 (by decide) ?_
  refine lv_istore_n (lv' := [(2, .int 0), (0, .ref a0), (1, .int p1)]) hx hb gX5_readSums_1.1 rfl hl (by decide) rfl (fun ls hl => ?_)
  have lp17 : ∀ (n17 : Nat) (H17 : Heap) (locs : List Loc) (ls : Array Slot) (j17_2 : Int32), th_B G Γ Γ [(20, 5), (20, 6), (20, 7), (20, 8), (40, 0), (39, 2), (41, 0)] H0 H17 locs → th_RD G Γ H17 → lv_has ls 3 [(0, .ref a0), (1, .int p1), (2, .int j17_2)] → F = dv_lp f_X5_readSums_17b (dv G Γ H17, (a0 : Int), p1.toInt, j17_2.toInt) → 0 ≤ j17_2.toInt → j17_2.toInt ≤ 3 → th_sl H17 a0 (G.1.1.2 5 7) = .int bv → (2147483648 : Int) - j17_2.toInt ≤ (n17 : Int) → W p l e ({ frames := 24, cells := 0, slots := 0, locals := 814 } : Room) s m ([.ref a0, .int p1] : List Value).toArray below meth c H17 locs 0 0 (MQ below (th_Q (fun (v : Option Value) (H1 : Heap) => v = none ∧ th_I G Γ H1 ∧ th_F G Γ [(20, 5), (20, 6), (20, 7), (20, 8), (40, 0), (39, 2), (41, 0)] H0 H1 ∧ th_RD G Γ H1 ∧ (th_sl H1 a0 (G.1.1.2 5 7) = .int bv) ∧ (f_X5_readSums (dv G Γ H0) (a0 : Int) p1.toInt = (dv G Γ H1, 0))) G) ([.ref a0, .int p1] : List Value).toArray s 0 0 (fun q => G.1.2.2 ≤ q)) (F0 m 17 ls []) := by
    intro n17
    induction n17 with
    | zero => intro H17 locs ls j17_2 hB hR hl hF g17_0 g17_1 g17_2 hm17; exact absurd hm17 (by have := ti_hi j17_2; omega)
    | succ n17 ih17 =>
      intro H17 locs ls j17_2 hB hR hl hF g17_0 g17_1 g17_2 hm17
      have lj17_2 := ti_lo j17_2; have uj17_2 := ti_hi j17_2
      have mm5 := (th_F_o hB.2.2 h0 ro_20 (j := 3) (by decide) (by decide)).trans mbn3
      have hm17 : (2147483648 : Int) - j17_2.toInt ≤ (n17 : Int) + 1 := by omega
      replace hF := hF.trans (dv_lp_eq)
      replace hF := hF.trans (congrArg (dv_k f_X5_readSums_17b) (f_X5_readSums_17c.eq_1 (dv G Γ H17) ((a0 : Int)) (p1.toInt) (j17_2.toInt)))
      refine lv_iload_n hx hb gX5_readSums_1.2.1 rfl (lv_at hl 2 rfl) ?_
      refine lv_iconst (v := 3) hx hb gX5_readSums_1.2.2.1 (by decide) ?_
      refine tr_icmp_ge (tgt := 88) hx hb gX5_readSums_1.2.2.2.1 (by decide) (Eq.refl _) tk_3 (fun c19 => ?_) (fun c19 => ?_)
      · replace hF := hF.trans (congrArg (dv_k f_X5_readSums_17b) (if_pos c19))
        replace hF := hF.trans (dv_kr)
        exact th_vret hC hH hr hlocks hB.2.1 ⟨rfl, hB.1, hB.2.2, hR, g17_2, (hF0.symm.trans hF)⟩ gX5_readSums_5.2.2.2.2
      · replace hF := hF.trans (congrArg (dv_k f_X5_readSums_17b) (if_neg (Int.not_le.mpr c19)))
        refine lv_iload_n hx hb gX5_readSums_1.2.2.2.2.1 rfl (lv_at hl 2 rfl) ?_
        have jn56 : ∀ (H56 : Heap) (locs : List Loc) (ls : Array Slot) , th_B G Γ Γ [(20, 5), (20, 6), (20, 7), (20, 8), (40, 0), (39, 2), (41, 0)] H0 H56 locs → th_RD G Γ H56 → lv_has ls 3 [(0, .ref a0), (1, .int p1), (2, .int j17_2)] → F = dv_k f_X5_readSums_17b (f_X5_readSums_56 (dv G Γ H56) ((a0 : Int)) (p1.toInt) (j17_2.toInt)) → th_sl H56 a0 (G.1.1.2 5 7) = .int bv → W p l e ({ frames := 24, cells := 0, slots := 0, locals := 814 } : Room) s m ([.ref a0, .int p1] : List Value).toArray below meth c H56 locs 0 0 (MQ below (th_Q (fun (v : Option Value) (H1 : Heap) => v = none ∧ th_I G Γ H1 ∧ th_F G Γ [(20, 5), (20, 6), (20, 7), (20, 8), (40, 0), (39, 2), (41, 0)] H0 H1 ∧ th_RD G Γ H1 ∧ (th_sl H1 a0 (G.1.1.2 5 7) = .int bv) ∧ (f_X5_readSums (dv G Γ H0) (a0 : Int) p1.toInt = (dv G Γ H1, 0))) G) ([.ref a0, .int p1] : List Value).toArray s 0 0 (fun q => G.1.2.2 ≤ q)) (F0 m 56 ls []) := by
          intro H56 locs ls hB hR hl hF g56_0
          have mm6 := (th_F_o hB.2.2 h0 ro_20 (j := 3) (by decide) (by decide)).trans mbn3
          replace hF := hF.trans (congrArg (dv_k f_X5_readSums_17b) (f_X5_readSums_56.eq_1 (dv G Γ H56) ((a0 : Int)) (p1.toInt) (j17_2.toInt)))
          refine lv_iload_n hx hb gX5_readSums_3.2.2.2.2.1 rfl (lv_at hl 2 rfl) ?_
          refine lv_iload_n hx hb gX5_readSums_3.2.2.2.2.2.1 rfl (lv_at hl 1 rfl) ?_
          have jn65 : ∀ (H65 : Heap) (locs : List Loc) (ls : Array Slot) , th_B G Γ Γ [(20, 5), (20, 6), (20, 7), (20, 8), (40, 0), (39, 2), (41, 0)] H0 H65 locs → th_RD G Γ H65 → lv_has ls 3 [(0, .ref a0), (1, .int p1), (2, .int j17_2)] → F = dv_k f_X5_readSums_17b (f_X5_readSums_65 (dv G Γ H65) ((a0 : Int)) (p1.toInt) (j17_2.toInt)) → th_sl H65 a0 (G.1.1.2 5 7) = .int bv → W p l e ({ frames := 24, cells := 0, slots := 0, locals := 814 } : Room) s m ([.ref a0, .int p1] : List Value).toArray below meth c H65 locs 0 0 (MQ below (th_Q (fun (v : Option Value) (H1 : Heap) => v = none ∧ th_I G Γ H1 ∧ th_F G Γ [(20, 5), (20, 6), (20, 7), (20, 8), (40, 0), (39, 2), (41, 0)] H0 H1 ∧ th_RD G Γ H1 ∧ (th_sl H1 a0 (G.1.1.2 5 7) = .int bv) ∧ (f_X5_readSums (dv G Γ H0) (a0 : Int) p1.toInt = (dv G Γ H1, 0))) G) ([.ref a0, .int p1] : List Value).toArray s 0 0 (fun q => G.1.2.2 ≤ q)) (F0 m 65 ls []) := by
            intro H65 locs ls hB hR hl hF g65_0
            have mm7 := (th_F_o hB.2.2 h0 ro_20 (j := 3) (by decide) (by decide)).trans mbn3
            replace hF := hF.trans (congrArg (dv_k f_X5_readSums_17b) (f_X5_readSums_65.eq_1 (dv G Γ H65) ((a0 : Int)) (p1.toInt) (j17_2.toInt)))
            refine lv_aload_n hx hb gX5_readSums_4.2.1 rfl (lv_at hl 0 rfl) ?_
            refine th_getK hC cf_X5 hB.1 h0 ro_20 rfl (j := 3) (by decide) mm7 kf_X5_22 gX5_readSums_4.2.2.1 ?_
            replace hF := hF.trans (congrArg (dv_k f_X5_readSums_17b) (dv_bn (dv_getR h0 ro_20 (j := 3) rfl mm7 (by decide))))
            refine lv_iconst (v := 3) hx hb gX5_readSums_4.2.2.2.1 (by decide) ?_
            refine lv_iload_n hx hb gX5_readSums_4.2.2.2.2.1 rfl (lv_at hl 2 rfl) ?_
            refine tr_iadd hx hb gX5_readSums_4.2.2.2.2.2.1 tk_3 (Eq.refl _) (by omega) (by omega) (fun x8 ex8 => ?_)
            replace hF := hF.trans (congrArg (dv_k f_X5_readSums_17b) (dv_bn (ex8.symm)))
            refine lv_aload_n hx hb gX5_readSums_4.2.2.2.2.2.2.1 rfl (lv_at hl 0 rfl) ?_
            refine th_getK hC cf_X5 hB.1 h0 ro_20 rfl (j := 3) (by decide) mm7 kf_X5_22 gX5_readSums_4.2.2.2.2.2.2.2 ?_
            replace hF := hF.trans (congrArg (dv_k f_X5_readSums_17b) (dv_bn (dv_getR h0 ro_20 (j := 3) rfl mm7 (by decide))))
            refine th_getI (j := 2) hC cf_X10 hB.1 hbn3 ro_39 rfl rfl kf_X5_174 gX5_readSums_5.1 (fun x9 mx9 lx9 ux9 => ?_)
            replace hF := hF.trans (congrArg (dv_k f_X5_readSums_17b) (dv_bn (dv_getI hbn3 ro_39 (j := 2) rfl mx9 (by decide))))
            refine th_call (th_runV (As := [.int x8, .int x9]) (rest := []) hC mf_X10_setMark km_X5_170 im_X10_setMark se_X10_setMark (c_X10_setMark l G Γ H65 hB.1 hR.1 hU bn3 hbn3 x8 (by omega) (by omega) x9 (by omega)) rfl rfl ⟨Nat.le_of_ble_eq_true rfl, Nat.le_of_ble_eq_true rfl⟩ hB.1 hbn3 ro_39 rfl rfl hl.1 rfl (Nat.le_of_ble_eq_true rfl) gX5_readSums_5.2.1 ⟨Nat.le_refl _, Nat.le_refl _⟩) hB.2.1 (fun v79 H79 locs hp hz hS => ?_)
            have hRD := hR
            obtain ⟨rfl, hI1, hf, hR, z79_0⟩ := hp
            have hR := th_RD_c hR hRD hf (by decide)
            have hB := th_B_c hB hI1 hS hf (by decide)
            have mm10 := (th_F_o hf h0 ro_20 (j := 7) (by decide) (by decide)).trans g65_0
            have mm11 := (th_F_o hf h0 ro_20 (j := 3) (by decide) (by decide)).trans mm7
            have mm12 := (th_F_o hf hbn3 ro_39 (j := 2) (by decide) (by decide)).trans mx9
            replace hF := hF.trans (congrArg (dv_k f_X5_readSums_17b) (dv_bn2 (z79_0)))
            refine W.eq (g2 := F0 m 82 ls []) rfl ?_
            refine tr_iinc (fun x13 => [(2, .int x13), (0, .ref a0), (1, .int p1)]) hx hb gX5_readSums_5.2.2.1 hl (k := 2) rfl (Eq.refl _) tk_1 (by omega) (by omega) (by decide) (fun _ => rfl) (fun x13 ls ex13 hl => ?_)
            replace hF := hF.trans (congrArg (dv_k f_X5_readSums_17b) (dv_bn (ex13.symm)))
            refine lv_goto (tgt := 17) hx hb gX5_readSums_5.2.2.2.1 (by decide) ?_
            replace hF := hF.trans (dv_kl)
            exact ih17 H79 locs ls x13 hB hR (lv_sub hl [1, 2, 0] rfl) hF (by omega) (by omega) mm10 (by omega)
          refine tr_icmp_ge (tgt := 65) hx hb gX5_readSums_3.2.2.2.2.2.2.1 (by decide) (Eq.refl _) (Eq.refl _) (fun c58 => ?_) (fun c58 => ?_)
          · replace hF := hF.trans (congrArg (dv_k f_X5_readSums_17b) (if_pos c58))
            exact jn65 H56 locs ls hB hR (lv_sub hl [0, 1, 2] rfl) hF g56_0
          · replace hF := hF.trans (congrArg (dv_k f_X5_readSums_17b) (if_neg (Int.not_le.mpr c58)))
            refine lv_aload_n hx hb gX5_readSums_3.2.2.2.2.2.2.2 rfl (lv_at hl 0 rfl) ?_
            refine th_call (th_runV (As := []) (rest := []) hC mf_X5_readSum km_X5_180 im_X5_readSum se_X5_readSum (c_X5_readSum l G Γ H56 hB.1 hR hU a0 h0 ⟨_, mm6, hbn3⟩ bv g56_0 (by omega)) rfl rfl ⟨Nat.le_of_ble_eq_true rfl, Nat.le_of_ble_eq_true rfl⟩ hB.1 h0 ro_20 rfl rfl hl.1 rfl (Nat.le_of_ble_eq_true rfl) gX5_readSums_4.1 ⟨Nat.le_refl _, Nat.le_refl _⟩) hB.2.1 (fun v62 H62 locs hp hz hS => ?_)
            obtain ⟨rfl, hI1, hf, hR, z62_0, z62_1⟩ := hp
            have hB := th_B_c hB hI1 hS hf (by decide)
            have mm14 := (th_F_o hf h0 ro_20 (j := 3) (by decide) (by decide)).trans mm6
            replace hF := hF.trans (congrArg (dv_k f_X5_readSums_17b) (dv_bn2 (z62_1)))
            refine W.eq (g2 := F0 m 65 ls []) rfl ?_
            exact jn65 H62 locs ls hB hR (lv_sub hl [0, 1, 2] rfl) hF z62_0
        refine tr_if_le (tgt := 56) hx hb gX5_readSums_1.2.2.2.2.2.1 (by decide) (Eq.refl _) (fun c23 => ?_) (fun c23 => ?_)
        · replace hF := hF.trans (congrArg (dv_k f_X5_readSums_17b) (if_pos c23))
          exact jn56 H17 locs ls hB hR (lv_sub hl [0, 1, 2] rfl) hF g17_2
        · replace hF := hF.trans (congrArg (dv_k f_X5_readSums_17b) (if_neg (Int.not_le.mpr c23)))
          refine lv_iload_n hx hb gX5_readSums_1.2.2.2.2.2.2.1 rfl (lv_at hl 2 rfl) ?_
          refine lv_iload_n hx hb gX5_readSums_1.2.2.2.2.2.2.2 rfl (lv_at hl 1 rfl) ?_
          refine tr_icmp_ge (tgt := 56) hx hb gX5_readSums_2.1 (by decide) (Eq.refl _) (Eq.refl _) (fun c28 => ?_) (fun c28 => ?_)
          · replace hF := hF.trans (congrArg (dv_k f_X5_readSums_17b) (if_pos c28))
            exact jn56 H17 locs ls hB hR (lv_sub hl [0, 1, 2] rfl) hF g17_2
          · replace hF := hF.trans (congrArg (dv_k f_X5_readSums_17b) (if_neg (Int.not_le.mpr c28)))
            refine lv_aload_n hx hb gX5_readSums_2.2.1 rfl (lv_at hl 0 rfl) ?_
            refine lv_iload_n hx hb gX5_readSums_2.2.2.1 rfl (lv_at hl 2 rfl) ?_
            refine lv_iconst (v := 1) hx hb gX5_readSums_2.2.2.2.1 (by decide) ?_
            have jn46 : ∀ (locs : List Loc) (ls : Array Slot) (s46_1 : Int32), th_B G Γ Γ [(20, 5), (20, 6), (20, 7), (20, 8), (40, 0), (39, 2), (41, 0)] H0 H17 locs → lv_has ls 3 [(0, .ref a0), (1, .int p1), (2, .int j17_2)] → F = dv_k f_X5_readSums_17b (f_X5_readSums_46 (dv G Γ H17) ((a0 : Int)) (p1.toInt) (j17_2.toInt) (s46_1.toInt)) → 310 ≤ s46_1.toInt → s46_1.toInt ≤ 311 → W p l e ({ frames := 24, cells := 0, slots := 0, locals := 814 } : Room) s m ([.ref a0, .int p1] : List Value).toArray below meth c H17 locs 0 0 (MQ below (th_Q (fun (v : Option Value) (H1 : Heap) => v = none ∧ th_I G Γ H1 ∧ th_F G Γ [(20, 5), (20, 6), (20, 7), (20, 8), (40, 0), (39, 2), (41, 0)] H0 H1 ∧ th_RD G Γ H1 ∧ (th_sl H1 a0 (G.1.1.2 5 7) = .int bv) ∧ (f_X5_readSums (dv G Γ H0) (a0 : Int) p1.toInt = (dv G Γ H1, 0))) G) ([.ref a0, .int p1] : List Value).toArray s 0 0 (fun q => G.1.2.2 ≤ q)) (F0 m 46 ls [.int s46_1, .ref a0]) := by
              intro locs ls s46_1 hB hl hF g46_0 g46_1
              have ls46_1 := ti_lo s46_1; have us46_1 := ti_hi s46_1
              replace hF := hF.trans (congrArg (dv_k f_X5_readSums_17b) (f_X5_readSums_46.eq_1 (dv G Γ H17) ((a0 : Int)) (p1.toInt) (j17_2.toInt) (s46_1.toInt)))
              refine th_call (th_runV (As := [.int s46_1]) (rest := []) hC mf_X5_take km_X5_54 im_X5_take se_X5_take (c_X5_take l G Γ H17 hB.1 hR hU a0 h0 s46_1 (by omega)) rfl rfl ⟨Nat.le_of_ble_eq_true rfl, Nat.le_of_ble_eq_true rfl⟩ hB.1 h0 ro_20 rfl rfl hl.1 rfl (Nat.le_of_ble_eq_true rfl) gX5_readSums_3.1 ⟨Nat.le_refl _, Nat.le_refl _⟩) hB.2.1 (fun v46 H46 locs hp hz hS => ?_)
              obtain ⟨x15, rfl, lx15, ux15, hI1, hf, hR, z46_0, z46_1⟩ := hp
              have hB := th_B_c hB hI1 hS hf (by decide)
              have mm16 := (th_F_o hf h0 ro_20 (j := 7) (by decide) (by decide)).trans g17_2
              have mm17 := (th_F_o hf h0 ro_20 (j := 3) (by decide) (by decide)).trans mm5
              replace hF := hF.trans (congrArg (dv_k f_X5_readSums_17b) (dv_bn2 (z46_1)))
              refine W.eq (g2 := F0 m 49 ls [.int x15]) rfl ?_
              refine tr_if_ne (tgt := 56) hx hb gX5_readSums_3.2.1 (by decide) (Eq.refl _) (fun c49 => ?_) (fun c49 => ?_)
              · replace hF := hF.trans (congrArg (dv_k f_X5_readSums_17b) (if_pos c49))
                exact jn56 H46 locs ls hB hR (lv_sub hl [0, 1, 2] rfl) hF mm16
              · replace hF := hF.trans (congrArg (dv_k f_X5_readSums_17b) (if_neg (not_not_intro c49)))
                refine lv_aload_n hx hb gX5_readSums_3.2.2.1 rfl (lv_at hl 0 rfl) ?_
                refine th_call (th_runV (As := []) (rest := []) hC mf_X5_fail km_X5_58 im_X5_fail se_X5_fail (c_X5_fail l G Γ H46 hB.1 hR hU a0 h0) rfl rfl ⟨Nat.le_of_ble_eq_true rfl, Nat.le_of_ble_eq_true rfl⟩ hB.1 h0 ro_20 rfl rfl hl.1 rfl (Nat.le_of_ble_eq_true rfl) gX5_readSums_3.2.2.2.1 ⟨Nat.le_refl _, Nat.le_refl _⟩) hB.2.1 (fun v53 H53 locs hp hz hS => ?_)
                obtain ⟨rfl, hI1, hf, hR, z53_0⟩ := hp
                have hB := th_B_c hB hI1 hS hf (by decide)
                have mm18 := (th_F_o hf h0 ro_20 (j := 7) (by decide) (by decide)).trans mm16
                have mm19 := (th_F_o hf h0 ro_20 (j := 3) (by decide) (by decide)).trans mm17
                replace hF := hF.trans (congrArg (dv_k f_X5_readSums_17b) (dv_bn2 (z53_0)))
                refine W.eq (g2 := F0 m 56 ls []) rfl ?_
                exact jn56 H53 locs ls hB hR (lv_sub hl [0, 1, 2] rfl) hF mm18
            refine tr_icmp_ne (tgt := 43) hx hb gX5_readSums_2.2.2.2.2.1 (by decide) (Eq.refl _) tk_1 (fun c34 => ?_) (fun c34 => ?_)
            · replace hF := hF.trans (congrArg (dv_k f_X5_readSums_17b) (if_pos c34))
              refine lv_sipush (v := 311) hx hb gX5_readSums_2.2.2.2.2.2.2.2 (by decide) ?_
              exact jn46 locs ls 311 hB (lv_sub hl [0, 1, 2] rfl) (by rw [tk_311]; exact hF) (by decide) (by decide)
            · replace hF := hF.trans (congrArg (dv_k f_X5_readSums_17b) (if_neg (not_not_intro c34)))
              refine lv_sipush (v := 310) hx hb gX5_readSums_2.2.2.2.2.2.1 (by decide) ?_
              refine lv_goto (tgt := 46) hx hb gX5_readSums_2.2.2.2.2.2.2.1 (by decide) ?_
              exact jn46 locs ls 310 hB (lv_sub hl [0, 1, 2] rfl) (by rw [tk_310]; exact hF) (by decide) (by decide)
  exact lp17 ((2147483648 : Int) - (0)).toNat H12 locs ls 0 hB hR (lv_sub hl [1, 2, 0] rfl) (by rw [tk_0]; exact hF) (by decide) (by decide) mm2 (by have w0 := tk_0; omega)

set_option maxHeartbeats 4000000 in
set_option maxRecDepth 100000 in
theorem c_X5_readClause (l : Launch) (G : th_G) (Γ : th_Ga) (H0 : Heap) (hI : th_I G Γ H0) (hR : th_RD G Γ H0) (hU : dv_U Γ) (a0 : Nat) (h0 : Γ a0 = (20, 0)) (nn3 : ∃ b : Nat, th_sl H0 a0 (G.1.1.2 5 3) = .ref b ∧ Γ b = (39, 0)) (bv : Int32) (mbv : th_sl H0 a0 (G.1.1.2 5 7) = .int bv) (nbv : 0 ≤ bv.toInt) : Met l yX5_readClause (.code yX5_readClause cX5_readClause 3 (none) :: th_tb) ({ frames := 44, cells := 0, slots := 0, locals := 1314 } : Room) (th_P [.ref a0] G H0) (th_Q (fun (v : Option Value) (H1 : Heap) => v = none ∧ th_I G Γ H1 ∧ th_F G Γ [(20, 5), (20, 6), (20, 7), (20, 8), (40, 0), (39, 2), (41, 0), (39, 3)] H0 H1 ∧ th_RD G Γ H1 ∧ (th_sl H1 a0 (G.1.1.2 5 7) = .int bv) ∧ (f_X5_readClause (dv G Γ H0) (a0 : Int) = (dv G Γ H1, 0))) G) 0 0 (fun q => G.1.2.2 ≤ q) := by
  refine th_met RX5 (by decide) rfl (Nat.le_of_ble_eq_true rfl) ?_
  intro p e s m below meth c hC hH hr hlocks hnm ls hl
  have hx := hC.1
  have hb := hC.2.1
  have hB : th_B G Γ Γ [(20, 5), (20, 6), (20, 7), (20, 8), (40, 0), (39, 2), (41, 0), (39, 3)] H0 H0 [] := ⟨hI, va_S.rf, th_F_rf⟩
  have hl : lv_has ls 3 [(0, .ref a0)] := hl
  have lbv := ti_lo bv; have ubv := ti_hi bv
  obtain ⟨bn3, mbn3, hbn3⟩ := nn3
  obtain ⟨F, hF0⟩ : ∃ F, F = f_X5_readClause (dv G Γ H0) ((a0 : Int)) := ⟨_, rfl⟩
  have hF := hF0.trans (f_X5_readClause.eq_1 (dv G Γ H0) ((a0 : Int)))
  refine lv_aload_n hx hb gX5_readClause_0.1 rfl (lv_at hl 0 rfl) ?_
  refine th_getO (j := 0) (r2 := 21) hC cf_X5 hB.1 h0 ro_20 rfl rfl kf_X5_11 gX5_readClause_0.2.1 (fun b1 mb1 hb1 => ?_)
  refine lv_aload_n hx hb gX5_readClause_0.2.2.1 rfl (lv_at hl 0 rfl) ?_
  refine th_getI (j := 5) hC cf_X5 hB.1 h0 ro_20 rfl rfl kf_X5_30 gX5_readClause_0.2.2.2.1 (fun x2 mx2 lx2 ux2 => ?_)
  obtain ⟨rax2, rbx2⟩ := th_RI_at (hR.2 _ _ h0) mx2
  replace hF := hF.trans (dv_bn (dv_getI h0 ro_20 (j := 5) rfl mx2 (by decide)))
  refine th_ialdF hC hB.1 hb1 ro_21 rfl (Eq.refl _) (by omega) (by omega) rfl gX5_readClause_0.2.2.2.2.1 (fun x3 mx3 lx3 ux3 => ?_)
  replace hF := hF.trans (dv_bn (dv_aldI hB.1 hU hb1 ow_21 (z := x2.toInt) mx3 (by omega)))
  refine lv_aload_n hx hb gX5_readClause_0.2.2.2.2.2.1 rfl (lv_at hl 0 rfl) ?_
  refine th_getI (j := 4) hC cf_X5 hB.1 h0 ro_20 rfl rfl kf_X5_26 gX5_readClause_0.2.2.2.2.2.2.1 (fun x4 mx4 lx4 ux4 => ?_)
  replace hF := hF.trans (dv_bn (dv_getI h0 ro_20 (j := 4) rfl mx4 (by decide)))
  have jn25 : ∀ (locs : List Loc) (ls : Array Slot) (s25_1 : Int32), th_B G Γ Γ [(20, 5), (20, 6), (20, 7), (20, 8), (40, 0), (39, 2), (41, 0), (39, 3)] H0 H0 locs → lv_has ls 3 [(0, .ref a0)] → F = f_X5_readClause_25 (dv G Γ H0) ((a0 : Int)) (x3.toInt) (s25_1.toInt) → 301 ≤ s25_1.toInt → s25_1.toInt ≤ 304 → W p l e ({ frames := 44, cells := 0, slots := 0, locals := 1314 } : Room) s m ([.ref a0] : List Value).toArray below meth c H0 locs 0 0 (MQ below (th_Q (fun (v : Option Value) (H1 : Heap) => v = none ∧ th_I G Γ H1 ∧ th_F G Γ [(20, 5), (20, 6), (20, 7), (20, 8), (40, 0), (39, 2), (41, 0), (39, 3)] H0 H1 ∧ th_RD G Γ H1 ∧ (th_sl H1 a0 (G.1.1.2 5 7) = .int bv) ∧ (f_X5_readClause (dv G Γ H0) (a0 : Int) = (dv G Γ H1, 0))) G) ([.ref a0] : List Value).toArray s 0 0 (fun q => G.1.2.2 ≤ q)) (F0 m 25 ls [.int s25_1, .int x3]) := by
    intro locs ls s25_1 hB hl hF g25_0 g25_1
    have ls25_1 := ti_lo s25_1; have us25_1 := ti_hi s25_1
    replace hF := hF.trans (f_X5_readClause_25.eq_1 (dv G Γ H0) ((a0 : Int)) (x3.toInt) (s25_1.toInt))
    refine lv_isub hx hb gX5_readClause_1.2.2.2.1 ?_
    refine lv_topi (fun x5 ex5 => ?_)
    have lx5 := ti_lo x5; have ux5 := ti_hi x5
    replace hF := hF.trans (dv_bn (dv_sub_e (Eq.refl _) (Eq.refl _) ex5))
    refine lv_istore_n (lv' := [(1, .int x5), (0, .ref a0)]) hx hb gX5_readClause_1.2.2.2.2.1 rfl hl (by decide) rfl (fun ls hl => ?_)
    refine lv_iload_n hx hb gX5_readClause_1.2.2.2.2.2.1 rfl (lv_at hl 0 rfl) ?_
    have jn47 : ∀ (locs : List Loc) (ls : Array Slot) , th_B G Γ Γ [(20, 5), (20, 6), (20, 7), (20, 8), (40, 0), (39, 2), (41, 0), (39, 3)] H0 H0 locs → lv_has ls 3 [(0, .ref a0)] → F = f_X5_readClause_47 (dv G Γ H0) ((a0 : Int)) → W p l e ({ frames := 44, cells := 0, slots := 0, locals := 1314 } : Room) s m ([.ref a0] : List Value).toArray below meth c H0 locs 0 0 (MQ below (th_Q (fun (v : Option Value) (H1 : Heap) => v = none ∧ th_I G Γ H1 ∧ th_F G Γ [(20, 5), (20, 6), (20, 7), (20, 8), (40, 0), (39, 2), (41, 0), (39, 3)] H0 H1 ∧ th_RD G Γ H1 ∧ (th_sl H1 a0 (G.1.1.2 5 7) = .int bv) ∧ (f_X5_readClause (dv G Γ H0) (a0 : Int) = (dv G Γ H1, 0))) G) ([.ref a0] : List Value).toArray s 0 0 (fun q => G.1.2.2 ≤ q)) (F0 m 47 ls []) := by
      intro locs ls hB hl hF
      replace hF := hF.trans (f_X5_readClause_47.eq_1 (dv G Γ H0) ((a0 : Int)))
      refine lv_aload_n hx hb gX5_readClause_2.2.2.2.2.2.2.2 rfl (lv_at hl 0 rfl) ?_
      refine th_call (th_runV (As := []) (rest := []) hC mf_X5_fail km_X5_58 im_X5_fail se_X5_fail (c_X5_fail l G Γ H0 hB.1 hR hU a0 h0) rfl rfl ⟨Nat.le_of_ble_eq_true rfl, Nat.le_of_ble_eq_true rfl⟩ hB.1 h0 ro_20 rfl rfl hl.1 rfl (Nat.le_of_ble_eq_true rfl) gX5_readClause_3.1 ⟨Nat.le_refl _, Nat.le_refl _⟩) hB.2.1 (fun v48 H48 locs hp hz hS => ?_)
      obtain ⟨rfl, hI1, hf, hR, z48_0⟩ := hp
      have hB := th_B_c hB hI1 hS hf (by decide)
      have mm6 := (th_F_o hf h0 ro_20 (j := 7) (by decide) (by decide)).trans mbv
      have mm7 := (th_F_o hf h0 ro_20 (j := 3) (by decide) (by decide)).trans mbn3
      have mm8 := (th_F_o hf h0 ro_20 (j := 5) (by decide) (by decide)).trans mx2
      have mm9 := (th_F_o hf h0 ro_20 (j := 4) (by decide) (by decide)).trans mx4
      replace hF := hF.trans (dv_bn2 (z48_0))
      refine W.eq (g2 := F0 m 51 ls []) rfl ?_
      exact th_vret hC hH hr hlocks hB.2.1 ⟨rfl, hB.1, hB.2.2, hR, mm6, (hF0.symm.trans hF)⟩ gX5_readClause_3.2.1
    refine tr_if_lt (tgt := 47) hx hb gX5_readClause_1.2.2.2.2.2.2.1 (by decide) (Eq.refl _) (fun c28 => ?_) (fun c28 => ?_)
    · replace hF := hF.trans (if_pos c28)
      exact jn47 locs ls hB (lv_sub hl [1] rfl) hF
    · replace hF := hF.trans (if_neg (Int.not_lt.mpr c28))
      refine lv_iload_n hx hb gX5_readClause_1.2.2.2.2.2.2.2 rfl (lv_at hl 0 rfl) ?_
      refine lv_aload_n hx hb gX5_readClause_2.1 rfl (lv_at hl 1 rfl) ?_
      refine th_getK hC cf_X5 hB.1 h0 ro_20 rfl (j := 4) (by decide) mx4 kf_X5_26 gX5_readClause_2.2.1 ?_
      replace hF := hF.trans (dv_bn (dv_getI h0 ro_20 (j := 4) rfl mx4 (by decide)))
      have jn44 : ∀ (locs : List Loc) (ls : Array Slot) (s44_1 : Int32), th_B G Γ Γ [(20, 5), (20, 6), (20, 7), (20, 8), (40, 0), (39, 2), (41, 0), (39, 3)] H0 H0 locs → lv_has ls 3 [(1, .int x5), (0, .ref a0)] → F = f_X5_readClause_44 (dv G Γ H0) (x5.toInt) ((a0 : Int)) (s44_1.toInt) → 2 ≤ s44_1.toInt → s44_1.toInt ≤ 3 → W p l e ({ frames := 44, cells := 0, slots := 0, locals := 1314 } : Room) s m ([.ref a0] : List Value).toArray below meth c H0 locs 0 0 (MQ below (th_Q (fun (v : Option Value) (H1 : Heap) => v = none ∧ th_I G Γ H1 ∧ th_F G Γ [(20, 5), (20, 6), (20, 7), (20, 8), (40, 0), (39, 2), (41, 0), (39, 3)] H0 H1 ∧ th_RD G Γ H1 ∧ (th_sl H1 a0 (G.1.1.2 5 7) = .int bv) ∧ (f_X5_readClause (dv G Γ H0) (a0 : Int) = (dv G Γ H1, 0))) G) ([.ref a0] : List Value).toArray s 0 0 (fun q => G.1.2.2 ≤ q)) (F0 m 44 ls [.int s44_1, .int x5]) := by
        intro locs ls s44_1 hB hl hF g44_0 g44_1
        have ls44_1 := ti_lo s44_1; have us44_1 := ti_hi s44_1
        replace hF := hF.trans (f_X5_readClause_44.eq_1 (dv G Γ H0) (x5.toInt) ((a0 : Int)) (s44_1.toInt))
        refine tr_icmp_le (tgt := 52) hx hb gX5_readClause_2.2.2.2.2.2.2.1 (by decide) (Eq.refl _) (Eq.refl _) (fun c44 => ?_) (fun c44 => ?_)
        · replace hF := hF.trans (if_pos c44)
          refine lv_aload_n hx hb gX5_readClause_3.2.2.1 rfl (lv_at hl 1 rfl) ?_
          refine lv_dup hx hb gX5_readClause_3.2.2.2.1 rfl ?_
          refine th_getK hC cf_X5 hB.1 h0 ro_20 rfl (j := 5) (by decide) mx2 kf_X5_30 gX5_readClause_3.2.2.2.2.1 ?_
          replace hF := hF.trans (dv_bn (dv_getI h0 ro_20 (j := 5) rfl mx2 (by decide)))
          refine lv_iconst (v := 1) hx hb gX5_readClause_3.2.2.2.2.2.1 (by decide) ?_
          refine tr_iadd hx hb gX5_readClause_3.2.2.2.2.2.2.1 (Eq.refl _) tk_1 (by omega) (by omega) (fun x10 ex10 => ?_)
          replace hF := hF.trans (dv_bn (ex10.symm))
          refine th_put hC cf_X5 hB h0 (Or.inl h0) ro_20 rfl (j := 5) rfl th_sIa (by decide) rfl rfl rfl kf_X5_30 gX5_readClause_3.2.2.2.2.2.2.2 (fun H59 locs hB hf hst59 => ?_)
          have mm11 := (th_F_o hf h0 ro_20 (j := 7) (by decide) (by decide)).trans mbv
          have mm12 := (th_F_o hf h0 ro_20 (j := 3) (by decide) (by decide)).trans mbn3
          have mm13 := (th_F_o hf h0 ro_20 (j := 4) (by decide) (by decide)).trans mx4
          replace hF := hF.trans (dv_bn (dv_putI hB.1 h0 ro_20 (j := 5) rfl (th_apart hC cf_X5) hst59 (Eq.refl _) (by decide)))
          have hR := th_RD_st (th_RC_F hB.1 hR.1 hf (th_T_s h0 ro_20 hst59) (by decide)) hR h0 hst59 (th_RD_up (th_apart hC cf_X5 0 5 (by decide) (by decide) (by decide)) (hR.2 _ _ h0) ⟨_, _, _, _, mb1, hb1, mx2, mx3, th_ksub ex5 (by omega) (by omega) (by omega)⟩ h0 mx2 (by have w1 := tk_1; omega) hst59)
          refine lv_aload_n hx hb gX5_readClause_4.1 rfl (lv_at hl 1 rfl) ?_
          refine th_getK hC cf_X5 hB.1 h0 ro_20 rfl (j := 3) (by decide) mm12 kf_X5_22 gX5_readClause_4.2.1 ?_
          replace hF := hF.trans (dv_bn (dv_getR h0 ro_20 (j := 3) rfl mm12 (by decide)))
          refine lv_iload_n hx hb gX5_readClause_4.2.2.1 rfl (lv_at hl 0 rfl) ?_
          refine th_call (th_runV (As := [.int x5]) (rest := []) hC mf_X10_openClause km_X5_160 im_X10_openClause se_X10_openClause (c_X10_openClause l G Γ H59 hB.1 hR.1 hU bn3 hbn3 x5 (by omega)) rfl rfl ⟨Nat.le_of_ble_eq_true rfl, Nat.le_of_ble_eq_true rfl⟩ hB.1 hbn3 ro_39 rfl rfl hl.1 rfl (Nat.le_of_ble_eq_true rfl) gX5_readClause_4.2.2.2.1 ⟨Nat.le_refl _, Nat.le_refl _⟩) hB.2.1 (fun v67 H67 locs hp hz hS => ?_)
          have hRD := hR
          obtain ⟨rfl, hI1, hf, hR, z67_0⟩ := hp
          have hR := th_RD_c hR hRD hf (by decide)
          have hB := th_B_c hB hI1 hS hf (by decide)
          have mm14 := (th_F_o hf h0 ro_20 (j := 7) (by decide) (by decide)).trans mm11
          have mm15 := (th_F_o hf h0 ro_20 (j := 3) (by decide) (by decide)).trans mm12
          have mm16 := (th_F_o hf h0 ro_20 (j := 4) (by decide) (by decide)).trans mm13
          replace hF := hF.trans (dv_bn2 (z67_0))
          refine W.eq (g2 := F0 m 70 ls []) rfl ?_
          refine lv_aload_n hx hb gX5_readClause_4.2.2.2.2.1 rfl (lv_at hl 1 rfl) ?_
          refine lv_aload_n hx hb gX5_readClause_4.2.2.2.2.2.1 rfl (lv_at hl 1 rfl) ?_
          refine th_getK hC cf_X5 hB.1 h0 ro_20 rfl (j := 4) (by decide) mm16 kf_X5_26 gX5_readClause_4.2.2.2.2.2.2.1 ?_
          replace hF := hF.trans (dv_bn (dv_getI h0 ro_20 (j := 4) rfl mm16 (by decide)))
          have jn109 : ∀ (locs : List Loc) (ls : Array Slot) (s109_1 : Int32), th_B G Γ Γ [(20, 5), (20, 6), (20, 7), (20, 8), (40, 0), (39, 2), (41, 0), (39, 3)] H0 H67 locs → lv_has ls 3 [(0, .ref a0)] → F = f_X5_readClause_109 (dv G Γ H67) ((a0 : Int)) (s109_1.toInt) → 0 ≤ s109_1.toInt → s109_1.toInt ≤ 3 → W p l e ({ frames := 44, cells := 0, slots := 0, locals := 1314 } : Room) s m ([.ref a0] : List Value).toArray below meth c H67 locs 0 0 (MQ below (th_Q (fun (v : Option Value) (H1 : Heap) => v = none ∧ th_I G Γ H1 ∧ th_F G Γ [(20, 5), (20, 6), (20, 7), (20, 8), (40, 0), (39, 2), (41, 0), (39, 3)] H0 H1 ∧ th_RD G Γ H1 ∧ (th_sl H1 a0 (G.1.1.2 5 7) = .int bv) ∧ (f_X5_readClause (dv G Γ H0) (a0 : Int) = (dv G Γ H1, 0))) G) ([.ref a0] : List Value).toArray s 0 0 (fun q => G.1.2.2 ≤ q)) (F0 m 109 ls [.int s109_1, .ref a0]) := by
            intro locs ls s109_1 hB hl hF g109_0 g109_1
            have ls109_1 := ti_lo s109_1; have us109_1 := ti_hi s109_1
            replace hF := hF.trans (f_X5_readClause_109.eq_1 (dv G Γ H67) ((a0 : Int)) (s109_1.toInt))
            refine th_call (th_runV (As := [.int s109_1]) (rest := []) hC mf_X5_readSums km_X5_164 im_X5_readSums se_X5_readSums (c_X5_readSums l G Γ H67 hB.1 hR hU a0 h0 s109_1 (by omega) (by omega) ⟨_, mm15, hbn3⟩ bv mm14 (by omega)) rfl rfl ⟨Nat.le_of_ble_eq_true rfl, Nat.le_of_ble_eq_true rfl⟩ hB.1 h0 ro_20 rfl rfl hl.1 rfl (Nat.le_of_ble_eq_true rfl) gX5_readClause_7.2.1 ⟨Nat.le_refl _, Nat.le_refl _⟩) hB.2.1 (fun v109 H109 locs hp hz hS => ?_)
            obtain ⟨rfl, hI1, hf, hR, z109_0, z109_1⟩ := hp
            have hB := th_B_c hB hI1 hS hf (by decide)
            have mm17 := (th_F_o hf h0 ro_20 (j := 3) (by decide) (by decide)).trans mm15
            have mm18 := (th_F_o hf h0 ro_20 (j := 4) (by decide) (by decide)).trans mm16
            replace hF := hF.trans (dv_bn2 (z109_1))
            refine W.eq (g2 := F0 m 112 ls []) rfl ?_
            refine lv_aload_n hx hb gX5_readClause_7.2.2.1 rfl (lv_at hl 0 rfl) ?_
            refine th_getK hC cf_X5 hB.1 h0 ro_20 rfl (j := 4) (by decide) mm18 kf_X5_26 gX5_readClause_7.2.2.2.1 ?_
            replace hF := hF.trans (dv_bn (dv_getI h0 ro_20 (j := 4) rfl mm18 (by decide)))
            have jn155 : ∀ (H155 : Heap) (locs : List Loc) (ls : Array Slot) , th_B G Γ Γ [(20, 5), (20, 6), (20, 7), (20, 8), (40, 0), (39, 2), (41, 0), (39, 3)] H0 H155 locs → th_RD G Γ H155 → lv_has ls 3 [(0, .ref a0)] → F = f_X5_readClause_155 (dv G Γ H155) ((a0 : Int)) → th_sl H155 a0 (G.1.1.2 5 7) = .int bv → W p l e ({ frames := 44, cells := 0, slots := 0, locals := 1314 } : Room) s m ([.ref a0] : List Value).toArray below meth c H155 locs 0 0 (MQ below (th_Q (fun (v : Option Value) (H1 : Heap) => v = none ∧ th_I G Γ H1 ∧ th_F G Γ [(20, 5), (20, 6), (20, 7), (20, 8), (40, 0), (39, 2), (41, 0), (39, 3)] H0 H1 ∧ th_RD G Γ H1 ∧ (th_sl H1 a0 (G.1.1.2 5 7) = .int bv) ∧ (f_X5_readClause (dv G Γ H0) (a0 : Int) = (dv G Γ H1, 0))) G) ([.ref a0] : List Value).toArray s 0 0 (fun q => G.1.2.2 ≤ q)) (F0 m 155 ls []) := by
              intro H155 locs ls hB hR hl hF g155_0
              have mm19 := (th_F_o hB.2.2 h0 ro_20 (j := 3) (by decide) (by decide)).trans mbn3
              replace hF := hF.trans (f_X5_readClause_155.eq_1 (dv G Γ H155) ((a0 : Int)))
              refine lv_aload_n hx hb gX5_readClause_10.1 rfl (lv_at hl 0 rfl) ?_
              refine th_getK hC cf_X5 hB.1 h0 ro_20 rfl (j := 3) (by decide) mm19 kf_X5_22 gX5_readClause_10.2.1 ?_
              replace hF := hF.trans (dv_bn (dv_getR h0 ro_20 (j := 3) rfl mm19 (by decide)))
              refine lv_bipush (v := 6) hx hb gX5_readClause_10.2.2.1 (by decide) ?_
              refine lv_aload_n hx hb gX5_readClause_10.2.2.2.1 rfl (lv_at hl 0 rfl) ?_
              refine th_getK hC cf_X5 hB.1 h0 ro_20 rfl (j := 3) (by decide) mm19 kf_X5_22 gX5_readClause_10.2.2.2.2.1 ?_
              replace hF := hF.trans (dv_bn (dv_getR h0 ro_20 (j := 3) rfl mm19 (by decide)))
              refine th_getI (j := 2) hC cf_X10 hB.1 hbn3 ro_39 rfl rfl kf_X5_174 gX5_readClause_10.2.2.2.2.2.1 (fun x20 mx20 lx20 ux20 => ?_)
              replace hF := hF.trans (dv_bn (dv_getI hbn3 ro_39 (j := 2) rfl mx20 (by decide)))
              refine th_call (th_runV (As := [.int 6, .int x20]) (rest := []) hC mf_X10_setMark km_X5_170 im_X10_setMark se_X10_setMark (c_X10_setMark l G Γ H155 hB.1 hR.1 hU bn3 hbn3 6 (by decide) (by decide) x20 (by have w0 := tk_6; omega)) rfl rfl ⟨Nat.le_of_ble_eq_true rfl, Nat.le_of_ble_eq_true rfl⟩ hB.1 hbn3 ro_39 rfl rfl hl.1 rfl (Nat.le_of_ble_eq_true rfl) gX5_readClause_10.2.2.2.2.2.2.1 ⟨Nat.le_refl _, Nat.le_refl _⟩) hB.2.1 (fun v168 H168 locs hp hz hS => ?_)
              have hRD := hR
              obtain ⟨rfl, hI1, hf, hR, z168_0⟩ := hp
              have hR := th_RD_c hR hRD hf (by decide)
              have hB := th_B_c hB hI1 hS hf (by decide)
              have mm21 := (th_F_o hf h0 ro_20 (j := 7) (by decide) (by decide)).trans g155_0
              have mm22 := (th_F_o hf h0 ro_20 (j := 3) (by decide) (by decide)).trans mm19
              have mm23 := (th_F_o hf hbn3 ro_39 (j := 2) (by decide) (by decide)).trans mx20
              have zf168 := z168_0
              rw [tk_6] at zf168
              replace hF := hF.trans (dv_bn2 (zf168))
              refine W.eq (g2 := F0 m 171 ls []) rfl ?_
              refine lv_aload_n hx hb gX5_readClause_10.2.2.2.2.2.2.2 rfl (lv_at hl 0 rfl) ?_
              refine lv_sipush (v := 308) hx hb gX5_readClause_11.1 (by decide) ?_
              refine th_call (th_runV (As := [.int 308]) (rest := []) hC mf_X5_take km_X5_54 im_X5_take se_X5_take (c_X5_take l G Γ H168 hB.1 hR hU a0 h0 308 (by decide)) rfl rfl ⟨Nat.le_of_ble_eq_true rfl, Nat.le_of_ble_eq_true rfl⟩ hB.1 h0 ro_20 rfl rfl hl.1 rfl (Nat.le_of_ble_eq_true rfl) gX5_readClause_11.2.1 ⟨Nat.le_refl _, Nat.le_refl _⟩) hB.2.1 (fun v175 H175 locs hp hz hS => ?_)
              obtain ⟨x24, rfl, lx24, ux24, hI1, hf, hR, z175_0, z175_1⟩ := hp
              have hB := th_B_c hB hI1 hS hf (by decide)
              have mm25 := (th_F_o hf h0 ro_20 (j := 7) (by decide) (by decide)).trans mm21
              have mm26 := (th_F_o hf h0 ro_20 (j := 3) (by decide) (by decide)).trans mm22
              have mm27 := (th_F_o hf hbn3 ro_39 (j := 2) (by decide) (by decide)).trans mm23
              have zf175 := z175_1
              rw [tk_308] at zf175
              replace hF := hF.trans (dv_bn2 (zf175))
              refine W.eq (g2 := F0 m 178 ls [.int x24]) rfl ?_
              have jn185 : ∀ (H185 : Heap) (locs : List Loc) (ls : Array Slot) , th_B G Γ Γ [(20, 5), (20, 6), (20, 7), (20, 8), (40, 0), (39, 2), (41, 0), (39, 3)] H0 H185 locs → th_RD G Γ H185 → lv_has ls 3 [(0, .ref a0)] → F = f_X5_readClause_185 (dv G Γ H185) ((a0 : Int)) → th_sl H185 a0 (G.1.1.2 5 7) = .int bv → W p l e ({ frames := 44, cells := 0, slots := 0, locals := 1314 } : Room) s m ([.ref a0] : List Value).toArray below meth c H185 locs 0 0 (MQ below (th_Q (fun (v : Option Value) (H1 : Heap) => v = none ∧ th_I G Γ H1 ∧ th_F G Γ [(20, 5), (20, 6), (20, 7), (20, 8), (40, 0), (39, 2), (41, 0), (39, 3)] H0 H1 ∧ th_RD G Γ H1 ∧ (th_sl H1 a0 (G.1.1.2 5 7) = .int bv) ∧ (f_X5_readClause (dv G Γ H0) (a0 : Int) = (dv G Γ H1, 0))) G) ([.ref a0] : List Value).toArray s 0 0 (fun q => G.1.2.2 ≤ q)) (F0 m 185 ls []) := by
                intro H185 locs ls hB hR hl hF g185_0
                have mm28 := (th_F_o hB.2.2 h0 ro_20 (j := 3) (by decide) (by decide)).trans mbn3
                replace hF := hF.trans (f_X5_readClause_185.eq_1 (dv G Γ H185) ((a0 : Int)))
                refine lv_aload_n hx hb gX5_readClause_11.2.2.2.2.2.1 rfl (lv_at hl 0 rfl) ?_
                refine th_getK hC cf_X5 hB.1 h0 ro_20 rfl (j := 3) (by decide) mm28 kf_X5_22 gX5_readClause_11.2.2.2.2.2.2.1 ?_
                replace hF := hF.trans (dv_bn (dv_getR h0 ro_20 (j := 3) rfl mm28 (by decide)))
                refine lv_bipush (v := 7) hx hb gX5_readClause_11.2.2.2.2.2.2.2 (by decide) ?_
                refine lv_aload_n hx hb gX5_readClause_12.1 rfl (lv_at hl 0 rfl) ?_
                refine th_getK hC cf_X5 hB.1 h0 ro_20 rfl (j := 3) (by decide) mm28 kf_X5_22 gX5_readClause_12.2.1 ?_
                replace hF := hF.trans (dv_bn (dv_getR h0 ro_20 (j := 3) rfl mm28 (by decide)))
                refine th_getI (j := 2) hC cf_X10 hB.1 hbn3 ro_39 rfl rfl kf_X5_174 gX5_readClause_12.2.2.1 (fun x29 mx29 lx29 ux29 => ?_)
                replace hF := hF.trans (dv_bn (dv_getI hbn3 ro_39 (j := 2) rfl mx29 (by decide)))
                refine th_call (th_runV (As := [.int 7, .int x29]) (rest := []) hC mf_X10_setMark km_X5_170 im_X10_setMark se_X10_setMark (c_X10_setMark l G Γ H185 hB.1 hR.1 hU bn3 hbn3 7 (by decide) (by decide) x29 (by have w0 := tk_7; omega)) rfl rfl ⟨Nat.le_of_ble_eq_true rfl, Nat.le_of_ble_eq_true rfl⟩ hB.1 hbn3 ro_39 rfl rfl hl.1 rfl (Nat.le_of_ble_eq_true rfl) gX5_readClause_12.2.2.2.1 ⟨Nat.le_refl _, Nat.le_refl _⟩) hB.2.1 (fun v198 H198 locs hp hz hS => ?_)
                have hRD := hR
                obtain ⟨rfl, hI1, hf, hR, z198_0⟩ := hp
                have hR := th_RD_c hR hRD hf (by decide)
                have hB := th_B_c hB hI1 hS hf (by decide)
                have mm30 := (th_F_o hf h0 ro_20 (j := 7) (by decide) (by decide)).trans g185_0
                have mm31 := (th_F_o hf h0 ro_20 (j := 3) (by decide) (by decide)).trans mm28
                have zf198 := z198_0
                rw [tk_7] at zf198
                replace hF := hF.trans (dv_bn2 (zf198))
                refine W.eq (g2 := F0 m 201 ls []) rfl ?_
                exact th_vret hC hH hr hlocks hB.2.1 ⟨rfl, hB.1, hB.2.2, hR, mm30, (hF0.symm.trans hF)⟩ gX5_readClause_12.2.2.2.2
              refine tr_if_eq (tgt := 185) hx hb gX5_readClause_11.2.2.1 (by decide) (Eq.refl _) (fun c178 => ?_) (fun c178 => ?_)
              · replace hF := hF.trans (if_pos c178)
                exact jn185 H175 locs ls hB hR (lv_sub hl [0] rfl) hF mm25
              · replace hF := hF.trans (if_neg c178)
                refine lv_aload_n hx hb gX5_readClause_11.2.2.2.1 rfl (lv_at hl 0 rfl) ?_
                refine th_call (th_runV (As := []) (rest := []) hC mf_X5_readTest km_X5_177 im_X5_readTest se_X5_readTest (c_X5_readTest l G Γ H175 hB.1 hR hU a0 h0 ⟨_, mm26, hbn3⟩ bv mm25 (by omega) (by omega)) rfl rfl ⟨Nat.le_of_ble_eq_true rfl, Nat.le_of_ble_eq_true rfl⟩ hB.1 h0 ro_20 rfl rfl hl.1 rfl (Nat.le_of_ble_eq_true rfl) gX5_readClause_11.2.2.2.2.1 ⟨Nat.le_refl _, Nat.le_refl _⟩) hB.2.1 (fun v182 H182 locs hp hz hS => ?_)
                obtain ⟨rfl, hI1, hf, hR, z182_0, z182_1⟩ := hp
                have hB := th_B_c hB hI1 hS hf (by decide)
                have mm32 := (th_F_o hf h0 ro_20 (j := 3) (by decide) (by decide)).trans mm26
                replace hF := hF.trans (dv_bn2 (z182_1))
                refine W.eq (g2 := F0 m 185 ls []) rfl ?_
                exact jn185 H182 locs ls hB hR (lv_sub hl [0] rfl) hF z182_0
            refine tr_if_eq (tgt := 155) hx hb gX5_readClause_7.2.2.2.2.1 (by decide) (Eq.refl _) (fun c116 => ?_) (fun c116 => ?_)
            · replace hF := hF.trans (if_pos c116)
              exact jn155 H109 locs ls hB hR (lv_sub hl [0] rfl) hF z109_0
            · replace hF := hF.trans (if_neg c116)
              refine lv_aload_n hx hb gX5_readClause_7.2.2.2.2.2.1 rfl (lv_at hl 0 rfl) ?_
              refine lv_sipush (v := 309) hx hb gX5_readClause_7.2.2.2.2.2.2.1 (by decide) ?_
              refine th_call (th_runV (As := [.int 309]) (rest := []) hC mf_X5_take km_X5_54 im_X5_take se_X5_take (c_X5_take l G Γ H109 hB.1 hR hU a0 h0 309 (by decide)) rfl rfl ⟨Nat.le_of_ble_eq_true rfl, Nat.le_of_ble_eq_true rfl⟩ hB.1 h0 ro_20 rfl rfl hl.1 rfl (Nat.le_of_ble_eq_true rfl) gX5_readClause_7.2.2.2.2.2.2.2 ⟨Nat.le_refl _, Nat.le_refl _⟩) hB.2.1 (fun v123 H123 locs hp hz hS => ?_)
              obtain ⟨x33, rfl, lx33, ux33, hI1, hf, hR, z123_0, z123_1⟩ := hp
              have hB := th_B_c hB hI1 hS hf (by decide)
              have mm34 := (th_F_o hf h0 ro_20 (j := 3) (by decide) (by decide)).trans mm17
              have mm35 := (th_F_o hf h0 ro_20 (j := 4) (by decide) (by decide)).trans mm18
              have mm36 := (th_F_o hf h0 ro_20 (j := 7) (by decide) (by decide)).trans z109_0
              have zf123 := z123_1
              rw [tk_309] at zf123
              replace hF := hF.trans (dv_bn2 (zf123))
              refine W.eq (g2 := F0 m 126 ls [.int x33]) rfl ?_
              refine tr_if_eq (tgt := 155) hx hb gX5_readClause_8.1 (by decide) (Eq.refl _) (fun c126 => ?_) (fun c126 => ?_)
              · replace hF := hF.trans (if_pos c126)
                exact jn155 H123 locs ls hB hR (lv_sub hl [0] rfl) hF mm36
              · replace hF := hF.trans (if_neg c126)
                refine lv_aload_n hx hb gX5_readClause_8.2.1 rfl (lv_at hl 0 rfl) ?_
                refine lv_iconst (v := 1) hx hb gX5_readClause_8.2.2.1 (by decide) ?_
                refine lv_bipush (v := 20) hx hb gX5_readClause_8.2.2.2.1 (by decide) ?_
                refine th_call (th_runV (As := [.int 1, .int 20]) (rest := []) hC mf_X5_takeNumber km_X5_167 im_X5_takeNumber se_X5_takeNumber (c_X5_takeNumber l G Γ H123 hB.1 hR hU a0 h0 1 (by decide) 20) rfl rfl ⟨Nat.le_of_ble_eq_true rfl, Nat.le_of_ble_eq_true rfl⟩ hB.1 h0 ro_20 rfl rfl hl.1 rfl (Nat.le_of_ble_eq_true rfl) gX5_readClause_8.2.2.2.2.1 ⟨Nat.le_refl _, Nat.le_refl _⟩) hB.2.1 (fun v133 H133 locs hp hz hS => ?_)
                obtain ⟨x37, rfl, lx37, q133_0, hI1, hf, hR, z133_0, z133_1⟩ := hp
                have hB := th_B_c hB hI1 hS hf (by decide)
                have mm38 := (th_F_o hf h0 ro_20 (j := 3) (by decide) (by decide)).trans mm34
                have mm39 := (th_F_o hf h0 ro_20 (j := 4) (by decide) (by decide)).trans mm35
                have mm40 := (th_F_o hf h0 ro_20 (j := 7) (by decide) (by decide)).trans mm36
                have w133_0 := tk_1
                have w133_1 := tk_20
                have zf133 := z133_1
                rw [tk_1, tk_20] at zf133
                replace hF := hF.trans (dv_bn2 (zf133))
                refine W.eq (g2 := F0 m 136 ls [.int x37]) rfl ?_
                refine lv_istore_n (lv' := [(2, .int x37), (0, .ref a0)]) hx hb gX5_readClause_8.2.2.2.2.2.1 rfl hl (by decide) rfl (fun ls hl => ?_)
                refine lv_aload_n hx hb gX5_readClause_8.2.2.2.2.2.2.1 rfl (lv_at hl 1 rfl) ?_
                refine th_getK hC cf_X5 hB.1 h0 ro_20 rfl (j := 3) (by decide) mm38 kf_X5_22 gX5_readClause_8.2.2.2.2.2.2.2 ?_
                replace hF := hF.trans (dv_bn (dv_getR h0 ro_20 (j := 3) rfl mm38 (by decide)))
                refine lv_iconst (v := 1) hx hb gX5_readClause_9.1 (by decide) ?_
                refine lv_iload_n hx hb gX5_readClause_9.2.1 rfl (lv_at hl 0 rfl) ?_
                refine th_call (th_runV (As := [.int 1, .int x37]) (rest := []) hC mf_X10_setMark km_X5_170 im_X10_setMark se_X10_setMark (c_X10_setMark l G Γ H133 hB.1 hR.1 hU bn3 hbn3 1 (by decide) (by decide) x37 (by have w0 := tk_1; omega)) rfl rfl ⟨Nat.le_of_ble_eq_true rfl, Nat.le_of_ble_eq_true rfl⟩ hB.1 hbn3 ro_39 rfl rfl hl.1 rfl (Nat.le_of_ble_eq_true rfl) gX5_readClause_9.2.2.1 ⟨Nat.le_refl _, Nat.le_refl _⟩) hB.2.1 (fun v143 H143 locs hp hz hS => ?_)
                have hRD := hR
                obtain ⟨rfl, hI1, hf, hR, z143_0⟩ := hp
                have hR := th_RD_c hR hRD hf (by decide)
                have hB := th_B_c hB hI1 hS hf (by decide)
                have mm41 := (th_F_o hf h0 ro_20 (j := 3) (by decide) (by decide)).trans mm38
                have mm42 := (th_F_o hf h0 ro_20 (j := 4) (by decide) (by decide)).trans mm39
                have mm43 := (th_F_o hf h0 ro_20 (j := 7) (by decide) (by decide)).trans mm40
                have zf143 := z143_0
                rw [tk_1] at zf143
                replace hF := hF.trans (dv_bn2 (zf143))
                refine W.eq (g2 := F0 m 146 ls []) rfl ?_
                refine lv_iload_n hx hb gX5_readClause_9.2.2.2.1 rfl (lv_at hl 0 rfl) ?_
                refine lv_iconst (v := (-1)) hx hb gX5_readClause_9.2.2.2.2.1 (by decide) ?_
                refine tr_icmp_ne (tgt := 155) hx hb gX5_readClause_9.2.2.2.2.2.1 (by decide) (Eq.refl _) tk_m1 (fun c148 => ?_) (fun c148 => ?_)
                · replace hF := hF.trans (if_pos c148)
                  exact jn155 H143 locs ls hB hR (lv_sub hl [1] rfl) hF mm43
                · replace hF := hF.trans (if_neg (not_not_intro c148))
                  refine lv_aload_n hx hb gX5_readClause_9.2.2.2.2.2.2.1 rfl (lv_at hl 1 rfl) ?_
                  refine th_call (th_runV (As := []) (rest := []) hC mf_X5_fail km_X5_58 im_X5_fail se_X5_fail (c_X5_fail l G Γ H143 hB.1 hR hU a0 h0) rfl rfl ⟨Nat.le_of_ble_eq_true rfl, Nat.le_of_ble_eq_true rfl⟩ hB.1 h0 ro_20 rfl rfl hl.1 rfl (Nat.le_of_ble_eq_true rfl) gX5_readClause_9.2.2.2.2.2.2.2 ⟨Nat.le_refl _, Nat.le_refl _⟩) hB.2.1 (fun v152 H152 locs hp hz hS => ?_)
                  obtain ⟨rfl, hI1, hf, hR, z152_0⟩ := hp
                  have hB := th_B_c hB hI1 hS hf (by decide)
                  have mm44 := (th_F_o hf h0 ro_20 (j := 3) (by decide) (by decide)).trans mm41
                  have mm45 := (th_F_o hf h0 ro_20 (j := 4) (by decide) (by decide)).trans mm42
                  have mm46 := (th_F_o hf h0 ro_20 (j := 7) (by decide) (by decide)).trans mm43
                  replace hF := hF.trans (dv_bn2 (z152_0))
                  refine W.eq (g2 := F0 m 155 ls []) rfl ?_
                  exact jn155 H152 locs ls hB hR (lv_sub hl [1] rfl) hF mm46
          refine tr_if_eq (tgt := 99) hx hb gX5_readClause_4.2.2.2.2.2.2.2 (by decide) (Eq.refl _) (fun c75 => ?_) (fun c75 => ?_)
          · replace hF := hF.trans (if_pos c75)
            refine lv_iload_n hx hb gX5_readClause_6.2.2.2.1 rfl (lv_at hl 0 rfl) ?_
            refine lv_iconst (v := 2) hx hb gX5_readClause_6.2.2.2.2.1 (by decide) ?_
            refine tr_icmp_ne (tgt := 108) hx hb gX5_readClause_6.2.2.2.2.2.1 (by decide) (Eq.refl _) tk_2 (fun c101 => ?_) (fun c101 => ?_)
            · replace hF := hF.trans (if_pos c101)
              refine lv_iconst (v := 1) hx hb gX5_readClause_7.1 (by decide) ?_
              exact jn109 locs ls 1 hB (lv_sub hl [1] rfl) (by rw [tk_1]; exact hF) (by decide) (by decide)
            · replace hF := hF.trans (if_neg (not_not_intro c101))
              refine lv_iconst (v := 0) hx hb gX5_readClause_6.2.2.2.2.2.2.1 (by decide) ?_
              refine lv_goto (tgt := 109) hx hb gX5_readClause_6.2.2.2.2.2.2.2 (by decide) ?_
              exact jn109 locs ls 0 hB (lv_sub hl [1] rfl) (by rw [tk_0]; exact hF) (by decide) (by decide)
          · replace hF := hF.trans (if_neg c75)
            refine lv_iload_n hx hb gX5_readClause_5.1 rfl (lv_at hl 0 rfl) ?_
            refine tr_if_ne (tgt := 86) hx hb gX5_readClause_5.2.1 (by decide) (Eq.refl _) (fun c79 => ?_) (fun c79 => ?_)
            · replace hF := hF.trans (if_pos c79)
              refine lv_iload_n hx hb gX5_readClause_5.2.2.2.2.1 rfl (lv_at hl 0 rfl) ?_
              refine lv_iconst (v := 1) hx hb gX5_readClause_5.2.2.2.2.2.1 (by decide) ?_
              refine tr_icmp_ne (tgt := 95) hx hb gX5_readClause_5.2.2.2.2.2.2.1 (by decide) (Eq.refl _) tk_1 (fun c88 => ?_) (fun c88 => ?_)
              · replace hF := hF.trans (if_pos c88)
                refine lv_iconst (v := 0) hx hb gX5_readClause_6.2.1 (by decide) ?_
                refine lv_goto (tgt := 109) hx hb gX5_readClause_6.2.2.1 (by decide) ?_
                exact jn109 locs ls 0 hB (lv_sub hl [1] rfl) (by rw [tk_0]; exact hF) (by decide) (by decide)
              · replace hF := hF.trans (if_neg (not_not_intro c88))
                refine lv_iconst (v := 1) hx hb gX5_readClause_5.2.2.2.2.2.2.2 (by decide) ?_
                refine lv_goto (tgt := 109) hx hb gX5_readClause_6.1 (by decide) ?_
                exact jn109 locs ls 1 hB (lv_sub hl [1] rfl) (by rw [tk_1]; exact hF) (by decide) (by decide)
            · replace hF := hF.trans (if_neg (not_not_intro c79))
              refine lv_iconst (v := 3) hx hb gX5_readClause_5.2.2.1 (by decide) ?_
              refine lv_goto (tgt := 109) hx hb gX5_readClause_5.2.2.2.1 (by decide) ?_
              exact jn109 locs ls 3 hB (lv_sub hl [1] rfl) (by rw [tk_3]; exact hF) (by decide) (by decide)
        · replace hF := hF.trans (if_neg (Int.not_le.mpr c44))
          exact jn47 locs ls hB (lv_sub hl [1] rfl) hF
      refine tr_if_eq (tgt := 43) hx hb gX5_readClause_2.2.2.1 (by decide) (Eq.refl _) (fun c36 => ?_) (fun c36 => ?_)
      · replace hF := hF.trans (if_pos c36)
        refine lv_iconst (v := 2) hx hb gX5_readClause_2.2.2.2.2.2.1 (by decide) ?_
        exact jn44 locs ls 2 hB (lv_sub hl [0, 1] rfl) (by rw [tk_2]; exact hF) (by decide) (by decide)
      · replace hF := hF.trans (if_neg c36)
        refine lv_iconst (v := 3) hx hb gX5_readClause_2.2.2.2.1 (by decide) ?_
        refine lv_goto (tgt := 44) hx hb gX5_readClause_2.2.2.2.2.1 (by decide) ?_
        exact jn44 locs ls 3 hB (lv_sub hl [0, 1] rfl) (by rw [tk_3]; exact hF) (by decide) (by decide)
  refine tr_if_eq (tgt := 22) hx hb gX5_readClause_0.2.2.2.2.2.2.2 (by decide) (Eq.refl _) (fun c13 => ?_) (fun c13 => ?_)
  · replace hF := hF.trans (if_pos c13)
    refine lv_sipush (v := 301) hx hb gX5_readClause_1.2.2.1 (by decide) ?_
    exact jn25 [] ls 301 hB (lv_sub hl [0] rfl) (by rw [tk_301]; exact hF) (by decide) (by decide)
  · replace hF := hF.trans (if_neg c13)
    refine lv_sipush (v := 304) hx hb gX5_readClause_1.1 (by decide) ?_
    refine lv_goto (tgt := 25) hx hb gX5_readClause_1.2.1 (by decide) ?_
    exact jn25 [] ls 304 hB (lv_sub hl [0] rfl) (by rw [tk_304]; exact hF) (by decide) (by decide)

set_option maxHeartbeats 4000000 in
set_option maxRecDepth 100000 in
theorem c_X5_read (l : Launch) (G : th_G) (Γ : th_Ga) (H0 : Heap) (hI : th_I G Γ H0) (hR : th_RC G Γ H0) (hU : dv_U Γ) (a0 : Nat) (h0 : Γ a0 = (20, 0)) (p1 : Nat) (h1 : Γ p1 = (37, 0)) (p2 : Nat) (h2 : Γ p2 = (39, 0)) (p3 : Int32) (f3 : 0 ≤ p3.toInt) (g3 : p3.toInt ≤ 1) (k1 : ∀ a a1 o o1 : Nat, Γ a = (20, o) → Γ a1 = (20, o1) → a = a1) : Met l yX5_read (.code yX5_read cX5_read 5 (some FieldType.int) :: th_tb) ({ frames := 45, cells := 0, slots := 0, locals := 1336 } : Room) (th_PX [.ref a0, .ref p1, .ref p2, .int p3] G H0 (fun U => th_Z G U H0)) (th_Q (fun (v : Option Value) (H1 : Heap) => ∃ r : Int32, v = some (.int r) ∧ th_I G Γ H1 ∧ th_F G Γ [(20, 5), (20, 6), (20, 7), (20, 8), (40, 0), (39, 2), (41, 0), (39, 3), (21, 0), (22, 0), (20, 2), (20, 3), (20, 4)] H0 H1 ∧ th_RC G Γ H1 ∧ (f_X5_read (dv G Γ H0) (a0 : Int) (p1 : Int) (p2 : Int) p3.toInt = (dv G Γ H1, r.toInt))) G) 0 0 (fun q => G.1.2.2 ≤ q) := by
  refine th_metX RX5 (by decide) rfl (Nat.le_of_ble_eq_true rfl) ?_
  intro p e s m below meth c hC hX hH hr hlocks hnm ls hl
  have hx := hC.1
  have hb := hC.2.1
  have hB : th_B G Γ Γ [(20, 5), (20, 6), (20, 7), (20, 8), (40, 0), (39, 2), (41, 0), (39, 3), (21, 0), (22, 0), (20, 2), (20, 3), (20, 4)] H0 H0 [] := ⟨hI, va_S.rf, th_F_rf⟩
  have hl : lv_has ls 5 [(0, .ref a0), (1, .ref p1), (2, .ref p2), (3, .int p3)] := hl
  have lp3 := ti_lo p3; have up3 := ti_hi p3
  obtain ⟨F, hF0⟩ : ∃ F, F = f_X5_read (dv G Γ H0) ((a0 : Int)) ((p1 : Int)) ((p2 : Int)) (p3.toInt) := ⟨_, rfl⟩
  have hF := hF0.trans (f_X5_read.eq_1 (dv G Γ H0) ((a0 : Int)) ((p1 : Int)) ((p2 : Int)) (p3.toInt))
  refine lv_aload_n hx hb gX5_read_0.1 rfl (lv_at hl 0 rfl) ?_
  refine lv_aload_n hx hb gX5_read_0.2.1 rfl (lv_at hl 1 rfl) ?_
  refine th_put hC cf_X5 hB h0 (Or.inl h0) ro_20 rfl (j := 2) rfl (th_sQ h1) (by decide) rfl rfl rfl kf_X5_18 gX5_read_0.2.2.1 (fun H2 locs hB hf hst2 => ?_)
  have hR := th_RC_F hB.1 hR hf (th_T_s h0 ro_20 hst2) (by decide)
  replace hF := hF.trans (dv_bn (dv_putR hB.1 h0 ro_20 (j := 2) rfl (th_apart hC cf_X5) hst2 (by decide)))
  have mm1 := hst2.2.1
  refine lv_aload_n hx hb gX5_read_0.2.2.2.1 rfl (lv_at hl 0 rfl) ?_
  refine lv_aload_n hx hb gX5_read_0.2.2.2.2.1 rfl (lv_at hl 2 rfl) ?_
  refine th_put hC cf_X5 hB h0 (Or.inl h0) ro_20 rfl (j := 3) rfl (th_sQ h2) (by decide) rfl rfl rfl kf_X5_22 gX5_read_0.2.2.2.2.2.1 (fun H7 locs hB hf hst7 => ?_)
  have mm2 := (th_F_o hf h0 ro_20 (j := 2) (by decide) (by decide)).trans mm1
  have hR := th_RC_F hB.1 hR hf (th_T_s h0 ro_20 hst7) (by decide)
  replace hF := hF.trans (dv_bn (dv_putR hB.1 h0 ro_20 (j := 3) rfl (th_apart hC cf_X5) hst7 (by decide)))
  have mm3 := hst7.2.1
  refine lv_aload_n hx hb gX5_read_0.2.2.2.2.2.2.1 rfl (lv_at hl 0 rfl) ?_
  refine lv_iload_n hx hb gX5_read_0.2.2.2.2.2.2.2 rfl (lv_at hl 3 rfl) ?_
  refine th_put hC cf_X5 hB h0 (Or.inl h0) ro_20 rfl (j := 4) rfl (th_sI (by omega) (by omega)) (by decide) rfl (th_nb (by omega) (by omega)) (th_fb (by omega) (by omega)) kf_X5_26 gX5_read_1.1 (fun H12 locs hB hf hst12 => ?_)
  have mm4 := (th_F_o hf h0 ro_20 (j := 2) (by decide) (by decide)).trans mm2
  have mm5 := (th_F_o hf h0 ro_20 (j := 3) (by decide) (by decide)).trans mm3
  have hR := th_RC_F hB.1 hR hf (th_T_s h0 ro_20 hst12) (by decide)
  replace hF := hF.trans (dv_bn (dv_putI hB.1 h0 ro_20 (j := 4) rfl (th_apart hC cf_X5) hst12 (Eq.refl _) (by decide)))
  refine lv_aload_n hx hb gX5_read_1.2.1 rfl (lv_at hl 0 rfl) ?_
  refine lv_iconst (v := 0) hx hb gX5_read_1.2.2.1 (by decide) ?_
  refine th_put hC cf_X5 hB h0 (Or.inl h0) ro_20 rfl (j := 5) rfl th_sIa (by decide) rfl rfl rfl kf_X5_30 gX5_read_1.2.2.2.1 (fun H17 locs hB hf hst17 => ?_)
  have mm6 := (th_F_o hf h0 ro_20 (j := 2) (by decide) (by decide)).trans mm4
  have mm7 := (th_F_o hf h0 ro_20 (j := 3) (by decide) (by decide)).trans mm5
  have hR := th_RC_F hB.1 hR hf (th_T_s h0 ro_20 hst17) (by decide)
  replace hF := hF.trans (dv_bn (dv_putI hB.1 h0 ro_20 (j := 5) rfl (th_apart hC cf_X5) hst17 tk_0 (by decide)))
  have mm8 := hst17.2.1
  refine lv_aload_n hx hb gX5_read_1.2.2.2.2.1 rfl (lv_at hl 0 rfl) ?_
  refine lv_iconst (v := 0) hx hb gX5_read_1.2.2.2.2.2.1 (by decide) ?_
  refine th_put hC cf_X5 hB h0 (Or.inl h0) ro_20 rfl (j := 6) rfl th_sIa (by decide) rfl rfl rfl kf_X5_34 gX5_read_1.2.2.2.2.2.2.1 (fun H22 locs hB hf hst22 => ?_)
  have mm9 := (th_F_o hf h0 ro_20 (j := 2) (by decide) (by decide)).trans mm6
  have mm10 := (th_F_o hf h0 ro_20 (j := 3) (by decide) (by decide)).trans mm7
  have mm11 := (th_F_o hf h0 ro_20 (j := 5) (by decide) (by decide)).trans mm8
  have hR := th_RC_F hB.1 hR hf (th_T_s h0 ro_20 hst22) (by decide)
  replace hF := hF.trans (dv_bn (dv_putI hB.1 h0 ro_20 (j := 6) rfl (th_apart hC cf_X5) hst22 tk_0 (by decide)))
  refine lv_aload_n hx hb gX5_read_1.2.2.2.2.2.2.2 rfl (lv_at hl 0 rfl) ?_
  refine lv_iconst (v := 0) hx hb gX5_read_2.1 (by decide) ?_
  refine th_put hC cf_X5 hB h0 (Or.inl h0) ro_20 rfl (j := 7) rfl th_sIa (by decide) rfl rfl rfl kf_X5_37 gX5_read_2.2.1 (fun H27 locs hB hf hst27 => ?_)
  have mm12 := (th_F_o hf h0 ro_20 (j := 2) (by decide) (by decide)).trans mm9
  have mm13 := (th_F_o hf h0 ro_20 (j := 3) (by decide) (by decide)).trans mm10
  have mm14 := (th_F_o hf h0 ro_20 (j := 5) (by decide) (by decide)).trans mm11
  have hR := th_RC_F hB.1 hR hf (th_T_s h0 ro_20 hst27) (by decide)
  replace hF := hF.trans (dv_bn (dv_putI hB.1 h0 ro_20 (j := 7) rfl (th_apart hC cf_X5) hst27 tk_0 (by decide)))
  have mm15 := hst27.2.1
  refine lv_aload_n hx hb gX5_read_2.2.2.1 rfl (lv_at hl 0 rfl) ?_
  refine lv_iconst (v := (-1)) hx hb gX5_read_2.2.2.2.1 (by decide) ?_
  refine th_put hC cf_X5 hB h0 (Or.inl h0) ro_20 rfl (j := 8) rfl th_sIa (by decide) rfl rfl rfl kf_X5_40 gX5_read_2.2.2.2.2.1 (fun H32 locs hB hf hst32 => ?_)
  have mm16 := (th_F_o hf h0 ro_20 (j := 2) (by decide) (by decide)).trans mm12
  have mm17 := (th_F_o hf h0 ro_20 (j := 3) (by decide) (by decide)).trans mm13
  have mm18 := (th_F_o hf h0 ro_20 (j := 5) (by decide) (by decide)).trans mm14
  have mm19 := (th_F_o hf h0 ro_20 (j := 7) (by decide) (by decide)).trans mm15
  have hR := th_RC_F hB.1 hR hf (th_T_s h0 ro_20 hst32) (by decide)
  replace hF := hF.trans (dv_bn (dv_putI hB.1 h0 ro_20 (j := 8) rfl (th_apart hC cf_X5) hst32 tk_m1 (by decide)))
  have mm20 := hst32.2.1
  refine lv_aload_n hx hb gX5_read_2.2.2.2.2.2.1 rfl (lv_at hl 0 rfl) ?_
  refine th_getK hC cf_X5 hB.1 h0 ro_20 rfl (j := 3) (by decide) mm17 kf_X5_22 gX5_read_2.2.2.2.2.2.2.1 ?_
  replace hF := hF.trans (dv_bn (dv_getR h0 ro_20 (j := 3) rfl mm17 (by decide)))
  refine th_call (th_runV (As := []) (rest := []) hC mf_X10_clear km_X5_43 im_X10_clear se_X10_clear (c_X10_clear l G Γ H32 hB.1 hR hU p2 h2) rfl rfl ⟨Nat.le_of_ble_eq_true rfl, Nat.le_of_ble_eq_true rfl⟩ hB.1 h2 ro_39 rfl rfl hl.1 rfl (Nat.le_of_ble_eq_true rfl) gX5_read_2.2.2.2.2.2.2.2 ⟨Nat.le_refl _, Nat.le_refl _⟩) hB.2.1 (fun v39 H39 locs hp hz hS => ?_)
  obtain ⟨rfl, hI1, hf, hR, z39_0⟩ := hp
  have hB := th_B_c hB hI1 hS hf (by decide)
  have mm21 := (th_F_o hf h0 ro_20 (j := 2) (by decide) (by decide)).trans mm16
  have mm22 := (th_F_o hf h0 ro_20 (j := 3) (by decide) (by decide)).trans mm17
  have mm23 := (th_F_o hf h0 ro_20 (j := 5) (by decide) (by decide)).trans mm18
  have mm24 := (th_F_o hf h0 ro_20 (j := 7) (by decide) (by decide)).trans mm19
  have mm25 := (th_F_o hf h0 ro_20 (j := 8) (by decide) (by decide)).trans mm20
  replace hF := hF.trans (dv_bn2 (z39_0))
  refine W.eq (g2 := F0 m 42 ls []) rfl ?_
  refine lv_aload_n hx hb gX5_read_3.1 rfl (lv_at hl 0 rfl) ?_
  refine th_call (th_runVX (As := []) (rest := []) th_mvZ (th_Z_k hX hB.2.1) hC mf_X5_scan km_X5_48 im_X5_scan se_X5_scan (c_X5_scan l G Γ H39 hB.1 hR hU a0 h0 ⟨_, mm21, h1⟩) rfl rfl ⟨Nat.le_of_ble_eq_true rfl, Nat.le_of_ble_eq_true rfl⟩ hB.1 h0 ro_20 rfl rfl hl.1 rfl (Nat.le_of_ble_eq_true rfl) gX5_read_3.2.1 ⟨Nat.le_refl _, Nat.le_refl _⟩) hB.2.1 (fun v43 H43 locs hp hz hS => ?_)
  obtain ⟨rfl, hI1, hf, hR, z43_0, z43_1⟩ := hp
  have hB := th_B_c hB hI1 hS hf (by decide)
  have mm26 := (th_F_o hf h0 ro_20 (j := 2) (by decide) (by decide)).trans mm21
  have mm27 := (th_F_o hf h0 ro_20 (j := 3) (by decide) (by decide)).trans mm22
  have mm28 := (th_F_o hf h0 ro_20 (j := 5) (by decide) (by decide)).trans mm23
  have mm29 := (th_F_o hf h0 ro_20 (j := 7) (by decide) (by decide)).trans mm24
  have mm30 := (th_F_o hf h0 ro_20 (j := 8) (by decide) (by decide)).trans mm25
  replace hF := hF.trans (dv_bn2 (z43_1))
  refine W.eq (g2 := F0 m 46 ls []) rfl ?_
  have hR : th_RD G Γ H43 := ⟨hR, fun a o ha => by
    have e9 := k1 a a0 o 0 ha h0
    subst e9
    obtain ⟨tb, o9, f9, g1, g2, g3, g4⟩ := z43_0
    exact ⟨tb, o9, f9, 0, g1, g2, g3, g4, mm28, by decide, by have w0 := tk_0; omega⟩⟩
  refine lv_iconst (v := 0) hx hb gX5_read_3.2.2.1 (by decide) ?_
  refine lv_istore (lv' := [(4, .int 0), (0, .ref a0), (1, .ref p1), (2, .ref p2), (3, .int p3)]) hx hb gX5_read_3.2.2.2.1 hl (by decide) rfl (fun ls hl => ?_)
  have lp49 : ∀ (n49 : Nat) (H49 : Heap) (locs : List Loc) (ls : Array Slot) (j49_4 : Int32), th_B G Γ Γ [(20, 5), (20, 6), (20, 7), (20, 8), (40, 0), (39, 2), (41, 0), (39, 3), (21, 0), (22, 0), (20, 2), (20, 3), (20, 4)] H0 H49 locs → th_RD G Γ H49 → lv_has ls 5 [(0, .ref a0), (4, .int j49_4)] → F = dv_lp f_X5_read_49b (dv G Γ H49, (a0 : Int), j49_4.toInt) → 0 ≤ j49_4.toInt → j49_4.toInt ≤ 12 → th_sl H49 a0 (G.1.1.2 5 3) = .ref p2 → th_sl H49 a0 (G.1.1.2 5 7) = .int 0 → (2147483648 : Int) - j49_4.toInt ≤ (n49 : Int) → W p l e ({ frames := 45, cells := 0, slots := 0, locals := 1336 } : Room) s m ([.ref a0, .ref p1, .ref p2, .int p3] : List Value).toArray below meth c H49 locs 0 0 (MQ below (th_Q (fun (v : Option Value) (H1 : Heap) => ∃ r : Int32, v = some (.int r) ∧ th_I G Γ H1 ∧ th_F G Γ [(20, 5), (20, 6), (20, 7), (20, 8), (40, 0), (39, 2), (41, 0), (39, 3), (21, 0), (22, 0), (20, 2), (20, 3), (20, 4)] H0 H1 ∧ th_RC G Γ H1 ∧ (f_X5_read (dv G Γ H0) (a0 : Int) (p1 : Int) (p2 : Int) p3.toInt = (dv G Γ H1, r.toInt))) G) ([.ref a0, .ref p1, .ref p2, .int p3] : List Value).toArray s 0 0 (fun q => G.1.2.2 ≤ q)) (F0 m 49 ls []) := by
    intro n49
    induction n49 with
    | zero => intro H49 locs ls j49_4 hB hR hl hF g49_0 g49_1 g49_2 g49_3 hm49; exact absurd hm49 (by have := ti_hi j49_4; omega)
    | succ n49 ih49 =>
      intro H49 locs ls j49_4 hB hR hl hF g49_0 g49_1 g49_2 g49_3 hm49
      have lj49_4 := ti_lo j49_4; have uj49_4 := ti_hi j49_4
      have hm49 : (2147483648 : Int) - j49_4.toInt ≤ (n49 : Int) + 1 := by omega
      replace hF := hF.trans (dv_lp_eq)
      replace hF := hF.trans (congrArg (dv_k f_X5_read_49b) (f_X5_read_49c.eq_1 (dv G Γ H49) ((a0 : Int)) (j49_4.toInt)))
      refine lv_iload hx hb gX5_read_3.2.2.2.2.1 (lv_at hl 1 rfl) ?_
      refine lv_bipush (v := 12) hx hb gX5_read_3.2.2.2.2.2.1 (by decide) ?_
      have jn105 : ∀ (locs : List Loc) (ls : Array Slot) , th_B G Γ Γ [(20, 5), (20, 6), (20, 7), (20, 8), (40, 0), (39, 2), (41, 0), (39, 3), (21, 0), (22, 0), (20, 2), (20, 3), (20, 4)] H0 H49 locs → lv_has ls 5 [(0, .ref a0)] → F = dv_k f_X5_read_49b (f_X5_read_105 (dv G Γ H49) ((a0 : Int))) → W p l e ({ frames := 45, cells := 0, slots := 0, locals := 1336 } : Room) s m ([.ref a0, .ref p1, .ref p2, .int p3] : List Value).toArray below meth c H49 locs 0 0 (MQ below (th_Q (fun (v : Option Value) (H1 : Heap) => ∃ r : Int32, v = some (.int r) ∧ th_I G Γ H1 ∧ th_F G Γ [(20, 5), (20, 6), (20, 7), (20, 8), (40, 0), (39, 2), (41, 0), (39, 3), (21, 0), (22, 0), (20, 2), (20, 3), (20, 4)] H0 H1 ∧ th_RC G Γ H1 ∧ (f_X5_read (dv G Γ H0) (a0 : Int) (p1 : Int) (p2 : Int) p3.toInt = (dv G Γ H1, r.toInt))) G) ([.ref a0, .ref p1, .ref p2, .int p3] : List Value).toArray s 0 0 (fun q => G.1.2.2 ≤ q)) (F0 m 105 ls []) := by
        intro locs ls hB hl hF
        replace hF := hF.trans (congrArg (dv_k f_X5_read_49b) (f_X5_read_105.eq_1 (dv G Γ H49) ((a0 : Int))))
        refine lv_aload_n hx hb gX5_read_6.2.2.2.2.2.2.2 rfl (lv_at hl 0 rfl) ?_
        refine th_call (th_runV (As := []) (rest := []) hC mf_X5_fail km_X5_58 im_X5_fail se_X5_fail (c_X5_fail l G Γ H49 hB.1 hR hU a0 h0) rfl rfl ⟨Nat.le_of_ble_eq_true rfl, Nat.le_of_ble_eq_true rfl⟩ hB.1 h0 ro_20 rfl rfl hl.1 rfl (Nat.le_of_ble_eq_true rfl) gX5_read_7.1 ⟨Nat.le_refl _, Nat.le_refl _⟩) hB.2.1 (fun v106 H106 locs hp hz hS => ?_)
        obtain ⟨rfl, hI1, hf, hR, z106_0⟩ := hp
        have hB := th_B_c hB hI1 hS hf (by decide)
        have mm31 := (th_F_o hf h0 ro_20 (j := 3) (by decide) (by decide)).trans g49_2
        have mm32 := (th_F_o hf h0 ro_20 (j := 7) (by decide) (by decide)).trans g49_3
        replace hF := hF.trans (congrArg (dv_k f_X5_read_49b) (dv_bn2 (z106_0)))
        refine W.eq (g2 := F0 m 109 ls []) rfl ?_
        refine lv_aload_n hx hb gX5_read_7.2.1 rfl (lv_at hl 0 rfl) ?_
        refine th_getI (j := 8) hC cf_X5 hB.1 h0 ro_20 rfl rfl kf_X5_40 gX5_read_7.2.2.1 (fun x33 mx33 lx33 ux33 => ?_)
        replace hF := hF.trans (congrArg (dv_k f_X5_read_49b) (dv_bn (dv_getI h0 ro_20 (j := 8) rfl mx33 (by decide))))
        replace hF := hF.trans (dv_kr)
        exact th_iret hC hH hr hlocks rfl hB.2.1 ⟨_, rfl, hB.1, hB.2.2, hR.1, (hF0.symm.trans hF)⟩ gX5_read_7.2.2.2
      refine tr_icmp_ge (tgt := 105) hx hb gX5_read_3.2.2.2.2.2.2.1 (by decide) (Eq.refl _) tk_12 (fun c53 => ?_) (fun c53 => ?_)
      · replace hF := hF.trans (congrArg (dv_k f_X5_read_49b) (if_pos c53))
        exact jn105 locs ls hB (lv_sub hl [0] rfl) hF
      · replace hF := hF.trans (congrArg (dv_k f_X5_read_49b) (if_neg (Int.not_le.mpr c53)))
        refine lv_aload_n hx hb gX5_read_3.2.2.2.2.2.2.2 rfl (lv_at hl 0 rfl) ?_
        refine th_getI (j := 8) hC cf_X5 hB.1 h0 ro_20 rfl rfl kf_X5_40 gX5_read_4.1 (fun x34 mx34 lx34 ux34 => ?_)
        replace hF := hF.trans (congrArg (dv_k f_X5_read_49b) (dv_bn (dv_getI h0 ro_20 (j := 8) rfl mx34 (by decide))))
        refine lv_iconst (v := (-1)) hx hb gX5_read_4.2.1 (by decide) ?_
        refine tr_icmp_ne (tgt := 105) hx hb gX5_read_4.2.2.1 (by decide) (Eq.refl _) tk_m1 (fun c61 => ?_) (fun c61 => ?_)
        · replace hF := hF.trans (congrArg (dv_k f_X5_read_49b) (if_pos c61))
          exact jn105 locs ls hB (lv_sub hl [0] rfl) hF
        · replace hF := hF.trans (congrArg (dv_k f_X5_read_49b) (if_neg (not_not_intro c61)))
          refine lv_aload_n hx hb gX5_read_4.2.2.2.1 rfl (lv_at hl 0 rfl) ?_
          refine th_call (th_runV (As := []) (rest := []) hC mf_X5_readClause km_X5_51 im_X5_readClause se_X5_readClause (c_X5_readClause l G Γ H49 hB.1 hR hU a0 h0 ⟨_, g49_2, h2⟩ 0 g49_3 (by decide)) rfl rfl ⟨Nat.le_of_ble_eq_true rfl, Nat.le_of_ble_eq_true rfl⟩ hB.1 h0 ro_20 rfl rfl hl.1 rfl (Nat.le_of_ble_eq_true rfl) gX5_read_4.2.2.2.2.1 ⟨Nat.le_refl _, Nat.le_refl _⟩) hB.2.1 (fun v65 H65 locs hp hz hS => ?_)
          obtain ⟨rfl, hI1, hf, hR, z65_0, z65_1⟩ := hp
          have hB := th_B_c hB hI1 hS hf (by decide)
          have mm35 := (th_F_o hf h0 ro_20 (j := 3) (by decide) (by decide)).trans g49_2
          replace hF := hF.trans (congrArg (dv_k f_X5_read_49b) (dv_bn2 (z65_1)))
          refine W.eq (g2 := F0 m 68 ls []) rfl ?_
          refine lv_aload_n hx hb gX5_read_4.2.2.2.2.2.1 rfl (lv_at hl 0 rfl) ?_
          refine lv_bipush (v := 59) hx hb gX5_read_4.2.2.2.2.2.2.1 (by decide) ?_
          refine th_call (th_runV (As := [.int 59]) (rest := []) hC mf_X5_take km_X5_54 im_X5_take se_X5_take (c_X5_take l G Γ H65 hB.1 hR hU a0 h0 59 (by decide)) rfl rfl ⟨Nat.le_of_ble_eq_true rfl, Nat.le_of_ble_eq_true rfl⟩ hB.1 h0 ro_20 rfl rfl hl.1 rfl (Nat.le_of_ble_eq_true rfl) gX5_read_4.2.2.2.2.2.2.2 ⟨Nat.le_refl _, Nat.le_refl _⟩) hB.2.1 (fun v71 H71 locs hp hz hS => ?_)
          obtain ⟨x36, rfl, lx36, ux36, hI1, hf, hR, z71_0, z71_1⟩ := hp
          have hB := th_B_c hB hI1 hS hf (by decide)
          have mm37 := (th_F_o hf h0 ro_20 (j := 3) (by decide) (by decide)).trans mm35
          have mm38 := (th_F_o hf h0 ro_20 (j := 7) (by decide) (by decide)).trans z65_0
          have zf71 := z71_1
          rw [tk_59] at zf71
          replace hF := hF.trans (congrArg (dv_k f_X5_read_49b) (dv_bn2 (zf71)))
          refine W.eq (g2 := F0 m 74 ls [.int x36]) rfl ?_
          refine tr_if_ne (tgt := 99) hx hb gX5_read_5.1 (by decide) (Eq.refl _) (fun c74 => ?_) (fun c74 => ?_)
          · replace hF := hF.trans (congrArg (dv_k f_X5_read_49b) (if_pos c74))
            refine tr_iinc (fun x39 => [(4, .int x39), (0, .ref a0)]) hx hb gX5_read_6.2.2.2.2.2.1 hl (k := 1) rfl (Eq.refl _) tk_1 (by omega) (by omega) (by decide) (fun _ => rfl) (fun x39 ls ex39 hl => ?_)
            replace hF := hF.trans (congrArg (dv_k f_X5_read_49b) (dv_bn (ex39.symm)))
            refine lv_goto (tgt := 49) hx hb gX5_read_6.2.2.2.2.2.2.1 (by decide) ?_
            replace hF := hF.trans (dv_kl)
            exact ih49 H71 locs ls x39 hB hR (lv_sub hl [1, 0] rfl) hF (by omega) (by omega) mm37 mm38 (by omega)
          · replace hF := hF.trans (congrArg (dv_k f_X5_read_49b) (if_neg (not_not_intro c74)))
            refine lv_aload_n hx hb gX5_read_5.2.1 rfl (lv_at hl 0 rfl) ?_
            refine th_getO (j := 0) (r2 := 21) hC cf_X5 hB.1 h0 ro_20 rfl rfl kf_X5_11 gX5_read_5.2.2.1 (fun b40 mb40 hb40 => ?_)
            refine lv_aload_n hx hb gX5_read_5.2.2.2.1 rfl (lv_at hl 0 rfl) ?_
            refine th_getI (j := 5) hC cf_X5 hB.1 h0 ro_20 rfl rfl kf_X5_30 gX5_read_5.2.2.2.2.1 (fun x41 mx41 lx41 ux41 => ?_)
            obtain ⟨rax41, rbx41⟩ := th_RI_at (hR.2 _ _ h0) mx41
            replace hF := hF.trans (congrArg (dv_k f_X5_read_49b) (dv_bn (dv_getI h0 ro_20 (j := 5) rfl mx41 (by decide))))
            refine th_ialdF hC hB.1 hb40 ro_21 rfl (Eq.refl _) (by omega) (by omega) rfl gX5_read_5.2.2.2.2.2.1 (fun x42 mx42 lx42 ux42 => ?_)
            replace hF := hF.trans (congrArg (dv_k f_X5_read_49b) (dv_bn (dv_aldI hB.1 hU hb40 ow_21 (z := x41.toInt) mx42 (by omega))))
            refine lv_iconst (v := (-1)) hx hb gX5_read_5.2.2.2.2.2.2.1 (by decide) ?_
            refine tr_icmp_eq (tgt := 94) hx hb gX5_read_5.2.2.2.2.2.2.2 (by decide) (Eq.refl _) tk_m1 (fun c87 => ?_) (fun c87 => ?_)
            · replace hF := hF.trans (congrArg (dv_k f_X5_read_49b) (if_pos c87))
              refine lv_aload_n hx hb gX5_read_6.2.2.1 rfl (lv_at hl 0 rfl) ?_
              refine th_getI (j := 8) hC cf_X5 hB.1 h0 ro_20 rfl rfl kf_X5_40 gX5_read_6.2.2.2.1 (fun x43 mx43 lx43 ux43 => ?_)
              replace hF := hF.trans (congrArg (dv_k f_X5_read_49b) (dv_bn (dv_getI h0 ro_20 (j := 8) rfl mx43 (by decide))))
              replace hF := hF.trans (dv_kr)
              exact th_iret hC hH hr hlocks rfl hB.2.1 ⟨_, rfl, hB.1, hB.2.2, hR.1, (hF0.symm.trans hF)⟩ gX5_read_6.2.2.2.2.1
            · replace hF := hF.trans (congrArg (dv_k f_X5_read_49b) (if_neg c87))
              refine lv_aload_n hx hb gX5_read_6.1 rfl (lv_at hl 0 rfl) ?_
              refine th_call (th_runV (As := []) (rest := []) hC mf_X5_fail km_X5_58 im_X5_fail se_X5_fail (c_X5_fail l G Γ H71 hB.1 hR hU a0 h0) rfl rfl ⟨Nat.le_of_ble_eq_true rfl, Nat.le_of_ble_eq_true rfl⟩ hB.1 h0 ro_20 rfl rfl hl.1 rfl (Nat.le_of_ble_eq_true rfl) gX5_read_6.2.1 ⟨Nat.le_refl _, Nat.le_refl _⟩) hB.2.1 (fun v91 H91 locs hp hz hS => ?_)
              obtain ⟨rfl, hI1, hf, hR, z91_0⟩ := hp
              have hB := th_B_c hB hI1 hS hf (by decide)
              have mm44 := (th_F_o hf h0 ro_20 (j := 3) (by decide) (by decide)).trans mm37
              have mm45 := (th_F_o hf h0 ro_20 (j := 7) (by decide) (by decide)).trans mm38
              replace hF := hF.trans (congrArg (dv_k f_X5_read_49b) (dv_bn2 (z91_0)))
              refine W.eq (g2 := F0 m 94 ls []) rfl ?_
              refine lv_aload_n hx hb gX5_read_6.2.2.1 rfl (lv_at hl 0 rfl) ?_
              refine th_getI (j := 8) hC cf_X5 hB.1 h0 ro_20 rfl rfl kf_X5_40 gX5_read_6.2.2.2.1 (fun x46 mx46 lx46 ux46 => ?_)
              replace hF := hF.trans (congrArg (dv_k f_X5_read_49b) (dv_bn (dv_getI h0 ro_20 (j := 8) rfl mx46 (by decide))))
              replace hF := hF.trans (dv_kr)
              exact th_iret hC hH hr hlocks rfl hB.2.1 ⟨_, rfl, hB.1, hB.2.2, hR.1, (hF0.symm.trans hF)⟩ gX5_read_6.2.2.2.2.1
  exact lp49 ((2147483648 : Int) - (0)).toNat H43 locs ls 0 hB hR (lv_sub hl [1, 0] rfl) (by rw [tk_0]; exact hF) (by decide) (by decide) mm27 mm29 (by have w0 := tk_0; omega)
end
section
set_option maxHeartbeats 4000000 in
set_option maxRecDepth 100000 in
theorem c_X11_law (l : Launch) (G : th_G) (Γ : th_Ga) (H0 : Heap) (hI : th_I G Γ H0) (hR : th_RC G Γ H0) (hU : dv_U Γ) (a0 : Nat) (h0 : Γ a0 = (42, 0)) (k1 : ∀ a a1 o o1 : Nat, Γ a = (20, o) → Γ a1 = (20, o1) → a = a1) : Met l yX11_law (.code yX11_law cX11_law 1 (some FieldType.int) :: th_tb) ({ frames := 46, cells := 0, slots := 0, locals := 1360 } : Room) (th_PX [.ref a0] G H0 (fun U => th_Z G U H0)) (th_Q (fun (v : Option Value) (H1 : Heap) => ∃ r : Int32, v = some (.int r) ∧ th_I G Γ H1 ∧ th_F G Γ [(45, 0), (42, 14), (20, 5), (20, 6), (20, 7), (20, 8), (40, 0), (39, 2), (41, 0), (39, 3), (21, 0), (22, 0), (20, 2), (20, 3), (20, 4), (37, 1), (42, 15), (32, 5)] H0 H1 ∧ th_RC G Γ H1 ∧ (f_X11_law (dv G Γ H0) (a0 : Int) = (dv G Γ H1, r.toInt))) G) 0 0 (fun q => G.1.2.2 ≤ q) := by
  refine th_metX RX11 (by decide) rfl (Nat.le_of_ble_eq_true rfl) ?_
  intro p e s m below meth c hC hX hH hr hlocks hnm ls hl
  have hx := hC.1
  have hb := hC.2.1
  have hB : th_B G Γ Γ [(45, 0), (42, 14), (20, 5), (20, 6), (20, 7), (20, 8), (40, 0), (39, 2), (41, 0), (39, 3), (21, 0), (22, 0), (20, 2), (20, 3), (20, 4), (37, 1), (42, 15), (32, 5)] H0 H0 [] := ⟨hI, va_S.rf, th_F_rf⟩
  have hl : lv_has ls 1 [(0, .ref a0)] := hl
  obtain ⟨F, hF0⟩ : ∃ F, F = f_X11_law (dv G Γ H0) ((a0 : Int)) := ⟨_, rfl⟩
  have hF := hF0.trans (f_X11_law.eq_1 (dv G Γ H0) ((a0 : Int)))
  refine lv_aload_n hx hb gX11_law_0.1 rfl (lv_at hl 0 rfl) ?_
  refine th_getR (j := 0) (r2 := 32) hC cf_X11 hB.1 h0 ro_42 rfl rfl kf_X11_12 gX11_law_0.2.1 (fun b1 mb1 hb1 => ?_)
  replace hF := hF.trans (dv_bn (dv_getR h0 ro_42 (j := 0) rfl mb1 (by decide)))
  refine th_getI (j := 5) hC cf_X8 hB.1 hb1 ro_32 rfl rfl kf_X11_196 gX11_law_0.2.2.1 (fun x2 mx2 lx2 ux2 => ?_)
  replace hF := hF.trans (dv_bn (dv_getI hb1 ro_32 (j := 5) rfl mx2 (by decide)))
  refine lv_bipush (v := 6) hx hb gX11_law_0.2.2.2.1 (by decide) ?_
  refine tr_icmp_lt (tgt := 27) hx hb gX11_law_0.2.2.2.2.1 (by decide) (Eq.refl _) tk_6 (fun c9 => ?_) (fun c9 => ?_)
  · replace hF := hF.trans (if_pos c9)
    refine lv_aload_n hx hb gX11_law_1.2.2.2.2.2.1 rfl (lv_at hl 0 rfl) ?_
    refine lv_aload_n hx hb gX11_law_1.2.2.2.2.2.2.1 rfl (lv_at hl 0 rfl) ?_
    refine th_getR (j := 6) (r2 := 20) hC cf_X11 hB.1 h0 ro_42 rfl rfl kf_X11_44 gX11_law_1.2.2.2.2.2.2.2 (fun b3 mb3 hb3 => ?_)
    replace hF := hF.trans (dv_bn (dv_getR h0 ro_42 (j := 6) rfl mb3 (by decide)))
    refine lv_aload_n hx hb gX11_law_2.1 rfl (lv_at hl 0 rfl) ?_
    refine th_getR (j := 5) (r2 := 37) hC cf_X11 hB.1 h0 ro_42 rfl rfl kf_X11_37 gX11_law_2.2.1 (fun b4 mb4 hb4 => ?_)
    replace hF := hF.trans (dv_bn (dv_getR h0 ro_42 (j := 5) rfl mb4 (by decide)))
    refine lv_aload_n hx hb gX11_law_2.2.2.1 rfl (lv_at hl 0 rfl) ?_
    refine th_getK hC cf_X11 hB.1 h0 ro_42 rfl (j := 0) (by decide) mb1 kf_X11_12 gX11_law_2.2.2.2.1 ?_
    replace hF := hF.trans (dv_bn (dv_getR h0 ro_42 (j := 0) rfl mb1 (by decide)))
    refine th_getO (j := 1) (r2 := 33) hC cf_X8 hB.1 hb1 ro_32 rfl rfl kf_X11_199 gX11_law_2.2.2.2.2.1 (fun b5 mb5 hb5 => ?_)
    refine lv_aload_n hx hb gX11_law_2.2.2.2.2.2.1 rfl (lv_at hl 0 rfl) ?_
    refine th_getK hC cf_X11 hB.1 h0 ro_42 rfl (j := 0) (by decide) mb1 kf_X11_12 gX11_law_2.2.2.2.2.2.2.1 ?_
    replace hF := hF.trans (dv_bn (dv_getR h0 ro_42 (j := 0) rfl mb1 (by decide)))
    refine th_getK hC cf_X8 hB.1 hb1 ro_32 rfl (j := 5) (by decide) mx2 kf_X11_196 gX11_law_2.2.2.2.2.2.2.2 ?_
    replace hF := hF.trans (dv_bn (dv_getI hb1 ro_32 (j := 5) rfl mx2 (by decide)))
    refine th_aaldF (r2 := 39) hC hB.1 hb5 ro_33 rfl (Eq.refl _) (by omega) (by omega) rfl gX11_law_3.1 (fun b6 mb6 hb6 => ?_)
    replace hF := hF.trans (dv_bn (dv_aldR hB.1 hU hb5 ow_33 (z := x2.toInt) mb6 (by omega)))
    refine lv_iconst (v := 0) hx hb gX11_law_3.2.1 (by decide) ?_
    refine th_call (th_runVX (As := [.ref b4, .ref b6, .int 0]) (rest := [.ref a0]) th_mvZ (th_Z_k hX hB.2.1) hC mf_X5_read km_X11_203 im_X5_read se_X5_read (c_X5_read l G Γ H0 hB.1 hR hU b3 hb3 b4 hb4 b6 hb6 0 (by decide) (by decide) k1) rfl rfl ⟨Nat.le_of_ble_eq_true rfl, Nat.le_of_ble_eq_true rfl⟩ hB.1 hb3 ro_20 rfl rfl hl.1 rfl (Nat.le_of_ble_eq_true rfl) gX11_law_3.2.2.1 ⟨Nat.le_refl _, Nat.le_refl _⟩) hB.2.1 (fun v52 H52 locs hp hz hS => ?_)
    obtain ⟨x7, rfl, hI1, hf, hR, z52_0⟩ := hp
    have hB := th_B_c hB hI1 hS hf (by decide)
    have mm8 := (th_F_o hf h0 ro_42 (j := 0) (by decide) (by decide)).trans mb1
    have mm9 := (th_F_o hf hb1 ro_32 (j := 5) (by decide) (by decide)).trans mx2
    have mm10 := (th_F_o hf h0 ro_42 (j := 5) (by decide) (by decide)).trans mb4
    have zf52 := z52_0
    rw [tk_0] at zf52
    replace hF := hF.trans (dv_bn2 (zf52))
    refine W.eq (g2 := F0 m 55 ls [.int x7, .ref a0]) rfl ?_
    refine th_put hC cf_X11 hB h0 (Or.inl h0) ro_42 rfl (j := 15) rfl th_sIa (by decide) rfl rfl rfl kf_X11_98 gX11_law_3.2.2.2.1 (fun H55 locs hB hf hst55 => ?_)
    have mm11 := (th_F_o hf h0 ro_42 (j := 0) (by decide) (by decide)).trans mm8
    have mm12 := (th_F_o hf hb1 ro_32 (j := 5) (by decide) (by decide)).trans mm9
    have mm13 := (th_F_o hf h0 ro_42 (j := 5) (by decide) (by decide)).trans mm10
    have hR := th_RC_F hB.1 hR hf (th_T_s h0 ro_42 hst55) (by decide)
    replace hF := hF.trans (dv_bn (dv_putI hB.1 h0 ro_42 (j := 15) rfl (th_apart hC cf_X11) hst55 (Eq.refl _) (by decide)))
    have mm14 := hst55.2.1
    refine lv_aload_n hx hb gX11_law_3.2.2.2.2.1 rfl (lv_at hl 0 rfl) ?_
    refine th_getK hC cf_X11 hB.1 h0 ro_42 rfl (j := 5) (by decide) mm13 kf_X11_37 gX11_law_3.2.2.2.2.2.1 ?_
    replace hF := hF.trans (dv_bn (dv_getR h0 ro_42 (j := 5) rfl mm13 (by decide)))
    refine lv_iconst (v := 0) hx hb gX11_law_3.2.2.2.2.2.2.1 (by decide) ?_
    refine th_put hC cf_X9 hB hb4 (Or.inl hb4) ro_37 rfl (j := 1) rfl (th_sI (by decide) (by decide)) (by decide) rfl rfl rfl kf_X11_186 gX11_law_3.2.2.2.2.2.2.2 (fun H63 locs hB hf hst63 => ?_)
    have mm15 := (th_F_o hf h0 ro_42 (j := 0) (by decide) (by decide)).trans mm11
    have mm16 := (th_F_o hf hb1 ro_32 (j := 5) (by decide) (by decide)).trans mm12
    have mm17 := (th_F_o hf h0 ro_42 (j := 5) (by decide) (by decide)).trans mm13
    have mm18 := (th_F_o hf h0 ro_42 (j := 15) (by decide) (by decide)).trans mm14
    have hR := th_RC_F hB.1 hR hf (th_T_s hb4 ro_37 hst63) (by decide)
    replace hF := hF.trans (dv_bn (dv_putI hB.1 hb4 ro_37 (j := 1) rfl (th_apart hC cf_X9) hst63 tk_0 (by decide)))
    refine lv_aload_n hx hb gX11_law_4.1 rfl (lv_at hl 0 rfl) ?_
    refine th_getK hC cf_X11 hB.1 h0 ro_42 rfl (j := 15) (by decide) mm18 kf_X11_98 gX11_law_4.2.1 ?_
    replace hF := hF.trans (dv_bn (dv_getI h0 ro_42 (j := 15) rfl mm18 (by decide)))
    refine lv_iconst (v := (-1)) hx hb gX11_law_4.2.2.1 (by decide) ?_
    refine tr_icmp_eq (tgt := 81) hx hb gX11_law_4.2.2.2.1 (by decide) (Eq.refl _) tk_m1 (fun c71 => ?_) (fun c71 => ?_)
    · replace hF := hF.trans (if_pos c71)
      refine lv_aload_n hx hb gX11_law_5.1 rfl (lv_at hl 0 rfl) ?_
      refine th_getK hC cf_X11 hB.1 h0 ro_42 rfl (j := 0) (by decide) mm15 kf_X11_12 gX11_law_5.2.1 ?_
      replace hF := hF.trans (dv_bn (dv_getR h0 ro_42 (j := 0) rfl mm15 (by decide)))
      refine lv_dup hx hb gX11_law_5.2.2.1 rfl ?_
      refine th_getK hC cf_X8 hB.1 hb1 ro_32 rfl (j := 5) (by decide) mm16 kf_X11_196 gX11_law_5.2.2.2.1 ?_
      replace hF := hF.trans (dv_bn (dv_getI hb1 ro_32 (j := 5) rfl mm16 (by decide)))
      refine lv_iconst (v := 1) hx hb gX11_law_5.2.2.2.2.1 (by decide) ?_
      refine tr_iadd hx hb gX11_law_5.2.2.2.2.2.1 (Eq.refl _) tk_1 (by omega) (by omega) (fun x19 ex19 => ?_)
      replace hF := hF.trans (dv_bn (ex19.symm))
      refine th_put hC cf_X8 hB hb1 (Or.inl hb1) ro_32 rfl (j := 5) rfl (th_sI (by omega) (by omega)) (by decide) rfl rfl rfl kf_X11_196 gX11_law_5.2.2.2.2.2.2.1 (fun H91 locs hB hf hst91 => ?_)
      have mm20 := (th_F_o hf h0 ro_42 (j := 0) (by decide) (by decide)).trans mm15
      have mm21 := (th_F_o hf h0 ro_42 (j := 5) (by decide) (by decide)).trans mm17
      have mm22 := (th_F_o hf h0 ro_42 (j := 15) (by decide) (by decide)).trans mm18
      have hR := th_RC_F hB.1 hR hf (th_T_s hb1 ro_32 hst91) (by decide)
      replace hF := hF.trans (dv_bn (dv_putI hB.1 hb1 ro_32 (j := 5) rfl (th_apart hC cf_X8) hst91 (Eq.refl _) (by decide)))
      have mm23 := hst91.2.1
      refine lv_aload_n hx hb gX11_law_5.2.2.2.2.2.2.2 rfl (lv_at hl 0 rfl) ?_
      refine lv_aload_n hx hb gX11_law_6.1 rfl (lv_at hl 0 rfl) ?_
      refine th_getK hC cf_X11 hB.1 h0 ro_42 rfl (j := 0) (by decide) mm20 kf_X11_12 gX11_law_6.2.1 ?_
      replace hF := hF.trans (dv_bn (dv_getR h0 ro_42 (j := 0) rfl mm20 (by decide)))
      refine th_getK hC cf_X8 hB.1 hb1 ro_32 rfl (j := 5) (by decide) mm23 kf_X11_196 gX11_law_6.2.2.1 ?_
      replace hF := hF.trans (dv_bn (dv_getI hb1 ro_32 (j := 5) rfl mm23 (by decide)))
      refine lv_iconst (v := 1) hx hb gX11_law_6.2.2.2.1 (by decide) ?_
      refine tr_isub hx hb gX11_law_6.2.2.2.2.1 (Eq.refl _) tk_1 (by omega) (by omega) (fun x24 ex24 => ?_)
      replace hF := hF.trans (dv_bn (ex24.symm))
      refine th_call (th_runV (As := [.int x24]) (rest := []) hC mf_X11_answer km_X11_117 im_X11_answer se_X11_answer (c_X11_answer l G Γ H91 hB.1 hR hU a0 h0 x24) rfl rfl ⟨Nat.le_of_ble_eq_true rfl, Nat.le_of_ble_eq_true rfl⟩ hB.1 h0 ro_42 rfl rfl hl.1 rfl (Nat.le_of_ble_eq_true rfl) gX11_law_6.2.2.2.2.2.1 ⟨Nat.le_refl _, Nat.le_refl _⟩) hB.2.1 (fun v104 H104 locs hp hz hS => ?_)
      obtain ⟨x25, rfl, q104_0, hI1, hf, hR, z104_0⟩ := hp
      have hB := th_B_c hB hI1 hS hf (by decide)
      have mm26 := (th_F_o hf h0 ro_42 (j := 0) (by decide) (by decide)).trans mm20
      have mm27 := (th_F_o hf h0 ro_42 (j := 5) (by decide) (by decide)).trans mm21
      have mm28 := (th_F_o hf h0 ro_42 (j := 15) (by decide) (by decide)).trans mm22
      have mm29 := (th_F_o hf hb1 ro_32 (j := 5) (by decide) (by decide)).trans mm23
      replace hF := hF.trans (dv_bn2 (z104_0))
      refine W.eq (g2 := F0 m 107 ls [.int x25]) rfl ?_
      exact th_iret hC hH hr hlocks rfl hB.2.1 ⟨_, rfl, hB.1, hB.2.2, hR, (hF0.symm.trans hF)⟩ gX11_law_6.2.2.2.2.2.2
    · replace hF := hF.trans (if_neg c71)
      refine lv_aload_n hx hb gX11_law_4.2.2.2.2.1 rfl (lv_at hl 0 rfl) ?_
      refine lv_bipush (v := (-6)) hx hb gX11_law_4.2.2.2.2.2.1 (by decide) ?_
      refine th_call (th_runV (As := [.int (-6)]) (rest := []) hC mf_X11_answer km_X11_117 im_X11_answer se_X11_answer (c_X11_answer l G Γ H63 hB.1 hR hU a0 h0 (-6)) rfl rfl ⟨Nat.le_of_ble_eq_true rfl, Nat.le_of_ble_eq_true rfl⟩ hB.1 h0 ro_42 rfl rfl hl.1 rfl (Nat.le_of_ble_eq_true rfl) gX11_law_4.2.2.2.2.2.2.1 ⟨Nat.le_refl _, Nat.le_refl _⟩) hB.2.1 (fun v77 H77 locs hp hz hS => ?_)
      obtain ⟨x30, rfl, q77_0, hI1, hf, hR, z77_0⟩ := hp
      have hB := th_B_c hB hI1 hS hf (by decide)
      have mm31 := (th_F_o hf h0 ro_42 (j := 0) (by decide) (by decide)).trans mm15
      have mm32 := (th_F_o hf hb1 ro_32 (j := 5) (by decide) (by decide)).trans mm16
      have mm33 := (th_F_o hf h0 ro_42 (j := 5) (by decide) (by decide)).trans mm17
      have mm34 := (th_F_o hf h0 ro_42 (j := 15) (by decide) (by decide)).trans mm18
      have w77_0 := tk_m6
      have zf77 := z77_0
      rw [tk_m6] at zf77
      replace hF := hF.trans (dv_bn2 (zf77))
      refine W.eq (g2 := F0 m 80 ls [.int x30]) rfl ?_
      exact th_iret hC hH hr hlocks rfl hB.2.1 ⟨_, rfl, hB.1, hB.2.2, hR, (hF0.symm.trans hF)⟩ gX11_law_4.2.2.2.2.2.2.2
  · replace hF := hF.trans (if_neg (Int.not_lt.mpr c9))
    refine lv_aload_n hx hb gX11_law_0.2.2.2.2.2.1 rfl (lv_at hl 0 rfl) ?_
    refine th_getR (j := 5) (r2 := 37) hC cf_X11 hB.1 h0 ro_42 rfl rfl kf_X11_37 gX11_law_0.2.2.2.2.2.2.1 (fun b35 mb35 hb35 => ?_)
    replace hF := hF.trans (dv_bn (dv_getR h0 ro_42 (j := 5) rfl mb35 (by decide)))
    refine lv_iconst (v := 0) hx hb gX11_law_0.2.2.2.2.2.2.2 (by decide) ?_
    refine th_put hC cf_X9 hB hb35 (Or.inl hb35) ro_37 rfl (j := 1) rfl (th_sI (by decide) (by decide)) (by decide) rfl rfl rfl kf_X11_186 gX11_law_1.1 (fun H17 locs hB hf hst17 => ?_)
    have mm36 := (th_F_o hf h0 ro_42 (j := 0) (by decide) (by decide)).trans mb1
    have mm37 := (th_F_o hf hb1 ro_32 (j := 5) (by decide) (by decide)).trans mx2
    have hR := th_RC_F hB.1 hR hf (th_T_s hb35 ro_37 hst17) (by decide)
    replace hF := hF.trans (dv_bn (dv_putI hB.1 hb35 ro_37 (j := 1) rfl (th_apart hC cf_X9) hst17 tk_0 (by decide)))
    refine lv_aload_n hx hb gX11_law_1.2.1 rfl (lv_at hl 0 rfl) ?_
    refine lv_bipush (v := (-5)) hx hb gX11_law_1.2.2.1 (by decide) ?_
    refine th_call (th_runV (As := [.int (-5)]) (rest := []) hC mf_X11_answer km_X11_117 im_X11_answer se_X11_answer (c_X11_answer l G Γ H17 hB.1 hR hU a0 h0 (-5)) rfl rfl ⟨Nat.le_of_ble_eq_true rfl, Nat.le_of_ble_eq_true rfl⟩ hB.1 h0 ro_42 rfl rfl hl.1 rfl (Nat.le_of_ble_eq_true rfl) gX11_law_1.2.2.2.1 ⟨Nat.le_refl _, Nat.le_refl _⟩) hB.2.1 (fun v23 H23 locs hp hz hS => ?_)
    obtain ⟨x38, rfl, q23_0, hI1, hf, hR, z23_0⟩ := hp
    have hB := th_B_c hB hI1 hS hf (by decide)
    have mm39 := (th_F_o hf h0 ro_42 (j := 0) (by decide) (by decide)).trans mm36
    have mm40 := (th_F_o hf hb1 ro_32 (j := 5) (by decide) (by decide)).trans mm37
    have w23_0 := tk_m5
    have zf23 := z23_0
    rw [tk_m5] at zf23
    replace hF := hF.trans (dv_bn2 (zf23))
    refine W.eq (g2 := F0 m 26 ls [.int x38]) rfl ?_
    exact th_iret hC hH hr hlocks rfl hB.2.1 ⟨_, rfl, hB.1, hB.2.2, hR, (hF0.symm.trans hF)⟩ gX11_law_1.2.2.2.2.1

set_option maxHeartbeats 4000000 in
set_option maxRecDepth 100000 in
theorem c_X11_orders (l : Launch) (G : th_G) (Γ : th_Ga) (H0 : Heap) (hI : th_I G Γ H0) (hR : th_RC G Γ H0) (hU : dv_U Γ) (a0 : Nat) (h0 : Γ a0 = (42, 0)) (k1 : ∀ a a1 o o1 : Nat, Γ a = (20, o) → Γ a1 = (20, o1) → a = a1) : Met l yX11_orders (.code yX11_orders cX11_orders 4 (some FieldType.int) :: th_tb) ({ frames := 46, cells := 0, slots := 0, locals := 1360 } : Room) (th_PX [.ref a0] G H0 (fun U => th_Z G U H0)) (th_Q (fun (v : Option Value) (H1 : Heap) => ∃ r : Int32, v = some (.int r) ∧ th_I G Γ H1 ∧ th_F G Γ [(45, 0), (42, 14), (20, 5), (20, 6), (20, 7), (20, 8), (40, 0), (39, 2), (41, 0), (39, 3), (21, 0), (22, 0), (20, 2), (20, 3), (20, 4), (37, 1), (42, 15), (42, 17), (24, 0), (23, 3), (26, 0), (25, 0), (18, 0), (17, 4), (4, 0), (5, 0), (6, 0), (9, 0), (3, 7), (3, 8), (3, 9), (3, 10), (7, 0), (8, 0), (19, 0), (17, 3)] H0 H1 ∧ th_RC G Γ H1 ∧ (f_X11_orders (dv G Γ H0) (a0 : Int) = (dv G Γ H1, r.toInt))) G) 0 0 (fun q => G.1.2.2 ≤ q) := by
  refine th_metX RX11 (by decide) rfl (Nat.le_of_ble_eq_true rfl) ?_
  intro p e s m below meth c hC hX hH hr hlocks hnm ls hl
  have hx := hC.1
  have hb := hC.2.1
  have hB : th_B G Γ Γ [(45, 0), (42, 14), (20, 5), (20, 6), (20, 7), (20, 8), (40, 0), (39, 2), (41, 0), (39, 3), (21, 0), (22, 0), (20, 2), (20, 3), (20, 4), (37, 1), (42, 15), (42, 17), (24, 0), (23, 3), (26, 0), (25, 0), (18, 0), (17, 4), (4, 0), (5, 0), (6, 0), (9, 0), (3, 7), (3, 8), (3, 9), (3, 10), (7, 0), (8, 0), (19, 0), (17, 3)] H0 H0 [] := ⟨hI, va_S.rf, th_F_rf⟩
  have hl : lv_has ls 4 [(0, .ref a0)] := hl
  obtain ⟨F, hF0⟩ : ∃ F, F = f_X11_orders (dv G Γ H0) ((a0 : Int)) := ⟨_, rfl⟩
  have hF := hF0.trans (f_X11_orders.eq_1 (dv G Γ H0) ((a0 : Int)))
  refine lv_aload_n hx hb gX11_orders_0.1 rfl (lv_at hl 0 rfl) ?_
  refine lv_iconst (v := (-1)) hx hb gX11_orders_0.2.1 (by decide) ?_
  refine th_put hC cf_X11 hB h0 (Or.inl h0) ro_42 rfl (j := 17) rfl th_sIa (by decide) rfl rfl rfl kf_X11_104 gX11_orders_0.2.2.1 (fun H2 locs hB hf hst2 => ?_)
  have hR := th_RC_F hB.1 hR hf (th_T_s h0 ro_42 hst2) (by decide)
  replace hF := hF.trans (dv_bn (dv_putI hB.1 h0 ro_42 (j := 17) rfl (th_apart hC cf_X11) hst2 tk_m1 (by decide)))
  refine lv_aload_n hx hb gX11_orders_0.2.2.2.1 rfl (lv_at hl 0 rfl) ?_
  refine lv_aload_n hx hb gX11_orders_0.2.2.2.2.1 rfl (lv_at hl 0 rfl) ?_
  refine th_getR (j := 6) (r2 := 20) hC cf_X11 hB.1 h0 ro_42 rfl rfl kf_X11_44 gX11_orders_0.2.2.2.2.2.1 (fun b1 mb1 hb1 => ?_)
  replace hF := hF.trans (dv_bn (dv_getR h0 ro_42 (j := 6) rfl mb1 (by decide)))
  refine lv_aload_n hx hb gX11_orders_0.2.2.2.2.2.2.1 rfl (lv_at hl 0 rfl) ?_
  refine th_getR (j := 5) (r2 := 37) hC cf_X11 hB.1 h0 ro_42 rfl rfl kf_X11_37 gX11_orders_0.2.2.2.2.2.2.2 (fun b2 mb2 hb2 => ?_)
  replace hF := hF.trans (dv_bn (dv_getR h0 ro_42 (j := 5) rfl mb2 (by decide)))
  have sb2 := (th_F_o hB.2.2 h0 ro_42 (j := 5) (by decide) (by decide)).symm.trans mb2
  refine lv_aload_n hx hb gX11_orders_1.1 rfl (lv_at hl 0 rfl) ?_
  refine th_getR (j := 7) (r2 := 39) hC cf_X11 hB.1 h0 ro_42 rfl rfl kf_X11_51 gX11_orders_1.2.1 (fun b3 mb3 hb3 => ?_)
  replace hF := hF.trans (dv_bn (dv_getR h0 ro_42 (j := 7) rfl mb3 (by decide)))
  have sb3 := (th_F_o hB.2.2 h0 ro_42 (j := 7) (by decide) (by decide)).symm.trans mb3
  refine lv_iconst (v := 1) hx hb gX11_orders_1.2.2.1 (by decide) ?_
  refine th_call (th_runVX (As := [.ref b2, .ref b3, .int 1]) (rest := [.ref a0]) th_mvZ (th_Z_k hX hB.2.1) hC mf_X5_read km_X11_203 im_X5_read se_X5_read (c_X5_read l G Γ H2 hB.1 hR hU b1 hb1 b2 hb2 b3 hb3 1 (by decide) (by decide) k1) rfl rfl ⟨Nat.le_of_ble_eq_true rfl, Nat.le_of_ble_eq_true rfl⟩ hB.1 hb1 ro_20 rfl rfl hl.1 rfl (Nat.le_of_ble_eq_true rfl) gX11_orders_1.2.2.2.1 ⟨Nat.le_refl _, Nat.le_refl _⟩) hB.2.1 (fun v19 H19 locs hp hz hS => ?_)
  obtain ⟨x4, rfl, hI1, hf, hR, z19_0⟩ := hp
  have hB := th_B_c hB hI1 hS hf (by decide)
  have mm5 := (th_F_o hf h0 ro_42 (j := 5) (by decide) (by decide)).trans mb2
  have mm6 := (th_F_o hf h0 ro_42 (j := 7) (by decide) (by decide)).trans mb3
  have zf19 := z19_0
  rw [tk_1] at zf19
  replace hF := hF.trans (dv_bn2 (zf19))
  refine W.eq (g2 := F0 m 22 ls [.int x4, .ref a0]) rfl ?_
  refine th_put hC cf_X11 hB h0 (Or.inl h0) ro_42 rfl (j := 15) rfl th_sIa (by decide) rfl rfl rfl kf_X11_98 gX11_orders_1.2.2.2.2.1 (fun H22 locs hB hf hst22 => ?_)
  have mm7 := (th_F_o hf h0 ro_42 (j := 5) (by decide) (by decide)).trans mm5
  have mm8 := (th_F_o hf h0 ro_42 (j := 7) (by decide) (by decide)).trans mm6
  have hR := th_RC_F hB.1 hR hf (th_T_s h0 ro_42 hst22) (by decide)
  replace hF := hF.trans (dv_bn (dv_putI hB.1 h0 ro_42 (j := 15) rfl (th_apart hC cf_X11) hst22 (Eq.refl _) (by decide)))
  have mm9 := hst22.2.1
  refine lv_aload_n hx hb gX11_orders_1.2.2.2.2.2.1 rfl (lv_at hl 0 rfl) ?_
  refine th_getK hC cf_X11 hB.1 h0 ro_42 rfl (j := 5) (by decide) mm7 kf_X11_37 gX11_orders_1.2.2.2.2.2.2.1 ?_
  replace hF := hF.trans (dv_bn (dv_getR h0 ro_42 (j := 5) rfl mm7 (by decide)))
  refine lv_iconst (v := 0) hx hb gX11_orders_1.2.2.2.2.2.2.2 (by decide) ?_
  refine th_put hC cf_X9 hB hb2 (Or.inl hb2) ro_37 rfl (j := 1) rfl (th_sI (by decide) (by decide)) (by decide) rfl rfl rfl kf_X11_186 gX11_orders_2.1 (fun H30 locs hB hf hst30 => ?_)
  have mm10 := (th_F_o hf h0 ro_42 (j := 5) (by decide) (by decide)).trans mm7
  have mm11 := (th_F_o hf h0 ro_42 (j := 7) (by decide) (by decide)).trans mm8
  have mm12 := (th_F_o hf h0 ro_42 (j := 15) (by decide) (by decide)).trans mm9
  have hR := th_RC_F hB.1 hR hf (th_T_s hb2 ro_37 hst30) (by decide)
  replace hF := hF.trans (dv_bn (dv_putI hB.1 hb2 ro_37 (j := 1) rfl (th_apart hC cf_X9) hst30 tk_0 (by decide)))
  refine lv_aload_n hx hb gX11_orders_2.2.1 rfl (lv_at hl 0 rfl) ?_
  refine th_getK hC cf_X11 hB.1 h0 ro_42 rfl (j := 15) (by decide) mm12 kf_X11_98 gX11_orders_2.2.2.1 ?_
  replace hF := hF.trans (dv_bn (dv_getI h0 ro_42 (j := 15) rfl mm12 (by decide)))
  refine lv_iconst (v := (-1)) hx hb gX11_orders_2.2.2.2.1 (by decide) ?_
  refine tr_icmp_eq (tgt := 48) hx hb gX11_orders_2.2.2.2.2.1 (by decide) (Eq.refl _) tk_m1 (fun c38 => ?_) (fun c38 => ?_)
  · replace hF := hF.trans (if_pos c38)
    refine lv_aload_n hx hb gX11_orders_3.2.1 rfl (lv_at hl 0 rfl) ?_
    refine th_getR (j := 10) (r2 := 17) hC cf_X11 hB.1 h0 ro_42 rfl rfl kf_X11_72 gX11_orders_3.2.2.1 (fun b13 mb13 hb13 => ?_)
    replace hF := hF.trans (dv_bn (dv_getR h0 ro_42 (j := 10) rfl mb13 (by decide)))
    have sb13 := (th_F_o hB.2.2 h0 ro_42 (j := 10) (by decide) (by decide)).symm.trans mb13
    refine lv_aload_n hx hb gX11_orders_3.2.2.2.1 rfl (lv_at hl 0 rfl) ?_
    refine th_getR (j := 0) (r2 := 32) hC cf_X11 hB.1 h0 ro_42 rfl rfl kf_X11_12 gX11_orders_3.2.2.2.2.1 (fun b14 mb14 hb14 => ?_)
    replace hF := hF.trans (dv_bn (dv_getR h0 ro_42 (j := 0) rfl mb14 (by decide)))
    have sb14 := (th_F_o hB.2.2 h0 ro_42 (j := 0) (by decide) (by decide)).symm.trans mb14
    refine th_getR (j := 0) (r2 := 3) hC cf_X8 hB.1 hb14 ro_32 rfl rfl kf_X11_107 gX11_orders_3.2.2.2.2.2.1 (fun b15 mb15 hb15 => ?_)
    replace hF := hF.trans (dv_bn (dv_getR hb14 ro_32 (j := 0) rfl mb15 (by decide)))
    have sb15 := (th_F_o hB.2.2 hb14 ro_32 (j := 0) (by decide) (by decide)).symm.trans mb15
    refine th_call (th_runV (As := [.ref b15]) (rest := []) hC mf_X4_save km_X11_207 im_X4_save se_X4_save (c_X4_save l G Γ H30 hB.1 hR hU b13 hb13 b15 hb15) rfl rfl ⟨Nat.le_of_ble_eq_true rfl, Nat.le_of_ble_eq_true rfl⟩ hB.1 hb13 ro_17 rfl rfl hl.1 rfl (Nat.le_of_ble_eq_true rfl) gX11_orders_3.2.2.2.2.2.2.1 ⟨Nat.le_refl _, Nat.le_refl _⟩) hB.2.1 (fun v59 H59 locs hp hz hS => ?_)
    obtain ⟨rfl, hI1, hf, hR, z59_0⟩ := hp
    have hB := th_B_c hB hI1 hS hf (by decide)
    have mm16 := (th_F_o hf h0 ro_42 (j := 5) (by decide) (by decide)).trans mm10
    have mm17 := (th_F_o hf h0 ro_42 (j := 7) (by decide) (by decide)).trans mm11
    have mm18 := (th_F_o hf h0 ro_42 (j := 15) (by decide) (by decide)).trans mm12
    have mm19 := (th_F_o hf h0 ro_42 (j := 10) (by decide) (by decide)).trans mb13
    have mm20 := (th_F_o hf h0 ro_42 (j := 0) (by decide) (by decide)).trans mb14
    have mm21 := (th_F_o hf hb14 ro_32 (j := 0) (by decide) (by decide)).trans mb15
    replace hF := hF.trans (dv_bn2 (z59_0))
    refine W.eq (g2 := F0 m 62 ls []) rfl ?_
    refine lv_aload_n hx hb gX11_orders_3.2.2.2.2.2.2.2 rfl (lv_at hl 0 rfl) ?_
    refine th_getR (j := 8) (r2 := 23) hC cf_X11 hB.1 h0 ro_42 rfl rfl kf_X11_58 gX11_orders_4.1 (fun b22 mb22 hb22 => ?_)
    replace hF := hF.trans (dv_bn (dv_getR h0 ro_42 (j := 8) rfl mb22 (by decide)))
    have sb22 := (th_F_o hB.2.2 h0 ro_42 (j := 8) (by decide) (by decide)).symm.trans mb22
    refine th_getO (j := 1) (r2 := 25) hC cf_X6 hB.1 hb22 ro_23 rfl rfl kf_X11_211 gX11_orders_4.2.1 (fun b23 mb23 hb23 => ?_)
    have sb23 := (th_F_o hB.2.2 hb22 ro_23 (j := 1) (by decide) (by decide)).symm.trans mb23
    refine lv_iconst (v := 1) hx hb gX11_orders_4.2.2.1 (by decide) ?_
    refine lv_iconst (v := 0) hx hb gX11_orders_4.2.2.2.1 (by decide) ?_
    have hIo := hB.1
    refine th_iastF hC hB hb23 (Or.inl hb23) ro_25 rfl (by decide) tk_1 (by omega) (by omega) th_sIa gX11_orders_4.2.2.2.2.1 (fun H71 locs hB hf71 hst71 => ?_)
    have hf := hf71
    have mm24 := (th_F_o hf h0 ro_42 (j := 5) (by decide) (by decide)).trans mm16
    have mm25 := (th_F_o hf h0 ro_42 (j := 7) (by decide) (by decide)).trans mm17
    have mm26 := (th_F_o hf h0 ro_42 (j := 15) (by decide) (by decide)).trans mm18
    have mm27 := (th_F_o hf h0 ro_42 (j := 10) (by decide) (by decide)).trans mm19
    have mm28 := (th_F_o hf h0 ro_42 (j := 0) (by decide) (by decide)).trans mm20
    have mm29 := (th_F_o hf hb14 ro_32 (j := 0) (by decide) (by decide)).trans mm21
    have mm30 := (th_F_o hf h0 ro_42 (j := 8) (by decide) (by decide)).trans mb22
    have mm31 := (th_F_o hf hb22 ro_23 (j := 1) (by decide) (by decide)).trans mb23
    have hR := th_RC_F hB.1 hR hf (th_T_s hb23 ro_25 hst71) (by decide)
    replace hF := hF.trans (dv_bn (dv_stoI hIo hB.1 hU hb23 ow_25 (i := 1) hst71 tk_0 (by omega)))
    refine lv_aload_n hx hb gX11_orders_4.2.2.2.2.2.1 rfl (lv_at hl 0 rfl) ?_
    refine th_getK hC cf_X11 hB.1 h0 ro_42 rfl (j := 8) (by decide) mm30 kf_X11_58 gX11_orders_4.2.2.2.2.2.2.1 ?_
    replace hF := hF.trans (dv_bn (dv_getR h0 ro_42 (j := 8) rfl mm30 (by decide)))
    refine th_getK hC cf_X6 hB.1 hb22 ro_23 rfl (j := 1) (by decide) mm31 kf_X11_211 gX11_orders_4.2.2.2.2.2.2.2 ?_
    refine lv_iconst (v := 2) hx hb gX11_orders_5.1 (by decide) ?_
    refine lv_iconst (v := (-1)) hx hb gX11_orders_5.2.1 (by decide) ?_
    have hIo := hB.1
    refine th_iastF hC hB hb23 (Or.inl hb23) ro_25 rfl (by decide) tk_2 (by omega) (by omega) th_sIa gX11_orders_5.2.2.1 (fun H81 locs hB hf81 hst81 => ?_)
    have hf := hf81
    have mm32 := (th_F_o hf h0 ro_42 (j := 5) (by decide) (by decide)).trans mm24
    have mm33 := (th_F_o hf h0 ro_42 (j := 7) (by decide) (by decide)).trans mm25
    have mm34 := (th_F_o hf h0 ro_42 (j := 15) (by decide) (by decide)).trans mm26
    have mm35 := (th_F_o hf h0 ro_42 (j := 10) (by decide) (by decide)).trans mm27
    have mm36 := (th_F_o hf h0 ro_42 (j := 0) (by decide) (by decide)).trans mm28
    have mm37 := (th_F_o hf hb14 ro_32 (j := 0) (by decide) (by decide)).trans mm29
    have mm38 := (th_F_o hf h0 ro_42 (j := 8) (by decide) (by decide)).trans mm30
    have mm39 := (th_F_o hf hb22 ro_23 (j := 1) (by decide) (by decide)).trans mm31
    have hR := th_RC_F hB.1 hR hf (th_T_s hb23 ro_25 hst81) (by decide)
    replace hF := hF.trans (dv_bn (dv_stoI hIo hB.1 hU hb23 ow_25 (i := 2) hst81 tk_m1 (by omega)))
    refine lv_iconst (v := 0) hx hb gX11_orders_5.2.2.2.1 (by decide) ?_
    refine lv_istore_n (lv' := [(1, .int 0), (0, .ref a0)]) hx hb gX11_orders_5.2.2.2.2.1 rfl hl (by decide) rfl (fun ls hl => ?_)
    have lp84 : ∀ (n84 : Nat) (H84 : Heap) (locs : List Loc) (ls : Array Slot) (j84_1 : Int32), th_B G Γ Γ [(45, 0), (42, 14), (20, 5), (20, 6), (20, 7), (20, 8), (40, 0), (39, 2), (41, 0), (39, 3), (21, 0), (22, 0), (20, 2), (20, 3), (20, 4), (37, 1), (42, 15), (42, 17), (24, 0), (23, 3), (26, 0), (25, 0), (18, 0), (17, 4), (4, 0), (5, 0), (6, 0), (9, 0), (3, 7), (3, 8), (3, 9), (3, 10), (7, 0), (8, 0), (19, 0), (17, 3)] H0 H84 locs → th_RC G Γ H84 → lv_has ls 4 [(0, .ref a0), (1, .int j84_1)] → F = dv_lp f_X11_orders_84b (dv G Γ H84, (a0 : Int), j84_1.toInt) → 0 ≤ j84_1.toInt → j84_1.toInt ≤ 12 → (2147483648 : Int) - j84_1.toInt ≤ (n84 : Int) → W p l e ({ frames := 46, cells := 0, slots := 0, locals := 1360 } : Room) s m ([.ref a0] : List Value).toArray below meth c H84 locs 0 0 (MQ below (th_Q (fun (v : Option Value) (H1 : Heap) => ∃ r : Int32, v = some (.int r) ∧ th_I G Γ H1 ∧ th_F G Γ [(45, 0), (42, 14), (20, 5), (20, 6), (20, 7), (20, 8), (40, 0), (39, 2), (41, 0), (39, 3), (21, 0), (22, 0), (20, 2), (20, 3), (20, 4), (37, 1), (42, 15), (42, 17), (24, 0), (23, 3), (26, 0), (25, 0), (18, 0), (17, 4), (4, 0), (5, 0), (6, 0), (9, 0), (3, 7), (3, 8), (3, 9), (3, 10), (7, 0), (8, 0), (19, 0), (17, 3)] H0 H1 ∧ th_RC G Γ H1 ∧ (f_X11_orders (dv G Γ H0) (a0 : Int) = (dv G Γ H1, r.toInt))) G) ([.ref a0] : List Value).toArray s 0 0 (fun q => G.1.2.2 ≤ q)) (F0 m 84 ls []) := by
      intro n84
      induction n84 with
      | zero => intro H84 locs ls j84_1 hB hR hl hF g84_0 g84_1 hm84; exact absurd hm84 (by have := ti_hi j84_1; omega)
      | succ n84 ih84 =>
        intro H84 locs ls j84_1 hB hR hl hF g84_0 g84_1 hm84
        have lj84_1 := ti_lo j84_1; have uj84_1 := ti_hi j84_1
        have mm40 := (th_F_o hB.2.2 h0 ro_42 (j := 7) (by decide) (by decide)).trans sb3
        have mm41 := (th_F_o hB.2.2 h0 ro_42 (j := 10) (by decide) (by decide)).trans sb13
        have mm42 := (th_F_o hB.2.2 h0 ro_42 (j := 0) (by decide) (by decide)).trans sb14
        have mm43 := (th_F_o hB.2.2 hb14 ro_32 (j := 0) (by decide) (by decide)).trans sb15
        have mm44 := (th_F_o hB.2.2 h0 ro_42 (j := 8) (by decide) (by decide)).trans sb22
        have mm45 := (th_F_o hB.2.2 hb22 ro_23 (j := 1) (by decide) (by decide)).trans sb23
        have hm84 : (2147483648 : Int) - j84_1.toInt ≤ (n84 : Int) + 1 := by omega
        replace hF := hF.trans (dv_lp_eq)
        replace hF := hF.trans (congrArg (dv_k f_X11_orders_84b) (f_X11_orders_84c.eq_1 (dv G Γ H84) ((a0 : Int)) (j84_1.toInt)))
        refine lv_iload_n hx hb gX11_orders_5.2.2.2.2.2.1 rfl (lv_at hl 1 rfl) ?_
        refine lv_aload_n hx hb gX11_orders_5.2.2.2.2.2.2.1 rfl (lv_at hl 0 rfl) ?_
        refine th_getK hC cf_X11 hB.1 h0 ro_42 rfl (j := 7) (by decide) mm40 kf_X11_51 gX11_orders_5.2.2.2.2.2.2.2 ?_
        replace hF := hF.trans (congrArg (dv_k f_X11_orders_84b) (dv_bn (dv_getR h0 ro_42 (j := 7) rfl mm40 (by decide))))
        refine th_getI (j := 3) hC cf_X10 hB.1 hb3 ro_39 rfl rfl kf_X11_214 gX11_orders_6.1 (fun x46 mx46 lx46 ux46 => ?_)
        replace hF := hF.trans (congrArg (dv_k f_X11_orders_84b) (dv_bn (dv_getI hb3 ro_39 (j := 3) rfl mx46 (by decide))))
        refine tr_icmp_ge (tgt := 158) hx hb gX11_orders_6.2.1 (by decide) (Eq.refl _) (Eq.refl _) (fun c92 => ?_) (fun c92 => ?_)
        · replace hF := hF.trans (congrArg (dv_k f_X11_orders_84b) (if_pos c92))
          refine lv_aload_n hx hb gX11_orders_10.2.2.1 rfl (lv_at hl 0 rfl) ?_
          refine lv_aload_n hx hb gX11_orders_10.2.2.2.1 rfl (lv_at hl 0 rfl) ?_
          refine th_getK hC cf_X11 hB.1 h0 ro_42 rfl (j := 8) (by decide) mm44 kf_X11_58 gX11_orders_10.2.2.2.2.1 ?_
          replace hF := hF.trans (congrArg (dv_k f_X11_orders_84b) (dv_bn (dv_getR h0 ro_42 (j := 8) rfl mm44 (by decide))))
          refine th_getK hC cf_X6 hB.1 hb22 ro_23 rfl (j := 1) (by decide) mm45 kf_X11_211 gX11_orders_10.2.2.2.2.2.1 ?_
          refine lv_iconst (v := 1) hx hb gX11_orders_10.2.2.2.2.2.2.1 (by decide) ?_
          refine th_ialdF hC hB.1 hb23 ro_25 rfl tk_1 (by omega) (by omega) rfl gX11_orders_10.2.2.2.2.2.2.2 (fun x47 mx47 lx47 ux47 => ?_)
          replace hF := hF.trans (congrArg (dv_k f_X11_orders_84b) (dv_bn (dv_aldI hB.1 hU hb23 ow_25 (z := 1) mx47 (by omega))))
          refine th_call (th_runV (As := [.int x47]) (rest := []) hC mf_X11_answer km_X11_117 im_X11_answer se_X11_answer (c_X11_answer l G Γ H84 hB.1 hR hU a0 h0 x47) rfl rfl ⟨Nat.le_of_ble_eq_true rfl, Nat.le_of_ble_eq_true rfl⟩ hB.1 h0 ro_42 rfl rfl hl.1 rfl (Nat.le_of_ble_eq_true rfl) gX11_orders_11.1 ⟨Nat.le_refl _, Nat.le_refl _⟩) hB.2.1 (fun v168 H168 locs hp hz hS => ?_)
          obtain ⟨x48, rfl, q168_0, hI1, hf, hR, z168_0⟩ := hp
          have hB := th_B_c hB hI1 hS hf (by decide)
          have mm49 := (th_F_o hf h0 ro_42 (j := 7) (by decide) (by decide)).trans mm40
          have mm50 := (th_F_o hf h0 ro_42 (j := 10) (by decide) (by decide)).trans mm41
          have mm51 := (th_F_o hf h0 ro_42 (j := 0) (by decide) (by decide)).trans mm42
          have mm52 := (th_F_o hf hb14 ro_32 (j := 0) (by decide) (by decide)).trans mm43
          have mm53 := (th_F_o hf h0 ro_42 (j := 8) (by decide) (by decide)).trans mm44
          have mm54 := (th_F_o hf hb22 ro_23 (j := 1) (by decide) (by decide)).trans mm45
          have mm55 := (th_F_o hf hb3 ro_39 (j := 3) (by decide) (by decide)).trans mx46
          replace hF := hF.trans (congrArg (dv_k f_X11_orders_84b) (dv_bn2 (z168_0)))
          refine W.eq (g2 := F0 m 171 ls [.int x48]) rfl ?_
          replace hF := hF.trans (dv_kr)
          exact th_iret hC hH hr hlocks rfl hB.2.1 ⟨_, rfl, hB.1, hB.2.2, hR, (hF0.symm.trans hF)⟩ gX11_orders_11.2
        · replace hF := hF.trans (congrArg (dv_k f_X11_orders_84b) (if_neg (Int.not_le.mpr c92)))
          refine lv_aload_n hx hb gX11_orders_6.2.2.1 rfl (lv_at hl 0 rfl) ?_
          refine th_getK hC cf_X11 hB.1 h0 ro_42 rfl (j := 7) (by decide) mm40 kf_X11_51 gX11_orders_6.2.2.2.1 ?_
          replace hF := hF.trans (congrArg (dv_k f_X11_orders_84b) (dv_bn (dv_getR h0 ro_42 (j := 7) rfl mm40 (by decide))))
          refine lv_iload_n hx hb gX11_orders_6.2.2.2.2.1 rfl (lv_at hl 1 rfl) ?_
          refine lv_iconst (v := 1) hx hb gX11_orders_6.2.2.2.2.2.1 (by decide) ?_
          refine th_call (th_runV (As := [.int j84_1, .int 1]) (rest := []) hC mf_X10_mark km_X11_217 im_X10_mark se_X10_mark (c_X10_mark l G Γ H84 hB.1 hU b3 hb3 j84_1 (by omega) (by omega) 1 (by decide) (by decide)) rfl rfl ⟨Nat.le_of_ble_eq_true rfl, Nat.le_of_ble_eq_true rfl⟩ hB.1 hb3 ro_39 rfl rfl hl.1 rfl (Nat.le_of_ble_eq_true rfl) gX11_orders_6.2.2.2.2.2.2.1 ⟨Nat.le_refl _, Nat.le_refl _⟩) hB.2.1 (fun v101 H101 locs hp hz hS => ?_)
          obtain ⟨x56, rfl, q101_0, q101_1, rfl⟩ := hp
          have hB := th_B_s hB hS
          have w101_1 := tk_1
          have zf101 := q101_1
          rw [tk_1] at zf101
          replace hF := hF.trans (congrArg (dv_k f_X11_orders_84b) (dv_bn2 (zf101)))
          refine W.eq (g2 := F0 m 104 ls [.int x56]) rfl ?_
          have lx56 := ti_lo x56; have ux56 := ti_hi x56
          refine lv_istore_n (lv' := [(2, .int x56), (0, .ref a0), (1, .int j84_1)]) hx hb gX11_orders_6.2.2.2.2.2.2.2 rfl hl (by decide) rfl (fun ls hl => ?_)
          refine lv_iconst (v := 0) hx hb gX11_orders_7.1 (by decide) ?_
          refine lv_istore_n (lv' := [(3, .int 0), (2, .int x56), (0, .ref a0), (1, .int j84_1)]) hx hb gX11_orders_7.2.1 rfl hl (by decide) rfl (fun ls hl => ?_)
          have lp107 : ∀ (n107 : Nat) (H107 : Heap) (locs : List Loc) (ls : Array Slot) (j107_3 : Int32), th_B G Γ Γ [(45, 0), (42, 14), (20, 5), (20, 6), (20, 7), (20, 8), (40, 0), (39, 2), (41, 0), (39, 3), (21, 0), (22, 0), (20, 2), (20, 3), (20, 4), (37, 1), (42, 15), (42, 17), (24, 0), (23, 3), (26, 0), (25, 0), (18, 0), (17, 4), (4, 0), (5, 0), (6, 0), (9, 0), (3, 7), (3, 8), (3, 9), (3, 10), (7, 0), (8, 0), (19, 0), (17, 3)] H0 H107 locs → th_RC G Γ H107 → lv_has ls 4 [(2, .int x56), (0, .ref a0), (1, .int j84_1), (3, .int j107_3)] → F = dv_k f_X11_orders_84b (dv_lp f_X11_orders_107b (dv G Γ H107, x56.toInt, (a0 : Int), j84_1.toInt, j107_3.toInt)) → 0 ≤ j107_3.toInt → th_sl H107 b3 (G.1.1.2 10 3) = .int x46 → (2147483648 : Int) - j107_3.toInt ≤ (n107 : Int) → W p l e ({ frames := 46, cells := 0, slots := 0, locals := 1360 } : Room) s m ([.ref a0] : List Value).toArray below meth c H107 locs 0 0 (MQ below (th_Q (fun (v : Option Value) (H1 : Heap) => ∃ r : Int32, v = some (.int r) ∧ th_I G Γ H1 ∧ th_F G Γ [(45, 0), (42, 14), (20, 5), (20, 6), (20, 7), (20, 8), (40, 0), (39, 2), (41, 0), (39, 3), (21, 0), (22, 0), (20, 2), (20, 3), (20, 4), (37, 1), (42, 15), (42, 17), (24, 0), (23, 3), (26, 0), (25, 0), (18, 0), (17, 4), (4, 0), (5, 0), (6, 0), (9, 0), (3, 7), (3, 8), (3, 9), (3, 10), (7, 0), (8, 0), (19, 0), (17, 3)] H0 H1 ∧ th_RC G Γ H1 ∧ (f_X11_orders (dv G Γ H0) (a0 : Int) = (dv G Γ H1, r.toInt))) G) ([.ref a0] : List Value).toArray s 0 0 (fun q => G.1.2.2 ≤ q)) (F0 m 107 ls []) := by
            intro n107
            induction n107 with
            | zero => intro H107 locs ls j107_3 hB hR hl hF g107_0 g107_1 hm107; exact absurd hm107 (by have := ti_hi j107_3; omega)
            | succ n107 ih107 =>
              intro H107 locs ls j107_3 hB hR hl hF g107_0 g107_1 hm107
              have lj107_3 := ti_lo j107_3; have uj107_3 := ti_hi j107_3
              have mm57 := (th_F_o hB.2.2 h0 ro_42 (j := 7) (by decide) (by decide)).trans sb3
              have mm58 := (th_F_o hB.2.2 h0 ro_42 (j := 10) (by decide) (by decide)).trans sb13
              have mm59 := (th_F_o hB.2.2 h0 ro_42 (j := 0) (by decide) (by decide)).trans sb14
              have mm60 := (th_F_o hB.2.2 hb14 ro_32 (j := 0) (by decide) (by decide)).trans sb15
              have mm61 := (th_F_o hB.2.2 h0 ro_42 (j := 8) (by decide) (by decide)).trans sb22
              have mm62 := (th_F_o hB.2.2 hb22 ro_23 (j := 1) (by decide) (by decide)).trans sb23
              have hm107 : (2147483648 : Int) - j107_3.toInt ≤ (n107 : Int) + 1 := by omega
              replace hF := hF.trans (congrArg (dv_k f_X11_orders_84b) (dv_lp_eq))
              replace hF := hF.trans (congrArg (dv_k f_X11_orders_84b) (congrArg (dv_k f_X11_orders_107b) (f_X11_orders_107c.eq_1 (dv G Γ H107) (x56.toInt) ((a0 : Int)) (j84_1.toInt) (j107_3.toInt))))
              refine lv_iload_n hx hb gX11_orders_7.2.2.1 rfl (lv_at hl 3 rfl) ?_
              refine lv_iload_n hx hb gX11_orders_7.2.2.2.1 rfl (lv_at hl 0 rfl) ?_
              refine tr_icmp_ge (tgt := 152) hx hb gX11_orders_7.2.2.2.2.1 (by decide) (Eq.refl _) (Eq.refl _) (fun c109 => ?_) (fun c109 => ?_)
              · replace hF := hF.trans (congrArg (dv_k f_X11_orders_84b) (congrArg (dv_k f_X11_orders_107b) (if_pos c109)))
                refine tr_iinc (fun x63 => [(1, .int x63), (2, .int x56), (0, .ref a0), (3, .int j107_3)]) hx hb gX11_orders_10.1 hl (k := 2) rfl (Eq.refl _) tk_1 (by omega) (by omega) (by decide) (fun _ => rfl) (fun x63 ls ex63 hl => ?_)
                replace hF := hF.trans (congrArg (dv_k f_X11_orders_84b) (congrArg (dv_k f_X11_orders_107b) (dv_bn (ex63.symm))))
                refine lv_goto (tgt := 84) hx hb gX11_orders_10.2.1 (by decide) ?_
                replace hF := hF.trans (congrArg (dv_k f_X11_orders_84b) (dv_kr))
                replace hF := hF.trans (dv_kl)
                exact ih84 H107 locs ls x63 hB hR (lv_sub hl [2, 0] rfl) hF (by omega) (by omega) (by omega)
              · replace hF := hF.trans (congrArg (dv_k f_X11_orders_84b) (congrArg (dv_k f_X11_orders_107b) (if_neg (Int.not_le.mpr c109))))
                refine lv_aload_n hx hb gX11_orders_7.2.2.2.2.2.1 rfl (lv_at hl 1 rfl) ?_
                refine lv_iload_n hx hb gX11_orders_7.2.2.2.2.2.2.1 rfl (lv_at hl 2 rfl) ?_
                refine th_call (th_runV (As := [.int j84_1]) (rest := []) hC mf_X11_runOnce km_X11_220 im_X11_runOnce se_X11_runOnce (c_X11_runOnce l G Γ H107 hB.1 hR hU a0 h0 j84_1 (by omega) (by omega)) rfl rfl ⟨Nat.le_of_ble_eq_true rfl, Nat.le_of_ble_eq_true rfl⟩ hB.1 h0 ro_42 rfl rfl hl.1 rfl (Nat.le_of_ble_eq_true rfl) gX11_orders_7.2.2.2.2.2.2.2 ⟨Nat.le_refl _, Nat.le_refl _⟩) hB.2.1 (fun v114 H114 locs hp hz hS => ?_)
                obtain ⟨x64, rfl, lx64, ux64, hI1, hf, hR, z114_0⟩ := hp
                have hB := th_B_c hB hI1 hS hf (by decide)
                have mm65 := (th_F_o hf hb3 ro_39 (j := 3) (by decide) (by decide)).trans g107_1
                have mm66 := (th_F_o hf h0 ro_42 (j := 7) (by decide) (by decide)).trans mm57
                have mm67 := (th_F_o hf h0 ro_42 (j := 10) (by decide) (by decide)).trans mm58
                have mm68 := (th_F_o hf h0 ro_42 (j := 0) (by decide) (by decide)).trans mm59
                have mm69 := (th_F_o hf hb14 ro_32 (j := 0) (by decide) (by decide)).trans mm60
                have mm70 := (th_F_o hf h0 ro_42 (j := 8) (by decide) (by decide)).trans mm61
                have mm71 := (th_F_o hf hb22 ro_23 (j := 1) (by decide) (by decide)).trans mm62
                replace hF := hF.trans (congrArg (dv_k f_X11_orders_84b) (congrArg (dv_k f_X11_orders_107b) (dv_bn2 (z114_0))))
                refine W.eq (g2 := F0 m 117 ls [.int x64]) rfl ?_
                refine tr_if_ne (tgt := 146) hx hb gX11_orders_8.1 (by decide) (Eq.refl _) (fun c117 => ?_) (fun c117 => ?_)
                · replace hF := hF.trans (congrArg (dv_k f_X11_orders_84b) (congrArg (dv_k f_X11_orders_107b) (if_pos c117)))
                  refine tr_iinc (fun x72 => [(3, .int x72), (2, .int x56), (0, .ref a0), (1, .int j84_1)]) hx hb gX11_orders_9.2.2.2.2.2.2.1 hl (k := 3) rfl (Eq.refl _) tk_1 (by omega) (by omega) (by decide) (fun _ => rfl) (fun x72 ls ex72 hl => ?_)
                  replace hF := hF.trans (congrArg (dv_k f_X11_orders_84b) (congrArg (dv_k f_X11_orders_107b) (dv_bn (ex72.symm))))
                  refine lv_goto (tgt := 107) hx hb gX11_orders_9.2.2.2.2.2.2.2 (by decide) ?_
                  replace hF := hF.trans (congrArg (dv_k f_X11_orders_84b) (dv_kl))
                  exact ih107 H114 locs ls x72 hB hR (lv_sub hl [1, 2, 3, 0] rfl) hF (by omega) mm65 (by omega)
                · replace hF := hF.trans (congrArg (dv_k f_X11_orders_84b) (congrArg (dv_k f_X11_orders_107b) (if_neg (not_not_intro c117))))
                  refine lv_aload_n hx hb gX11_orders_8.2.1 rfl (lv_at hl 1 rfl) ?_
                  refine th_getK hC cf_X11 hB.1 h0 ro_42 rfl (j := 10) (by decide) mm67 kf_X11_72 gX11_orders_8.2.2.1 ?_
                  replace hF := hF.trans (congrArg (dv_k f_X11_orders_84b) (congrArg (dv_k f_X11_orders_107b) (dv_bn (dv_getR h0 ro_42 (j := 10) rfl mm67 (by decide)))))
                  refine lv_aload_n hx hb gX11_orders_8.2.2.2.1 rfl (lv_at hl 1 rfl) ?_
                  refine th_getK hC cf_X11 hB.1 h0 ro_42 rfl (j := 0) (by decide) mm68 kf_X11_12 gX11_orders_8.2.2.2.2.1 ?_
                  replace hF := hF.trans (congrArg (dv_k f_X11_orders_84b) (congrArg (dv_k f_X11_orders_107b) (dv_bn (dv_getR h0 ro_42 (j := 0) rfl mm68 (by decide)))))
                  refine th_getK hC cf_X8 hB.1 hb14 ro_32 rfl (j := 0) (by decide) mm69 kf_X11_107 gX11_orders_8.2.2.2.2.2.1 ?_
                  replace hF := hF.trans (congrArg (dv_k f_X11_orders_84b) (congrArg (dv_k f_X11_orders_107b) (dv_bn (dv_getR hb14 ro_32 (j := 0) rfl mm69 (by decide)))))
                  refine th_call (th_runV (As := [.ref b15]) (rest := []) hC mf_X4_restore km_X11_223 im_X4_restore se_X4_restore (c_X4_restore l G Γ H114 hB.1 hR hU b13 hb13 b15 hb15) rfl rfl ⟨Nat.le_of_ble_eq_true rfl, Nat.le_of_ble_eq_true rfl⟩ hB.1 hb13 ro_17 rfl rfl hl.1 rfl (Nat.le_of_ble_eq_true rfl) gX11_orders_8.2.2.2.2.2.2.1 ⟨Nat.le_refl _, Nat.le_refl _⟩) hB.2.1 (fun v131 H131 locs hp hz hS => ?_)
                  obtain ⟨rfl, hI1, hf, hR, z131_0⟩ := hp
                  have hB := th_B_c hB hI1 hS hf (by decide)
                  have mm73 := (th_F_o hf hb3 ro_39 (j := 3) (by decide) (by decide)).trans mm65
                  have mm74 := (th_F_o hf h0 ro_42 (j := 7) (by decide) (by decide)).trans mm66
                  have mm75 := (th_F_o hf h0 ro_42 (j := 10) (by decide) (by decide)).trans mm67
                  have mm76 := (th_F_o hf h0 ro_42 (j := 0) (by decide) (by decide)).trans mm68
                  have mm77 := (th_F_o hf hb14 ro_32 (j := 0) (by decide) (by decide)).trans mm69
                  have mm78 := (th_F_o hf h0 ro_42 (j := 8) (by decide) (by decide)).trans mm70
                  have mm79 := (th_F_o hf hb22 ro_23 (j := 1) (by decide) (by decide)).trans mm71
                  replace hF := hF.trans (congrArg (dv_k f_X11_orders_84b) (congrArg (dv_k f_X11_orders_107b) (dv_bn2 (z131_0))))
                  refine W.eq (g2 := F0 m 134 ls []) rfl ?_
                  refine lv_aload_n hx hb gX11_orders_8.2.2.2.2.2.2.2 rfl (lv_at hl 1 rfl) ?_
                  refine lv_iload_n hx hb gX11_orders_9.1 rfl (lv_at hl 2 rfl) ?_
                  refine th_put hC cf_X11 hB h0 (Or.inl h0) ro_42 rfl (j := 17) rfl th_sIa (by decide) rfl rfl rfl kf_X11_104 gX11_orders_9.2.1 (fun H136 locs hB hf hst136 => ?_)
                  have mm80 := (th_F_o hf hb3 ro_39 (j := 3) (by decide) (by decide)).trans mm73
                  have mm81 := (th_F_o hf h0 ro_42 (j := 7) (by decide) (by decide)).trans mm74
                  have mm82 := (th_F_o hf h0 ro_42 (j := 10) (by decide) (by decide)).trans mm75
                  have mm83 := (th_F_o hf h0 ro_42 (j := 0) (by decide) (by decide)).trans mm76
                  have mm84 := (th_F_o hf hb14 ro_32 (j := 0) (by decide) (by decide)).trans mm77
                  have mm85 := (th_F_o hf h0 ro_42 (j := 8) (by decide) (by decide)).trans mm78
                  have mm86 := (th_F_o hf hb22 ro_23 (j := 1) (by decide) (by decide)).trans mm79
                  have hR := th_RC_F hB.1 hR hf (th_T_s h0 ro_42 hst136) (by decide)
                  replace hF := hF.trans (congrArg (dv_k f_X11_orders_84b) (congrArg (dv_k f_X11_orders_107b) (dv_bn (dv_putI hB.1 h0 ro_42 (j := 17) rfl (th_apart hC cf_X11) hst136 (Eq.refl _) (by decide)))))
                  refine lv_aload_n hx hb gX11_orders_9.2.2.1 rfl (lv_at hl 1 rfl) ?_
                  refine lv_bipush (v := (-3)) hx hb gX11_orders_9.2.2.2.1 (by decide) ?_
                  refine th_call (th_runV (As := [.int (-3)]) (rest := []) hC mf_X11_answer km_X11_117 im_X11_answer se_X11_answer (c_X11_answer l G Γ H136 hB.1 hR hU a0 h0 (-3)) rfl rfl ⟨Nat.le_of_ble_eq_true rfl, Nat.le_of_ble_eq_true rfl⟩ hB.1 h0 ro_42 rfl rfl hl.1 rfl (Nat.le_of_ble_eq_true rfl) gX11_orders_9.2.2.2.2.1 ⟨Nat.le_refl _, Nat.le_refl _⟩) hB.2.1 (fun v142 H142 locs hp hz hS => ?_)
                  obtain ⟨x87, rfl, q142_0, hI1, hf, hR, z142_0⟩ := hp
                  have hB := th_B_c hB hI1 hS hf (by decide)
                  have mm88 := (th_F_o hf hb3 ro_39 (j := 3) (by decide) (by decide)).trans mm80
                  have mm89 := (th_F_o hf h0 ro_42 (j := 7) (by decide) (by decide)).trans mm81
                  have mm90 := (th_F_o hf h0 ro_42 (j := 10) (by decide) (by decide)).trans mm82
                  have mm91 := (th_F_o hf h0 ro_42 (j := 0) (by decide) (by decide)).trans mm83
                  have mm92 := (th_F_o hf hb14 ro_32 (j := 0) (by decide) (by decide)).trans mm84
                  have mm93 := (th_F_o hf h0 ro_42 (j := 8) (by decide) (by decide)).trans mm85
                  have mm94 := (th_F_o hf hb22 ro_23 (j := 1) (by decide) (by decide)).trans mm86
                  have w142_0 := tk_m3
                  have zf142 := z142_0
                  rw [tk_m3] at zf142
                  replace hF := hF.trans (congrArg (dv_k f_X11_orders_84b) (congrArg (dv_k f_X11_orders_107b) (dv_bn2 (zf142))))
                  refine W.eq (g2 := F0 m 145 ls [.int x87]) rfl ?_
                  replace hF := hF.trans (congrArg (dv_k f_X11_orders_84b) (dv_kr))
                  replace hF := hF.trans (dv_kr)
                  exact th_iret hC hH hr hlocks rfl hB.2.1 ⟨_, rfl, hB.1, hB.2.2, hR, (hF0.symm.trans hF)⟩ gX11_orders_9.2.2.2.2.2.1
          exact lp107 ((2147483648 : Int) - (0)).toNat H84 locs ls 0 hB hR (lv_sub hl [1, 2, 3, 0] rfl) (by rw [tk_0]; exact hF) (by decide) mx46 (by have w0 := tk_0; omega)
    exact lp84 ((2147483648 : Int) - (0)).toNat H81 locs ls 0 hB hR (lv_sub hl [1, 0] rfl) (by rw [tk_0]; exact hF) (by decide) (by decide) (by have w0 := tk_0; omega)
  · replace hF := hF.trans (if_neg c38)
    refine lv_aload_n hx hb gX11_orders_2.2.2.2.2.2.1 rfl (lv_at hl 0 rfl) ?_
    refine lv_bipush (v := (-6)) hx hb gX11_orders_2.2.2.2.2.2.2.1 (by decide) ?_
    refine th_call (th_runV (As := [.int (-6)]) (rest := []) hC mf_X11_answer km_X11_117 im_X11_answer se_X11_answer (c_X11_answer l G Γ H30 hB.1 hR hU a0 h0 (-6)) rfl rfl ⟨Nat.le_of_ble_eq_true rfl, Nat.le_of_ble_eq_true rfl⟩ hB.1 h0 ro_42 rfl rfl hl.1 rfl (Nat.le_of_ble_eq_true rfl) gX11_orders_2.2.2.2.2.2.2.2 ⟨Nat.le_refl _, Nat.le_refl _⟩) hB.2.1 (fun v44 H44 locs hp hz hS => ?_)
    obtain ⟨x95, rfl, q44_0, hI1, hf, hR, z44_0⟩ := hp
    have hB := th_B_c hB hI1 hS hf (by decide)
    have mm96 := (th_F_o hf h0 ro_42 (j := 5) (by decide) (by decide)).trans mm10
    have mm97 := (th_F_o hf h0 ro_42 (j := 7) (by decide) (by decide)).trans mm11
    have mm98 := (th_F_o hf h0 ro_42 (j := 15) (by decide) (by decide)).trans mm12
    have w44_0 := tk_m6
    have zf44 := z44_0
    rw [tk_m6] at zf44
    replace hF := hF.trans (dv_bn2 (zf44))
    refine W.eq (g2 := F0 m 47 ls [.int x95]) rfl ?_
    exact th_iret hC hH hr hlocks rfl hB.2.1 ⟨_, rfl, hB.1, hB.2.2, hR, (hF0.symm.trans hF)⟩ gX11_orders_3.1
end
section
theorem tk_200 : (200 : Int32).toInt = 200 := rfl
theorem tk_201 : (201 : Int32).toInt = 201 := rfl
theorem tk_202 : (202 : Int32).toInt = 202 := rfl
theorem tk_203 : (203 : Int32).toInt = 203 := rfl
theorem tk_204 : (204 : Int32).toInt = 204 := rfl
theorem tk_205 : (205 : Int32).toInt = 205 := rfl
theorem tk_206 : (206 : Int32).toInt = 206 := rfl
theorem tk_207 : (207 : Int32).toInt = 207 := rfl
theorem tk_208 : (208 : Int32).toInt = 208 := rfl
theorem tk_209 : (209 : Int32).toInt = 209 := rfl
theorem tk_210 : (210 : Int32).toInt = 210 := rfl
theorem tk_211 : (211 : Int32).toInt = 211 := rfl
theorem tk_212 : (212 : Int32).toInt = 212 := rfl
theorem tk_213 : (213 : Int32).toInt = 213 := rfl
theorem tk_214 : (214 : Int32).toInt = 214 := rfl
theorem tk_215 : (215 : Int32).toInt = 215 := rfl
theorem tk_216 : (216 : Int32).toInt = 216 := rfl
theorem tk_217 : (217 : Int32).toInt = 217 := rfl
theorem tk_218 : (218 : Int32).toInt = 218 := rfl
theorem tk_219 : (219 : Int32).toInt = 219 := rfl
theorem tk_220 : (220 : Int32).toInt = 220 := rfl
theorem tk_221 : (221 : Int32).toInt = 221 := rfl
theorem tk_222 : (222 : Int32).toInt = 222 := rfl
theorem tk_223 : (223 : Int32).toInt = 223 := rfl
theorem tk_224 : (224 : Int32).toInt = 224 := rfl
theorem tk_225 : (225 : Int32).toInt = 225 := rfl
theorem tk_226 : (226 : Int32).toInt = 226 := rfl
theorem tk_227 : (227 : Int32).toInt = 227 := rfl
theorem tk_228 : (228 : Int32).toInt = 228 := rfl
theorem tk_229 : (229 : Int32).toInt = 229 := rfl
theorem tk_230 : (230 : Int32).toInt = 230 := rfl
theorem tk_231 : (231 : Int32).toInt = 231 := rfl
theorem tk_232 : (232 : Int32).toInt = 232 := rfl
theorem tk_233 : (233 : Int32).toInt = 233 := rfl
theorem tk_234 : (234 : Int32).toInt = 234 := rfl
theorem tk_235 : (235 : Int32).toInt = 235 := rfl
theorem tk_236 : (236 : Int32).toInt = 236 := rfl
theorem tk_237 : (237 : Int32).toInt = 237 := rfl
theorem tk_238 : (238 : Int32).toInt = 238 := rfl
theorem tk_239 : (239 : Int32).toInt = 239 := rfl
theorem tk_240 : (240 : Int32).toInt = 240 := rfl
theorem tk_241 : (241 : Int32).toInt = 241 := rfl
theorem tk_242 : (242 : Int32).toInt = 242 := rfl
theorem tk_243 : (243 : Int32).toInt = 243 := rfl
theorem tk_244 : (244 : Int32).toInt = 244 := rfl
theorem tk_245 : (245 : Int32).toInt = 245 := rfl
theorem tk_246 : (246 : Int32).toInt = 246 := rfl
theorem tk_247 : (247 : Int32).toInt = 247 := rfl
theorem tk_248 : (248 : Int32).toInt = 248 := rfl
theorem tk_249 : (249 : Int32).toInt = 249 := rfl
theorem tk_250 : (250 : Int32).toInt = 250 := rfl
theorem tk_251 : (251 : Int32).toInt = 251 := rfl
theorem tk_252 : (252 : Int32).toInt = 252 := rfl
theorem tk_253 : (253 : Int32).toInt = 253 := rfl
theorem tk_254 : (254 : Int32).toInt = 254 := rfl
theorem tk_256 : (256 : Int32).toInt = 256 := rfl
theorem tk_257 : (257 : Int32).toInt = 257 := rfl
theorem tk_258 : (258 : Int32).toInt = 258 := rfl
theorem tk_259 : (259 : Int32).toInt = 259 := rfl
theorem tk_260 : (260 : Int32).toInt = 260 := rfl
theorem tk_261 : (261 : Int32).toInt = 261 := rfl
theorem tk_262 : (262 : Int32).toInt = 262 := rfl
theorem tk_263 : (263 : Int32).toInt = 263 := rfl
theorem tk_264 : (264 : Int32).toInt = 264 := rfl
theorem tk_265 : (265 : Int32).toInt = 265 := rfl
theorem tk_266 : (266 : Int32).toInt = 266 := rfl
theorem tk_267 : (267 : Int32).toInt = 267 := rfl
theorem tk_268 : (268 : Int32).toInt = 268 := rfl
theorem tk_269 : (269 : Int32).toInt = 269 := rfl
theorem tk_270 : (270 : Int32).toInt = 270 := rfl
theorem tk_271 : (271 : Int32).toInt = 271 := rfl
theorem tk_272 : (272 : Int32).toInt = 272 := rfl
theorem tk_273 : (273 : Int32).toInt = 273 := rfl
theorem tk_274 : (274 : Int32).toInt = 274 := rfl
theorem tk_275 : (275 : Int32).toInt = 275 := rfl
theorem tk_276 : (276 : Int32).toInt = 276 := rfl
theorem tk_277 : (277 : Int32).toInt = 277 := rfl
theorem tk_278 : (278 : Int32).toInt = 278 := rfl
theorem tk_279 : (279 : Int32).toInt = 279 := rfl
theorem tk_280 : (280 : Int32).toInt = 280 := rfl
theorem tk_281 : (281 : Int32).toInt = 281 := rfl
theorem tk_282 : (282 : Int32).toInt = 282 := rfl
theorem tk_283 : (283 : Int32).toInt = 283 := rfl
theorem tk_284 : (284 : Int32).toInt = 284 := rfl
theorem tk_285 : (285 : Int32).toInt = 285 := rfl
theorem tk_286 : (286 : Int32).toInt = 286 := rfl
theorem tk_287 : (287 : Int32).toInt = 287 := rfl
theorem tk_288 : (288 : Int32).toInt = 288 := rfl
theorem tk_289 : (289 : Int32).toInt = 289 := rfl
theorem tk_290 : (290 : Int32).toInt = 290 := rfl
theorem tk_291 : (291 : Int32).toInt = 291 := rfl
theorem tk_292 : (292 : Int32).toInt = 292 := rfl
theorem tk_293 : (293 : Int32).toInt = 293 := rfl
theorem tk_294 : (294 : Int32).toInt = 294 := rfl
theorem tk_295 : (295 : Int32).toInt = 295 := rfl
theorem tk_296 : (296 : Int32).toInt = 296 := rfl
theorem tk_297 : (297 : Int32).toInt = 297 := rfl
theorem tk_298 : (298 : Int32).toInt = 298 := rfl
theorem tk_299 : (299 : Int32).toInt = 299 := rfl
theorem tk_328 : (328 : Int32).toInt = 328 := rfl
theorem tk_329 : (329 : Int32).toInt = 329 := rfl
theorem tk_330 : (330 : Int32).toInt = 330 := rfl
theorem tk_331 : (331 : Int32).toInt = 331 := rfl
theorem tk_332 : (332 : Int32).toInt = 332 := rfl
theorem tk_333 : (333 : Int32).toInt = 333 := rfl
theorem tk_334 : (334 : Int32).toInt = 334 := rfl
theorem tk_335 : (335 : Int32).toInt = 335 := rfl
theorem tk_336 : (336 : Int32).toInt = 336 := rfl
theorem tk_337 : (337 : Int32).toInt = 337 := rfl
theorem tk_338 : (338 : Int32).toInt = 338 := rfl
theorem tk_339 : (339 : Int32).toInt = 339 := rfl
theorem tk_340 : (340 : Int32).toInt = 340 := rfl
theorem tk_341 : (341 : Int32).toInt = 341 := rfl
theorem tk_342 : (342 : Int32).toInt = 342 := rfl
theorem tk_343 : (343 : Int32).toInt = 343 := rfl
theorem tk_344 : (344 : Int32).toInt = 344 := rfl
theorem tk_345 : (345 : Int32).toInt = 345 := rfl
theorem tk_346 : (346 : Int32).toInt = 346 := rfl
theorem tk_347 : (347 : Int32).toInt = 347 := rfl
theorem tk_348 : (348 : Int32).toInt = 348 := rfl
theorem tk_349 : (349 : Int32).toInt = 349 := rfl
theorem tk_350 : (350 : Int32).toInt = 350 := rfl
theorem tk_351 : (351 : Int32).toInt = 351 := rfl
theorem tk_352 : (352 : Int32).toInt = 352 := rfl
theorem tk_353 : (353 : Int32).toInt = 353 := rfl
theorem tk_354 : (354 : Int32).toInt = 354 := rfl
theorem tk_355 : (355 : Int32).toInt = 355 := rfl
theorem tk_356 : (356 : Int32).toInt = 356 := rfl
theorem tk_357 : (357 : Int32).toInt = 357 := rfl
theorem tk_358 : (358 : Int32).toInt = 358 := rfl
theorem tk_359 : (359 : Int32).toInt = 359 := rfl
theorem tk_360 : (360 : Int32).toInt = 360 := rfl
theorem tk_361 : (361 : Int32).toInt = 361 := rfl
theorem tk_362 : (362 : Int32).toInt = 362 := rfl
theorem tk_363 : (363 : Int32).toInt = 363 := rfl
theorem tk_364 : (364 : Int32).toInt = 364 := rfl
theorem tk_365 : (365 : Int32).toInt = 365 := rfl
theorem tk_366 : (366 : Int32).toInt = 366 := rfl
theorem tk_367 : (367 : Int32).toInt = 367 := rfl
theorem tk_368 : (368 : Int32).toInt = 368 := rfl
theorem tk_369 : (369 : Int32).toInt = 369 := rfl
theorem tk_370 : (370 : Int32).toInt = 370 := rfl
theorem tk_371 : (371 : Int32).toInt = 371 := rfl
theorem tk_372 : (372 : Int32).toInt = 372 := rfl
theorem tk_373 : (373 : Int32).toInt = 373 := rfl
theorem tk_374 : (374 : Int32).toInt = 374 := rfl
theorem tk_375 : (375 : Int32).toInt = 375 := rfl
theorem tk_376 : (376 : Int32).toInt = 376 := rfl
theorem tk_377 : (377 : Int32).toInt = 377 := rfl
theorem tk_378 : (378 : Int32).toInt = 378 := rfl
theorem tk_379 : (379 : Int32).toInt = 379 := rfl
theorem tk_380 : (380 : Int32).toInt = 380 := rfl
theorem tk_381 : (381 : Int32).toInt = 381 := rfl
theorem tk_382 : (382 : Int32).toInt = 382 := rfl
theorem tk_383 : (383 : Int32).toInt = 383 := rfl
theorem tk_384 : (384 : Int32).toInt = 384 := rfl
theorem tk_385 : (385 : Int32).toInt = 385 := rfl
theorem tk_386 : (386 : Int32).toInt = 386 := rfl
theorem tk_387 : (387 : Int32).toInt = 387 := rfl
theorem tk_388 : (388 : Int32).toInt = 388 := rfl
theorem tk_389 : (389 : Int32).toInt = 389 := rfl
theorem tk_390 : (390 : Int32).toInt = 390 := rfl
theorem tk_391 : (391 : Int32).toInt = 391 := rfl
theorem tk_392 : (392 : Int32).toInt = 392 := rfl
theorem tk_393 : (393 : Int32).toInt = 393 := rfl
theorem tk_394 : (394 : Int32).toInt = 394 := rfl
theorem tk_395 : (395 : Int32).toInt = 395 := rfl
theorem tk_396 : (396 : Int32).toInt = 396 := rfl
theorem tk_397 : (397 : Int32).toInt = 397 := rfl
theorem tk_398 : (398 : Int32).toInt = 398 := rfl
theorem tk_399 : (399 : Int32).toInt = 399 := rfl
theorem tk_401 : (401 : Int32).toInt = 401 := rfl
theorem tk_402 : (402 : Int32).toInt = 402 := rfl
theorem tk_403 : (403 : Int32).toInt = 403 := rfl
theorem tk_404 : (404 : Int32).toInt = 404 := rfl
theorem tk_405 : (405 : Int32).toInt = 405 := rfl
theorem tk_406 : (406 : Int32).toInt = 406 := rfl
theorem tk_407 : (407 : Int32).toInt = 407 := rfl
theorem tk_408 : (408 : Int32).toInt = 408 := rfl
theorem tk_409 : (409 : Int32).toInt = 409 := rfl
theorem tk_410 : (410 : Int32).toInt = 410 := rfl
theorem tk_411 : (411 : Int32).toInt = 411 := rfl
theorem tk_412 : (412 : Int32).toInt = 412 := rfl
theorem tk_413 : (413 : Int32).toInt = 413 := rfl
theorem tk_414 : (414 : Int32).toInt = 414 := rfl
theorem tk_415 : (415 : Int32).toInt = 415 := rfl
theorem tk_416 : (416 : Int32).toInt = 416 := rfl
theorem tk_417 : (417 : Int32).toInt = 417 := rfl
theorem tk_418 : (418 : Int32).toInt = 418 := rfl
theorem tk_419 : (419 : Int32).toInt = 419 := rfl
theorem tk_420 : (420 : Int32).toInt = 420 := rfl
theorem tk_421 : (421 : Int32).toInt = 421 := rfl
theorem tk_422 : (422 : Int32).toInt = 422 := rfl
theorem tk_423 : (423 : Int32).toInt = 423 := rfl
theorem tk_424 : (424 : Int32).toInt = 424 := rfl
theorem tk_425 : (425 : Int32).toInt = 425 := rfl
theorem tk_426 : (426 : Int32).toInt = 426 := rfl
theorem tk_427 : (427 : Int32).toInt = 427 := rfl
theorem tk_428 : (428 : Int32).toInt = 428 := rfl
theorem tk_429 : (429 : Int32).toInt = 429 := rfl
theorem tk_430 : (430 : Int32).toInt = 430 := rfl
theorem tk_431 : (431 : Int32).toInt = 431 := rfl
theorem tk_432 : (432 : Int32).toInt = 432 := rfl
theorem tk_433 : (433 : Int32).toInt = 433 := rfl
theorem tk_434 : (434 : Int32).toInt = 434 := rfl
theorem tk_435 : (435 : Int32).toInt = 435 := rfl
theorem tk_436 : (436 : Int32).toInt = 436 := rfl
theorem tk_437 : (437 : Int32).toInt = 437 := rfl
theorem tk_438 : (438 : Int32).toInt = 438 := rfl
theorem tk_439 : (439 : Int32).toInt = 439 := rfl
theorem tk_440 : (440 : Int32).toInt = 440 := rfl
theorem tk_441 : (441 : Int32).toInt = 441 := rfl
theorem tk_442 : (442 : Int32).toInt = 442 := rfl
theorem tk_443 : (443 : Int32).toInt = 443 := rfl
theorem tk_444 : (444 : Int32).toInt = 444 := rfl
theorem tk_445 : (445 : Int32).toInt = 445 := rfl
theorem tk_446 : (446 : Int32).toInt = 446 := rfl
theorem tk_447 : (447 : Int32).toInt = 447 := rfl
theorem tk_448 : (448 : Int32).toInt = 448 := rfl
theorem tk_449 : (449 : Int32).toInt = 449 := rfl
theorem tk_451 : (451 : Int32).toInt = 451 := rfl
theorem tk_452 : (452 : Int32).toInt = 452 := rfl
theorem tk_453 : (453 : Int32).toInt = 453 := rfl
theorem tk_454 : (454 : Int32).toInt = 454 := rfl
theorem tk_455 : (455 : Int32).toInt = 455 := rfl
theorem tk_456 : (456 : Int32).toInt = 456 := rfl
theorem tk_457 : (457 : Int32).toInt = 457 := rfl
theorem tk_458 : (458 : Int32).toInt = 458 := rfl
theorem tk_459 : (459 : Int32).toInt = 459 := rfl
theorem tk_460 : (460 : Int32).toInt = 460 := rfl
theorem tk_461 : (461 : Int32).toInt = 461 := rfl
theorem tk_462 : (462 : Int32).toInt = 462 := rfl
theorem tk_463 : (463 : Int32).toInt = 463 := rfl
theorem tk_464 : (464 : Int32).toInt = 464 := rfl
theorem tk_465 : (465 : Int32).toInt = 465 := rfl
theorem tk_466 : (466 : Int32).toInt = 466 := rfl
theorem tk_467 : (467 : Int32).toInt = 467 := rfl
theorem tk_468 : (468 : Int32).toInt = 468 := rfl
theorem tk_469 : (469 : Int32).toInt = 469 := rfl
theorem tk_470 : (470 : Int32).toInt = 470 := rfl
theorem tk_471 : (471 : Int32).toInt = 471 := rfl
theorem tk_472 : (472 : Int32).toInt = 472 := rfl
theorem tk_473 : (473 : Int32).toInt = 473 := rfl
theorem tk_474 : (474 : Int32).toInt = 474 := rfl
theorem tk_475 : (475 : Int32).toInt = 475 := rfl
theorem tk_476 : (476 : Int32).toInt = 476 := rfl
theorem tk_477 : (477 : Int32).toInt = 477 := rfl
theorem tk_478 : (478 : Int32).toInt = 478 := rfl
theorem tk_479 : (479 : Int32).toInt = 479 := rfl
theorem tk_480 : (480 : Int32).toInt = 480 := rfl
theorem tk_481 : (481 : Int32).toInt = 481 := rfl
theorem tk_482 : (482 : Int32).toInt = 482 := rfl
theorem tk_483 : (483 : Int32).toInt = 483 := rfl
theorem tk_484 : (484 : Int32).toInt = 484 := rfl
theorem tk_485 : (485 : Int32).toInt = 485 := rfl
theorem tk_486 : (486 : Int32).toInt = 486 := rfl
theorem tk_487 : (487 : Int32).toInt = 487 := rfl
theorem tk_488 : (488 : Int32).toInt = 488 := rfl
theorem tk_489 : (489 : Int32).toInt = 489 := rfl
theorem tk_490 : (490 : Int32).toInt = 490 := rfl
theorem tk_491 : (491 : Int32).toInt = 491 := rfl
theorem tk_492 : (492 : Int32).toInt = 492 := rfl
theorem tk_493 : (493 : Int32).toInt = 493 := rfl
theorem tk_494 : (494 : Int32).toInt = 494 := rfl
theorem tk_495 : (495 : Int32).toInt = 495 := rfl
theorem tk_496 : (496 : Int32).toInt = 496 := rfl
theorem tk_497 : (497 : Int32).toInt = 497 := rfl
theorem tk_498 : (498 : Int32).toInt = 498 := rfl
theorem tk_499 : (499 : Int32).toInt = 499 := rfl
theorem tk_500 : (500 : Int32).toInt = 500 := rfl
theorem tk_501 : (501 : Int32).toInt = 501 := rfl
theorem tk_502 : (502 : Int32).toInt = 502 := rfl
theorem tk_503 : (503 : Int32).toInt = 503 := rfl
theorem tk_504 : (504 : Int32).toInt = 504 := rfl
theorem tk_505 : (505 : Int32).toInt = 505 := rfl
theorem tk_506 : (506 : Int32).toInt = 506 := rfl
theorem tk_507 : (507 : Int32).toInt = 507 := rfl
theorem tk_508 : (508 : Int32).toInt = 508 := rfl
theorem tk_509 : (509 : Int32).toInt = 509 := rfl
theorem tk_510 : (510 : Int32).toInt = 510 := rfl
theorem tk_511 : (511 : Int32).toInt = 511 := rfl
theorem tk_512 : (512 : Int32).toInt = 512 := rfl
theorem tk_513 : (513 : Int32).toInt = 513 := rfl
theorem tk_514 : (514 : Int32).toInt = 514 := rfl
theorem tk_515 : (515 : Int32).toInt = 515 := rfl
theorem tk_516 : (516 : Int32).toInt = 516 := rfl
theorem tk_517 : (517 : Int32).toInt = 517 := rfl
theorem tk_518 : (518 : Int32).toInt = 518 := rfl
theorem tk_519 : (519 : Int32).toInt = 519 := rfl
theorem tk_520 : (520 : Int32).toInt = 520 := rfl
theorem tk_521 : (521 : Int32).toInt = 521 := rfl
theorem tk_522 : (522 : Int32).toInt = 522 := rfl
theorem tk_523 : (523 : Int32).toInt = 523 := rfl
theorem tk_524 : (524 : Int32).toInt = 524 := rfl
theorem tk_525 : (525 : Int32).toInt = 525 := rfl
theorem tk_526 : (526 : Int32).toInt = 526 := rfl
theorem tk_527 : (527 : Int32).toInt = 527 := rfl
theorem tk_528 : (528 : Int32).toInt = 528 := rfl
theorem tk_529 : (529 : Int32).toInt = 529 := rfl
theorem tk_530 : (530 : Int32).toInt = 530 := rfl
theorem tk_531 : (531 : Int32).toInt = 531 := rfl
theorem tk_532 : (532 : Int32).toInt = 532 := rfl
theorem tk_533 : (533 : Int32).toInt = 533 := rfl
theorem tk_534 : (534 : Int32).toInt = 534 := rfl
theorem tk_535 : (535 : Int32).toInt = 535 := rfl
theorem tk_536 : (536 : Int32).toInt = 536 := rfl
theorem tk_537 : (537 : Int32).toInt = 537 := rfl
theorem tk_538 : (538 : Int32).toInt = 538 := rfl
theorem tk_539 : (539 : Int32).toInt = 539 := rfl
theorem tk_540 : (540 : Int32).toInt = 540 := rfl
theorem tk_541 : (541 : Int32).toInt = 541 := rfl
theorem tk_542 : (542 : Int32).toInt = 542 := rfl
theorem tk_543 : (543 : Int32).toInt = 543 := rfl
theorem tk_544 : (544 : Int32).toInt = 544 := rfl
theorem tk_545 : (545 : Int32).toInt = 545 := rfl
theorem tk_546 : (546 : Int32).toInt = 546 := rfl
theorem tk_547 : (547 : Int32).toInt = 547 := rfl
theorem tk_548 : (548 : Int32).toInt = 548 := rfl
theorem tk_549 : (549 : Int32).toInt = 549 := rfl
theorem tk_550 : (550 : Int32).toInt = 550 := rfl
theorem tk_551 : (551 : Int32).toInt = 551 := rfl
theorem tk_552 : (552 : Int32).toInt = 552 := rfl
theorem tk_553 : (553 : Int32).toInt = 553 := rfl
theorem tk_554 : (554 : Int32).toInt = 554 := rfl
theorem tk_555 : (555 : Int32).toInt = 555 := rfl
theorem tk_556 : (556 : Int32).toInt = 556 := rfl
theorem tk_557 : (557 : Int32).toInt = 557 := rfl
theorem tk_558 : (558 : Int32).toInt = 558 := rfl
theorem tk_559 : (559 : Int32).toInt = 559 := rfl
theorem tk_560 : (560 : Int32).toInt = 560 := rfl
theorem tk_561 : (561 : Int32).toInt = 561 := rfl
theorem tk_562 : (562 : Int32).toInt = 562 := rfl
theorem tk_563 : (563 : Int32).toInt = 563 := rfl
theorem tk_564 : (564 : Int32).toInt = 564 := rfl
theorem tk_565 : (565 : Int32).toInt = 565 := rfl
theorem tk_566 : (566 : Int32).toInt = 566 := rfl
theorem tk_567 : (567 : Int32).toInt = 567 := rfl
theorem tk_568 : (568 : Int32).toInt = 568 := rfl
theorem tk_569 : (569 : Int32).toInt = 569 := rfl
theorem tk_570 : (570 : Int32).toInt = 570 := rfl
theorem tk_571 : (571 : Int32).toInt = 571 := rfl
theorem tk_572 : (572 : Int32).toInt = 572 := rfl
theorem tk_573 : (573 : Int32).toInt = 573 := rfl
theorem tk_574 : (574 : Int32).toInt = 574 := rfl
theorem tk_575 : (575 : Int32).toInt = 575 := rfl
theorem tk_576 : (576 : Int32).toInt = 576 := rfl
theorem tk_577 : (577 : Int32).toInt = 577 := rfl
theorem tk_578 : (578 : Int32).toInt = 578 := rfl
theorem tk_579 : (579 : Int32).toInt = 579 := rfl
theorem tk_580 : (580 : Int32).toInt = 580 := rfl
theorem tk_581 : (581 : Int32).toInt = 581 := rfl
theorem tk_582 : (582 : Int32).toInt = 582 := rfl
theorem tk_583 : (583 : Int32).toInt = 583 := rfl
theorem tk_584 : (584 : Int32).toInt = 584 := rfl
theorem tk_585 : (585 : Int32).toInt = 585 := rfl
theorem tk_586 : (586 : Int32).toInt = 586 := rfl
theorem tk_587 : (587 : Int32).toInt = 587 := rfl
theorem tk_588 : (588 : Int32).toInt = 588 := rfl
theorem tk_589 : (589 : Int32).toInt = 589 := rfl
theorem tk_590 : (590 : Int32).toInt = 590 := rfl
theorem tk_591 : (591 : Int32).toInt = 591 := rfl
theorem tk_592 : (592 : Int32).toInt = 592 := rfl
theorem tk_593 : (593 : Int32).toInt = 593 := rfl
theorem tk_594 : (594 : Int32).toInt = 594 := rfl
theorem tk_595 : (595 : Int32).toInt = 595 := rfl
theorem tk_596 : (596 : Int32).toInt = 596 := rfl
theorem tk_597 : (597 : Int32).toInt = 597 := rfl
theorem tk_598 : (598 : Int32).toInt = 598 := rfl
theorem tk_599 : (599 : Int32).toInt = 599 := rfl
theorem tk_600 : (600 : Int32).toInt = 600 := rfl
theorem tk_601 : (601 : Int32).toInt = 601 := rfl
theorem tk_602 : (602 : Int32).toInt = 602 := rfl
theorem tk_603 : (603 : Int32).toInt = 603 := rfl
theorem tk_604 : (604 : Int32).toInt = 604 := rfl
theorem tk_605 : (605 : Int32).toInt = 605 := rfl
theorem tk_606 : (606 : Int32).toInt = 606 := rfl
theorem tk_607 : (607 : Int32).toInt = 607 := rfl
theorem tk_608 : (608 : Int32).toInt = 608 := rfl
theorem tk_609 : (609 : Int32).toInt = 609 := rfl
theorem tk_610 : (610 : Int32).toInt = 610 := rfl
theorem tk_611 : (611 : Int32).toInt = 611 := rfl
theorem tk_612 : (612 : Int32).toInt = 612 := rfl
theorem tk_613 : (613 : Int32).toInt = 613 := rfl
theorem tk_614 : (614 : Int32).toInt = 614 := rfl
theorem tk_615 : (615 : Int32).toInt = 615 := rfl
theorem tk_616 : (616 : Int32).toInt = 616 := rfl
theorem tk_617 : (617 : Int32).toInt = 617 := rfl
theorem tk_618 : (618 : Int32).toInt = 618 := rfl
theorem tk_619 : (619 : Int32).toInt = 619 := rfl
theorem tk_620 : (620 : Int32).toInt = 620 := rfl
theorem tk_621 : (621 : Int32).toInt = 621 := rfl
theorem tk_622 : (622 : Int32).toInt = 622 := rfl
theorem tk_623 : (623 : Int32).toInt = 623 := rfl
theorem tk_624 : (624 : Int32).toInt = 624 := rfl
theorem tk_625 : (625 : Int32).toInt = 625 := rfl
theorem tk_626 : (626 : Int32).toInt = 626 := rfl
theorem tk_627 : (627 : Int32).toInt = 627 := rfl
theorem tk_628 : (628 : Int32).toInt = 628 := rfl
theorem tk_629 : (629 : Int32).toInt = 629 := rfl
theorem tk_630 : (630 : Int32).toInt = 630 := rfl
theorem tk_631 : (631 : Int32).toInt = 631 := rfl
theorem tk_632 : (632 : Int32).toInt = 632 := rfl
theorem tk_633 : (633 : Int32).toInt = 633 := rfl
theorem tk_634 : (634 : Int32).toInt = 634 := rfl
theorem tk_635 : (635 : Int32).toInt = 635 := rfl
theorem tk_636 : (636 : Int32).toInt = 636 := rfl
theorem tk_637 : (637 : Int32).toInt = 637 := rfl
theorem tk_638 : (638 : Int32).toInt = 638 := rfl
theorem tk_639 : (639 : Int32).toInt = 639 := rfl
theorem tk_640 : (640 : Int32).toInt = 640 := rfl
theorem tk_641 : (641 : Int32).toInt = 641 := rfl
theorem tk_642 : (642 : Int32).toInt = 642 := rfl
theorem tk_643 : (643 : Int32).toInt = 643 := rfl
theorem tk_644 : (644 : Int32).toInt = 644 := rfl
theorem tk_645 : (645 : Int32).toInt = 645 := rfl
theorem tk_646 : (646 : Int32).toInt = 646 := rfl
theorem tk_647 : (647 : Int32).toInt = 647 := rfl
theorem tk_648 : (648 : Int32).toInt = 648 := rfl
theorem tk_649 : (649 : Int32).toInt = 649 := rfl
theorem tk_650 : (650 : Int32).toInt = 650 := rfl
theorem tk_651 : (651 : Int32).toInt = 651 := rfl
theorem tk_652 : (652 : Int32).toInt = 652 := rfl
theorem tk_653 : (653 : Int32).toInt = 653 := rfl
theorem tk_654 : (654 : Int32).toInt = 654 := rfl
theorem tk_655 : (655 : Int32).toInt = 655 := rfl
theorem tk_656 : (656 : Int32).toInt = 656 := rfl
theorem tk_657 : (657 : Int32).toInt = 657 := rfl
theorem tk_658 : (658 : Int32).toInt = 658 := rfl
theorem tk_659 : (659 : Int32).toInt = 659 := rfl
theorem tk_660 : (660 : Int32).toInt = 660 := rfl
theorem tk_661 : (661 : Int32).toInt = 661 := rfl
theorem tk_662 : (662 : Int32).toInt = 662 := rfl
theorem tk_663 : (663 : Int32).toInt = 663 := rfl
theorem tk_664 : (664 : Int32).toInt = 664 := rfl
theorem tk_665 : (665 : Int32).toInt = 665 := rfl
theorem tk_666 : (666 : Int32).toInt = 666 := rfl
theorem tk_667 : (667 : Int32).toInt = 667 := rfl
theorem tk_668 : (668 : Int32).toInt = 668 := rfl
theorem tk_669 : (669 : Int32).toInt = 669 := rfl
theorem tk_670 : (670 : Int32).toInt = 670 := rfl
theorem tk_671 : (671 : Int32).toInt = 671 := rfl
theorem tk_672 : (672 : Int32).toInt = 672 := rfl
theorem tk_673 : (673 : Int32).toInt = 673 := rfl
theorem tk_674 : (674 : Int32).toInt = 674 := rfl
theorem tk_675 : (675 : Int32).toInt = 675 := rfl
theorem tk_676 : (676 : Int32).toInt = 676 := rfl
theorem tk_677 : (677 : Int32).toInt = 677 := rfl
theorem tk_678 : (678 : Int32).toInt = 678 := rfl
theorem tk_679 : (679 : Int32).toInt = 679 := rfl
theorem tk_680 : (680 : Int32).toInt = 680 := rfl
theorem tk_681 : (681 : Int32).toInt = 681 := rfl
theorem tk_682 : (682 : Int32).toInt = 682 := rfl
theorem tk_683 : (683 : Int32).toInt = 683 := rfl
theorem tk_684 : (684 : Int32).toInt = 684 := rfl
theorem tk_685 : (685 : Int32).toInt = 685 := rfl
theorem tk_686 : (686 : Int32).toInt = 686 := rfl
theorem tk_687 : (687 : Int32).toInt = 687 := rfl
theorem tk_688 : (688 : Int32).toInt = 688 := rfl
theorem tk_689 : (689 : Int32).toInt = 689 := rfl
theorem tk_690 : (690 : Int32).toInt = 690 := rfl
theorem tk_691 : (691 : Int32).toInt = 691 := rfl
theorem tk_692 : (692 : Int32).toInt = 692 := rfl
theorem tk_693 : (693 : Int32).toInt = 693 := rfl
theorem tk_694 : (694 : Int32).toInt = 694 := rfl
theorem tk_695 : (695 : Int32).toInt = 695 := rfl
theorem tk_696 : (696 : Int32).toInt = 696 := rfl
theorem tk_697 : (697 : Int32).toInt = 697 := rfl
theorem tk_698 : (698 : Int32).toInt = 698 := rfl
theorem tk_699 : (699 : Int32).toInt = 699 := rfl
theorem tk_700 : (700 : Int32).toInt = 700 := rfl
theorem tk_701 : (701 : Int32).toInt = 701 := rfl
theorem tk_702 : (702 : Int32).toInt = 702 := rfl
theorem tk_703 : (703 : Int32).toInt = 703 := rfl
theorem tk_704 : (704 : Int32).toInt = 704 := rfl
theorem tk_705 : (705 : Int32).toInt = 705 := rfl
theorem tk_706 : (706 : Int32).toInt = 706 := rfl
theorem tk_707 : (707 : Int32).toInt = 707 := rfl
theorem tk_708 : (708 : Int32).toInt = 708 := rfl
theorem tk_709 : (709 : Int32).toInt = 709 := rfl
theorem tk_710 : (710 : Int32).toInt = 710 := rfl
theorem tk_711 : (711 : Int32).toInt = 711 := rfl
theorem tk_712 : (712 : Int32).toInt = 712 := rfl
theorem tk_713 : (713 : Int32).toInt = 713 := rfl
theorem tk_714 : (714 : Int32).toInt = 714 := rfl
theorem tk_715 : (715 : Int32).toInt = 715 := rfl
theorem tk_716 : (716 : Int32).toInt = 716 := rfl
theorem tk_717 : (717 : Int32).toInt = 717 := rfl
theorem tk_718 : (718 : Int32).toInt = 718 := rfl
theorem tk_719 : (719 : Int32).toInt = 719 := rfl
theorem tk_720 : (720 : Int32).toInt = 720 := rfl
theorem tk_721 : (721 : Int32).toInt = 721 := rfl
theorem tk_722 : (722 : Int32).toInt = 722 := rfl
theorem tk_723 : (723 : Int32).toInt = 723 := rfl
theorem tk_724 : (724 : Int32).toInt = 724 := rfl
theorem tk_725 : (725 : Int32).toInt = 725 := rfl
theorem tk_726 : (726 : Int32).toInt = 726 := rfl
theorem tk_727 : (727 : Int32).toInt = 727 := rfl
theorem tk_728 : (728 : Int32).toInt = 728 := rfl
theorem tk_729 : (729 : Int32).toInt = 729 := rfl
theorem tk_730 : (730 : Int32).toInt = 730 := rfl
theorem tk_731 : (731 : Int32).toInt = 731 := rfl
theorem tk_732 : (732 : Int32).toInt = 732 := rfl
theorem tk_733 : (733 : Int32).toInt = 733 := rfl
theorem tk_734 : (734 : Int32).toInt = 734 := rfl
theorem tk_735 : (735 : Int32).toInt = 735 := rfl
theorem tk_736 : (736 : Int32).toInt = 736 := rfl
theorem tk_737 : (737 : Int32).toInt = 737 := rfl
theorem tk_738 : (738 : Int32).toInt = 738 := rfl
theorem tk_739 : (739 : Int32).toInt = 739 := rfl
theorem tk_740 : (740 : Int32).toInt = 740 := rfl
theorem tk_741 : (741 : Int32).toInt = 741 := rfl
theorem tk_742 : (742 : Int32).toInt = 742 := rfl
theorem tk_743 : (743 : Int32).toInt = 743 := rfl
theorem tk_744 : (744 : Int32).toInt = 744 := rfl
theorem tk_745 : (745 : Int32).toInt = 745 := rfl
theorem tk_746 : (746 : Int32).toInt = 746 := rfl
theorem tk_747 : (747 : Int32).toInt = 747 := rfl
theorem tk_748 : (748 : Int32).toInt = 748 := rfl
theorem tk_749 : (749 : Int32).toInt = 749 := rfl
theorem tk_750 : (750 : Int32).toInt = 750 := rfl
theorem tk_751 : (751 : Int32).toInt = 751 := rfl
theorem tk_752 : (752 : Int32).toInt = 752 := rfl
theorem tk_753 : (753 : Int32).toInt = 753 := rfl
theorem tk_754 : (754 : Int32).toInt = 754 := rfl
theorem tk_755 : (755 : Int32).toInt = 755 := rfl
theorem tk_756 : (756 : Int32).toInt = 756 := rfl
theorem tk_757 : (757 : Int32).toInt = 757 := rfl
theorem tk_758 : (758 : Int32).toInt = 758 := rfl
theorem tk_759 : (759 : Int32).toInt = 759 := rfl
theorem tk_760 : (760 : Int32).toInt = 760 := rfl
theorem tk_761 : (761 : Int32).toInt = 761 := rfl
theorem tk_762 : (762 : Int32).toInt = 762 := rfl
theorem tk_763 : (763 : Int32).toInt = 763 := rfl
theorem tk_764 : (764 : Int32).toInt = 764 := rfl
theorem tk_765 : (765 : Int32).toInt = 765 := rfl
theorem tk_766 : (766 : Int32).toInt = 766 := rfl
theorem tk_767 : (767 : Int32).toInt = 767 := rfl
theorem tk_768 : (768 : Int32).toInt = 768 := rfl
theorem tk_769 : (769 : Int32).toInt = 769 := rfl
theorem tk_770 : (770 : Int32).toInt = 770 := rfl
theorem tk_771 : (771 : Int32).toInt = 771 := rfl
theorem tk_772 : (772 : Int32).toInt = 772 := rfl
theorem tk_773 : (773 : Int32).toInt = 773 := rfl
theorem tk_774 : (774 : Int32).toInt = 774 := rfl
theorem tk_775 : (775 : Int32).toInt = 775 := rfl
theorem tk_776 : (776 : Int32).toInt = 776 := rfl
theorem tk_777 : (777 : Int32).toInt = 777 := rfl
theorem tk_778 : (778 : Int32).toInt = 778 := rfl
theorem tk_779 : (779 : Int32).toInt = 779 := rfl
theorem tk_780 : (780 : Int32).toInt = 780 := rfl
theorem tk_781 : (781 : Int32).toInt = 781 := rfl
theorem tk_782 : (782 : Int32).toInt = 782 := rfl
theorem tk_783 : (783 : Int32).toInt = 783 := rfl
theorem tk_784 : (784 : Int32).toInt = 784 := rfl
theorem tk_785 : (785 : Int32).toInt = 785 := rfl
theorem tk_786 : (786 : Int32).toInt = 786 := rfl
theorem tk_787 : (787 : Int32).toInt = 787 := rfl
theorem tk_788 : (788 : Int32).toInt = 788 := rfl
theorem tk_789 : (789 : Int32).toInt = 789 := rfl
theorem tk_790 : (790 : Int32).toInt = 790 := rfl
theorem tk_791 : (791 : Int32).toInt = 791 := rfl
theorem tk_792 : (792 : Int32).toInt = 792 := rfl
theorem tk_793 : (793 : Int32).toInt = 793 := rfl
theorem tk_794 : (794 : Int32).toInt = 794 := rfl
theorem tk_795 : (795 : Int32).toInt = 795 := rfl
theorem tk_796 : (796 : Int32).toInt = 796 := rfl
theorem tk_797 : (797 : Int32).toInt = 797 := rfl
theorem tk_798 : (798 : Int32).toInt = 798 := rfl
theorem tk_799 : (799 : Int32).toInt = 799 := rfl
theorem tk_800 : (800 : Int32).toInt = 800 := rfl
theorem tk_801 : (801 : Int32).toInt = 801 := rfl
theorem tk_802 : (802 : Int32).toInt = 802 := rfl
theorem tk_803 : (803 : Int32).toInt = 803 := rfl
theorem tk_804 : (804 : Int32).toInt = 804 := rfl
theorem tk_805 : (805 : Int32).toInt = 805 := rfl
theorem tk_806 : (806 : Int32).toInt = 806 := rfl
theorem tk_807 : (807 : Int32).toInt = 807 := rfl
theorem tk_808 : (808 : Int32).toInt = 808 := rfl
theorem tk_809 : (809 : Int32).toInt = 809 := rfl
theorem tk_810 : (810 : Int32).toInt = 810 := rfl
theorem tk_811 : (811 : Int32).toInt = 811 := rfl
theorem tk_812 : (812 : Int32).toInt = 812 := rfl
theorem tk_813 : (813 : Int32).toInt = 813 := rfl
theorem tk_814 : (814 : Int32).toInt = 814 := rfl
theorem tk_815 : (815 : Int32).toInt = 815 := rfl
theorem tk_816 : (816 : Int32).toInt = 816 := rfl
theorem tk_817 : (817 : Int32).toInt = 817 := rfl
theorem tk_818 : (818 : Int32).toInt = 818 := rfl
theorem tk_819 : (819 : Int32).toInt = 819 := rfl
theorem tk_820 : (820 : Int32).toInt = 820 := rfl
theorem tk_821 : (821 : Int32).toInt = 821 := rfl
theorem tk_822 : (822 : Int32).toInt = 822 := rfl
theorem tk_823 : (823 : Int32).toInt = 823 := rfl
theorem tk_824 : (824 : Int32).toInt = 824 := rfl
theorem tk_825 : (825 : Int32).toInt = 825 := rfl
theorem tk_826 : (826 : Int32).toInt = 826 := rfl
theorem tk_827 : (827 : Int32).toInt = 827 := rfl
theorem tk_828 : (828 : Int32).toInt = 828 := rfl
theorem tk_829 : (829 : Int32).toInt = 829 := rfl
theorem tk_830 : (830 : Int32).toInt = 830 := rfl
theorem tk_831 : (831 : Int32).toInt = 831 := rfl
theorem tk_832 : (832 : Int32).toInt = 832 := rfl
theorem tk_833 : (833 : Int32).toInt = 833 := rfl
theorem tk_834 : (834 : Int32).toInt = 834 := rfl
theorem tk_835 : (835 : Int32).toInt = 835 := rfl
theorem tk_836 : (836 : Int32).toInt = 836 := rfl
theorem tk_837 : (837 : Int32).toInt = 837 := rfl
theorem tk_838 : (838 : Int32).toInt = 838 := rfl
theorem tk_839 : (839 : Int32).toInt = 839 := rfl
theorem tk_840 : (840 : Int32).toInt = 840 := rfl
theorem tk_841 : (841 : Int32).toInt = 841 := rfl
theorem tk_842 : (842 : Int32).toInt = 842 := rfl
theorem tk_843 : (843 : Int32).toInt = 843 := rfl
theorem tk_844 : (844 : Int32).toInt = 844 := rfl
theorem tk_845 : (845 : Int32).toInt = 845 := rfl
theorem tk_846 : (846 : Int32).toInt = 846 := rfl
theorem tk_847 : (847 : Int32).toInt = 847 := rfl
theorem tk_848 : (848 : Int32).toInt = 848 := rfl
theorem tk_849 : (849 : Int32).toInt = 849 := rfl
theorem tk_850 : (850 : Int32).toInt = 850 := rfl
theorem tk_851 : (851 : Int32).toInt = 851 := rfl
theorem tk_852 : (852 : Int32).toInt = 852 := rfl
theorem tk_853 : (853 : Int32).toInt = 853 := rfl
theorem tk_854 : (854 : Int32).toInt = 854 := rfl
theorem tk_855 : (855 : Int32).toInt = 855 := rfl
theorem tk_856 : (856 : Int32).toInt = 856 := rfl
theorem tk_857 : (857 : Int32).toInt = 857 := rfl
theorem tk_858 : (858 : Int32).toInt = 858 := rfl
theorem tk_859 : (859 : Int32).toInt = 859 := rfl
theorem tk_860 : (860 : Int32).toInt = 860 := rfl
theorem tk_861 : (861 : Int32).toInt = 861 := rfl
theorem tk_862 : (862 : Int32).toInt = 862 := rfl
theorem tk_863 : (863 : Int32).toInt = 863 := rfl
theorem tk_864 : (864 : Int32).toInt = 864 := rfl
theorem tk_865 : (865 : Int32).toInt = 865 := rfl
theorem tk_866 : (866 : Int32).toInt = 866 := rfl
theorem tk_867 : (867 : Int32).toInt = 867 := rfl
theorem tk_868 : (868 : Int32).toInt = 868 := rfl
theorem tk_869 : (869 : Int32).toInt = 869 := rfl
theorem tk_870 : (870 : Int32).toInt = 870 := rfl
theorem tk_871 : (871 : Int32).toInt = 871 := rfl
theorem tk_872 : (872 : Int32).toInt = 872 := rfl
theorem tk_873 : (873 : Int32).toInt = 873 := rfl
theorem tk_874 : (874 : Int32).toInt = 874 := rfl
theorem tk_875 : (875 : Int32).toInt = 875 := rfl
theorem tk_876 : (876 : Int32).toInt = 876 := rfl
theorem tk_877 : (877 : Int32).toInt = 877 := rfl
theorem tk_878 : (878 : Int32).toInt = 878 := rfl
theorem tk_879 : (879 : Int32).toInt = 879 := rfl
theorem tk_880 : (880 : Int32).toInt = 880 := rfl
theorem tk_881 : (881 : Int32).toInt = 881 := rfl
theorem tk_882 : (882 : Int32).toInt = 882 := rfl
theorem tk_883 : (883 : Int32).toInt = 883 := rfl
theorem tk_884 : (884 : Int32).toInt = 884 := rfl
theorem tk_885 : (885 : Int32).toInt = 885 := rfl
theorem tk_886 : (886 : Int32).toInt = 886 := rfl
theorem tk_887 : (887 : Int32).toInt = 887 := rfl
theorem tk_888 : (888 : Int32).toInt = 888 := rfl
theorem tk_889 : (889 : Int32).toInt = 889 := rfl
theorem tk_890 : (890 : Int32).toInt = 890 := rfl
theorem tk_891 : (891 : Int32).toInt = 891 := rfl
theorem tk_892 : (892 : Int32).toInt = 892 := rfl
theorem tk_893 : (893 : Int32).toInt = 893 := rfl
theorem tk_894 : (894 : Int32).toInt = 894 := rfl
theorem tk_895 : (895 : Int32).toInt = 895 := rfl
theorem tk_896 : (896 : Int32).toInt = 896 := rfl
theorem tk_897 : (897 : Int32).toInt = 897 := rfl
theorem tk_898 : (898 : Int32).toInt = 898 := rfl
theorem tk_899 : (899 : Int32).toInt = 899 := rfl
theorem tk_900 : (900 : Int32).toInt = 900 := rfl
theorem tk_901 : (901 : Int32).toInt = 901 := rfl
theorem tk_902 : (902 : Int32).toInt = 902 := rfl
theorem tk_903 : (903 : Int32).toInt = 903 := rfl
theorem tk_904 : (904 : Int32).toInt = 904 := rfl
theorem tk_905 : (905 : Int32).toInt = 905 := rfl
theorem tk_906 : (906 : Int32).toInt = 906 := rfl
theorem tk_907 : (907 : Int32).toInt = 907 := rfl
theorem tk_908 : (908 : Int32).toInt = 908 := rfl
theorem tk_909 : (909 : Int32).toInt = 909 := rfl
theorem tk_910 : (910 : Int32).toInt = 910 := rfl
theorem tk_911 : (911 : Int32).toInt = 911 := rfl
theorem tk_912 : (912 : Int32).toInt = 912 := rfl
theorem tk_913 : (913 : Int32).toInt = 913 := rfl
theorem tk_914 : (914 : Int32).toInt = 914 := rfl
theorem tk_915 : (915 : Int32).toInt = 915 := rfl
theorem tk_916 : (916 : Int32).toInt = 916 := rfl
theorem tk_917 : (917 : Int32).toInt = 917 := rfl
theorem tk_918 : (918 : Int32).toInt = 918 := rfl
theorem tk_919 : (919 : Int32).toInt = 919 := rfl
theorem tk_920 : (920 : Int32).toInt = 920 := rfl
theorem tk_921 : (921 : Int32).toInt = 921 := rfl
theorem tk_922 : (922 : Int32).toInt = 922 := rfl
theorem tk_923 : (923 : Int32).toInt = 923 := rfl
theorem tk_924 : (924 : Int32).toInt = 924 := rfl
theorem tk_925 : (925 : Int32).toInt = 925 := rfl
theorem tk_926 : (926 : Int32).toInt = 926 := rfl
theorem tk_927 : (927 : Int32).toInt = 927 := rfl
theorem tk_928 : (928 : Int32).toInt = 928 := rfl
theorem tk_929 : (929 : Int32).toInt = 929 := rfl
theorem tk_930 : (930 : Int32).toInt = 930 := rfl
theorem tk_931 : (931 : Int32).toInt = 931 := rfl
theorem tk_932 : (932 : Int32).toInt = 932 := rfl
theorem tk_933 : (933 : Int32).toInt = 933 := rfl
theorem tk_934 : (934 : Int32).toInt = 934 := rfl
theorem tk_935 : (935 : Int32).toInt = 935 := rfl
theorem tk_936 : (936 : Int32).toInt = 936 := rfl
theorem tk_937 : (937 : Int32).toInt = 937 := rfl
theorem tk_938 : (938 : Int32).toInt = 938 := rfl
theorem tk_939 : (939 : Int32).toInt = 939 := rfl
theorem tk_940 : (940 : Int32).toInt = 940 := rfl
theorem tk_941 : (941 : Int32).toInt = 941 := rfl
theorem tk_942 : (942 : Int32).toInt = 942 := rfl
theorem tk_943 : (943 : Int32).toInt = 943 := rfl
theorem tk_944 : (944 : Int32).toInt = 944 := rfl
theorem tk_945 : (945 : Int32).toInt = 945 := rfl
theorem tk_946 : (946 : Int32).toInt = 946 := rfl
theorem tk_947 : (947 : Int32).toInt = 947 := rfl
theorem tk_948 : (948 : Int32).toInt = 948 := rfl
theorem tk_949 : (949 : Int32).toInt = 949 := rfl
theorem tk_950 : (950 : Int32).toInt = 950 := rfl
theorem tk_951 : (951 : Int32).toInt = 951 := rfl
theorem tk_952 : (952 : Int32).toInt = 952 := rfl
theorem tk_953 : (953 : Int32).toInt = 953 := rfl
theorem tk_954 : (954 : Int32).toInt = 954 := rfl
theorem tk_955 : (955 : Int32).toInt = 955 := rfl
theorem tk_956 : (956 : Int32).toInt = 956 := rfl
theorem tk_957 : (957 : Int32).toInt = 957 := rfl
theorem tk_958 : (958 : Int32).toInt = 958 := rfl
theorem tk_959 : (959 : Int32).toInt = 959 := rfl
theorem tk_960 : (960 : Int32).toInt = 960 := rfl
theorem tk_961 : (961 : Int32).toInt = 961 := rfl
theorem tk_962 : (962 : Int32).toInt = 962 := rfl
theorem tk_963 : (963 : Int32).toInt = 963 := rfl
theorem tk_964 : (964 : Int32).toInt = 964 := rfl
theorem tk_965 : (965 : Int32).toInt = 965 := rfl
theorem tk_966 : (966 : Int32).toInt = 966 := rfl
theorem tk_967 : (967 : Int32).toInt = 967 := rfl
theorem tk_968 : (968 : Int32).toInt = 968 := rfl
theorem tk_969 : (969 : Int32).toInt = 969 := rfl
theorem tk_970 : (970 : Int32).toInt = 970 := rfl
theorem tk_971 : (971 : Int32).toInt = 971 := rfl
theorem tk_972 : (972 : Int32).toInt = 972 := rfl
theorem tk_973 : (973 : Int32).toInt = 973 := rfl
theorem tk_974 : (974 : Int32).toInt = 974 := rfl
theorem tk_975 : (975 : Int32).toInt = 975 := rfl
theorem tk_976 : (976 : Int32).toInt = 976 := rfl
theorem tk_977 : (977 : Int32).toInt = 977 := rfl
theorem tk_978 : (978 : Int32).toInt = 978 := rfl
theorem tk_979 : (979 : Int32).toInt = 979 := rfl
theorem tk_980 : (980 : Int32).toInt = 980 := rfl
theorem tk_981 : (981 : Int32).toInt = 981 := rfl
theorem tk_982 : (982 : Int32).toInt = 982 := rfl
theorem tk_983 : (983 : Int32).toInt = 983 := rfl
theorem tk_984 : (984 : Int32).toInt = 984 := rfl
theorem tk_985 : (985 : Int32).toInt = 985 := rfl
theorem tk_986 : (986 : Int32).toInt = 986 := rfl
theorem tk_987 : (987 : Int32).toInt = 987 := rfl
theorem tk_988 : (988 : Int32).toInt = 988 := rfl
theorem tk_989 : (989 : Int32).toInt = 989 := rfl
theorem tk_990 : (990 : Int32).toInt = 990 := rfl
theorem tk_991 : (991 : Int32).toInt = 991 := rfl
theorem tk_992 : (992 : Int32).toInt = 992 := rfl
theorem tk_993 : (993 : Int32).toInt = 993 := rfl
theorem tk_994 : (994 : Int32).toInt = 994 := rfl
theorem tk_995 : (995 : Int32).toInt = 995 := rfl
theorem tk_996 : (996 : Int32).toInt = 996 := rfl
theorem tk_997 : (997 : Int32).toInt = 997 := rfl
theorem tk_998 : (998 : Int32).toInt = 998 := rfl
theorem tk_1002 : (1002 : Int32).toInt = 1002 := rfl
theorem tk_1003 : (1003 : Int32).toInt = 1003 := rfl
theorem tk_1004 : (1004 : Int32).toInt = 1004 := rfl
theorem tk_1005 : (1005 : Int32).toInt = 1005 := rfl
theorem tk_1006 : (1006 : Int32).toInt = 1006 := rfl
theorem tk_1007 : (1007 : Int32).toInt = 1007 := rfl
theorem tk_1008 : (1008 : Int32).toInt = 1008 := rfl
theorem tk_1009 : (1009 : Int32).toInt = 1009 := rfl
theorem tk_1010 : (1010 : Int32).toInt = 1010 := rfl
theorem tk_1011 : (1011 : Int32).toInt = 1011 := rfl
theorem tk_1012 : (1012 : Int32).toInt = 1012 := rfl
theorem tk_1013 : (1013 : Int32).toInt = 1013 := rfl
theorem tk_1014 : (1014 : Int32).toInt = 1014 := rfl
theorem tk_1015 : (1015 : Int32).toInt = 1015 := rfl
theorem tk_1016 : (1016 : Int32).toInt = 1016 := rfl
theorem tk_1017 : (1017 : Int32).toInt = 1017 := rfl
theorem tk_1018 : (1018 : Int32).toInt = 1018 := rfl
theorem tk_1019 : (1019 : Int32).toInt = 1019 := rfl
theorem tk_1020 : (1020 : Int32).toInt = 1020 := rfl
theorem tk_1021 : (1021 : Int32).toInt = 1021 := rfl
theorem tk_1022 : (1022 : Int32).toInt = 1022 := rfl
theorem tk_1023 : (1023 : Int32).toInt = 1023 := rfl
theorem tk_1024 : (1024 : Int32).toInt = 1024 := rfl
theorem tk_1025 : (1025 : Int32).toInt = 1025 := rfl
theorem tk_1026 : (1026 : Int32).toInt = 1026 := rfl
theorem tk_1027 : (1027 : Int32).toInt = 1027 := rfl
theorem tk_1028 : (1028 : Int32).toInt = 1028 := rfl
theorem tk_1029 : (1029 : Int32).toInt = 1029 := rfl
theorem tk_1030 : (1030 : Int32).toInt = 1030 := rfl
theorem tk_1031 : (1031 : Int32).toInt = 1031 := rfl
theorem tk_1032 : (1032 : Int32).toInt = 1032 := rfl
theorem tk_1033 : (1033 : Int32).toInt = 1033 := rfl
theorem tk_1034 : (1034 : Int32).toInt = 1034 := rfl
theorem tk_1035 : (1035 : Int32).toInt = 1035 := rfl
theorem tk_1036 : (1036 : Int32).toInt = 1036 := rfl
theorem tk_1037 : (1037 : Int32).toInt = 1037 := rfl
theorem tk_1038 : (1038 : Int32).toInt = 1038 := rfl
theorem tk_1039 : (1039 : Int32).toInt = 1039 := rfl
theorem tk_1040 : (1040 : Int32).toInt = 1040 := rfl
theorem tk_1041 : (1041 : Int32).toInt = 1041 := rfl
theorem tk_1042 : (1042 : Int32).toInt = 1042 := rfl
theorem tk_1043 : (1043 : Int32).toInt = 1043 := rfl
theorem tk_1044 : (1044 : Int32).toInt = 1044 := rfl
theorem tk_1045 : (1045 : Int32).toInt = 1045 := rfl
theorem tk_1046 : (1046 : Int32).toInt = 1046 := rfl
theorem tk_1047 : (1047 : Int32).toInt = 1047 := rfl
theorem tk_1048 : (1048 : Int32).toInt = 1048 := rfl
theorem tk_1049 : (1049 : Int32).toInt = 1049 := rfl
theorem tk_1050 : (1050 : Int32).toInt = 1050 := rfl
theorem tk_1051 : (1051 : Int32).toInt = 1051 := rfl
theorem tk_1052 : (1052 : Int32).toInt = 1052 := rfl
theorem tk_1053 : (1053 : Int32).toInt = 1053 := rfl
theorem tk_1054 : (1054 : Int32).toInt = 1054 := rfl
theorem tk_1055 : (1055 : Int32).toInt = 1055 := rfl
theorem tk_1056 : (1056 : Int32).toInt = 1056 := rfl
theorem tk_1057 : (1057 : Int32).toInt = 1057 := rfl
theorem tk_1058 : (1058 : Int32).toInt = 1058 := rfl
theorem tk_1059 : (1059 : Int32).toInt = 1059 := rfl
theorem tk_1060 : (1060 : Int32).toInt = 1060 := rfl
theorem tk_1061 : (1061 : Int32).toInt = 1061 := rfl
theorem tk_1062 : (1062 : Int32).toInt = 1062 := rfl
theorem tk_1063 : (1063 : Int32).toInt = 1063 := rfl
theorem tk_1064 : (1064 : Int32).toInt = 1064 := rfl
theorem tk_1065 : (1065 : Int32).toInt = 1065 := rfl
theorem tk_1066 : (1066 : Int32).toInt = 1066 := rfl
theorem tk_1067 : (1067 : Int32).toInt = 1067 := rfl
theorem tk_1068 : (1068 : Int32).toInt = 1068 := rfl
theorem tk_1069 : (1069 : Int32).toInt = 1069 := rfl
theorem tk_1070 : (1070 : Int32).toInt = 1070 := rfl
theorem tk_1071 : (1071 : Int32).toInt = 1071 := rfl
theorem tk_1072 : (1072 : Int32).toInt = 1072 := rfl
theorem tk_1073 : (1073 : Int32).toInt = 1073 := rfl
theorem tk_1074 : (1074 : Int32).toInt = 1074 := rfl
theorem tk_1075 : (1075 : Int32).toInt = 1075 := rfl
theorem tk_1076 : (1076 : Int32).toInt = 1076 := rfl
theorem tk_1077 : (1077 : Int32).toInt = 1077 := rfl
theorem tk_1078 : (1078 : Int32).toInt = 1078 := rfl
theorem tk_1079 : (1079 : Int32).toInt = 1079 := rfl
theorem tk_1080 : (1080 : Int32).toInt = 1080 := rfl
theorem tk_1081 : (1081 : Int32).toInt = 1081 := rfl
theorem tk_1082 : (1082 : Int32).toInt = 1082 := rfl
theorem tk_1083 : (1083 : Int32).toInt = 1083 := rfl
theorem tk_1084 : (1084 : Int32).toInt = 1084 := rfl
theorem tk_1085 : (1085 : Int32).toInt = 1085 := rfl
theorem tk_1086 : (1086 : Int32).toInt = 1086 := rfl
theorem tk_1087 : (1087 : Int32).toInt = 1087 := rfl
theorem tk_1088 : (1088 : Int32).toInt = 1088 := rfl
theorem tk_1089 : (1089 : Int32).toInt = 1089 := rfl
theorem tk_1090 : (1090 : Int32).toInt = 1090 := rfl
theorem tk_1091 : (1091 : Int32).toInt = 1091 := rfl
theorem tk_1092 : (1092 : Int32).toInt = 1092 := rfl
theorem tk_1093 : (1093 : Int32).toInt = 1093 := rfl
theorem tk_1094 : (1094 : Int32).toInt = 1094 := rfl
theorem tk_1095 : (1095 : Int32).toInt = 1095 := rfl
theorem tk_1096 : (1096 : Int32).toInt = 1096 := rfl
theorem tk_1097 : (1097 : Int32).toInt = 1097 := rfl
theorem tk_1098 : (1098 : Int32).toInt = 1098 := rfl
theorem tk_1099 : (1099 : Int32).toInt = 1099 := rfl
theorem tk_1100 : (1100 : Int32).toInt = 1100 := rfl
theorem tk_1101 : (1101 : Int32).toInt = 1101 := rfl
theorem tk_1102 : (1102 : Int32).toInt = 1102 := rfl
theorem tk_1104 : (1104 : Int32).toInt = 1104 := rfl
theorem tk_1105 : (1105 : Int32).toInt = 1105 := rfl
theorem tk_1106 : (1106 : Int32).toInt = 1106 := rfl
theorem tk_1107 : (1107 : Int32).toInt = 1107 := rfl
theorem tk_1108 : (1108 : Int32).toInt = 1108 := rfl
theorem tk_1109 : (1109 : Int32).toInt = 1109 := rfl
theorem tk_1110 : (1110 : Int32).toInt = 1110 := rfl
theorem tk_1111 : (1111 : Int32).toInt = 1111 := rfl
theorem tk_1112 : (1112 : Int32).toInt = 1112 := rfl
theorem tk_1113 : (1113 : Int32).toInt = 1113 := rfl
theorem tk_1114 : (1114 : Int32).toInt = 1114 := rfl
theorem tk_1115 : (1115 : Int32).toInt = 1115 := rfl
theorem tk_1116 : (1116 : Int32).toInt = 1116 := rfl
theorem tk_1117 : (1117 : Int32).toInt = 1117 := rfl
theorem tk_1118 : (1118 : Int32).toInt = 1118 := rfl
theorem tk_1119 : (1119 : Int32).toInt = 1119 := rfl
theorem tk_1120 : (1120 : Int32).toInt = 1120 := rfl
theorem tk_1121 : (1121 : Int32).toInt = 1121 := rfl
theorem tk_1122 : (1122 : Int32).toInt = 1122 := rfl
theorem tk_1123 : (1123 : Int32).toInt = 1123 := rfl
theorem tk_1124 : (1124 : Int32).toInt = 1124 := rfl
theorem tk_1125 : (1125 : Int32).toInt = 1125 := rfl
theorem tk_1126 : (1126 : Int32).toInt = 1126 := rfl
theorem tk_1127 : (1127 : Int32).toInt = 1127 := rfl
theorem tk_1128 : (1128 : Int32).toInt = 1128 := rfl
theorem tk_1129 : (1129 : Int32).toInt = 1129 := rfl
theorem tk_1130 : (1130 : Int32).toInt = 1130 := rfl
theorem tk_1131 : (1131 : Int32).toInt = 1131 := rfl
theorem tk_1132 : (1132 : Int32).toInt = 1132 := rfl
theorem tk_1133 : (1133 : Int32).toInt = 1133 := rfl
theorem tk_1134 : (1134 : Int32).toInt = 1134 := rfl
theorem tk_1135 : (1135 : Int32).toInt = 1135 := rfl
theorem tk_1136 : (1136 : Int32).toInt = 1136 := rfl
theorem tk_1137 : (1137 : Int32).toInt = 1137 := rfl
theorem tk_1138 : (1138 : Int32).toInt = 1138 := rfl
theorem tk_1139 : (1139 : Int32).toInt = 1139 := rfl
theorem tk_1140 : (1140 : Int32).toInt = 1140 := rfl
theorem tk_1141 : (1141 : Int32).toInt = 1141 := rfl
theorem tk_1142 : (1142 : Int32).toInt = 1142 := rfl
theorem tk_1143 : (1143 : Int32).toInt = 1143 := rfl
theorem tk_1144 : (1144 : Int32).toInt = 1144 := rfl
theorem tk_1145 : (1145 : Int32).toInt = 1145 := rfl
theorem tk_1146 : (1146 : Int32).toInt = 1146 := rfl
theorem tk_1147 : (1147 : Int32).toInt = 1147 := rfl
theorem tk_1148 : (1148 : Int32).toInt = 1148 := rfl
theorem tk_1149 : (1149 : Int32).toInt = 1149 := rfl
theorem tk_1150 : (1150 : Int32).toInt = 1150 := rfl
theorem tk_1151 : (1151 : Int32).toInt = 1151 := rfl
theorem tk_1152 : (1152 : Int32).toInt = 1152 := rfl
theorem tk_1153 : (1153 : Int32).toInt = 1153 := rfl
theorem tk_1154 : (1154 : Int32).toInt = 1154 := rfl
theorem tk_1155 : (1155 : Int32).toInt = 1155 := rfl
theorem tk_1156 : (1156 : Int32).toInt = 1156 := rfl
theorem tk_1157 : (1157 : Int32).toInt = 1157 := rfl
theorem tk_1158 : (1158 : Int32).toInt = 1158 := rfl
theorem tk_1159 : (1159 : Int32).toInt = 1159 := rfl
theorem tk_1160 : (1160 : Int32).toInt = 1160 := rfl
theorem tk_1161 : (1161 : Int32).toInt = 1161 := rfl
theorem tk_1162 : (1162 : Int32).toInt = 1162 := rfl
theorem tk_1163 : (1163 : Int32).toInt = 1163 := rfl
theorem tk_1164 : (1164 : Int32).toInt = 1164 := rfl
theorem tk_1165 : (1165 : Int32).toInt = 1165 := rfl
theorem tk_1166 : (1166 : Int32).toInt = 1166 := rfl
theorem tk_1167 : (1167 : Int32).toInt = 1167 := rfl
theorem tk_1168 : (1168 : Int32).toInt = 1168 := rfl
theorem tk_1169 : (1169 : Int32).toInt = 1169 := rfl
theorem tk_1170 : (1170 : Int32).toInt = 1170 := rfl
theorem tk_1171 : (1171 : Int32).toInt = 1171 := rfl
theorem tk_1172 : (1172 : Int32).toInt = 1172 := rfl
theorem tk_1173 : (1173 : Int32).toInt = 1173 := rfl
theorem tk_1174 : (1174 : Int32).toInt = 1174 := rfl
theorem tk_1175 : (1175 : Int32).toInt = 1175 := rfl
theorem tk_1176 : (1176 : Int32).toInt = 1176 := rfl
theorem tk_1177 : (1177 : Int32).toInt = 1177 := rfl
theorem tk_1178 : (1178 : Int32).toInt = 1178 := rfl
theorem tk_1179 : (1179 : Int32).toInt = 1179 := rfl
theorem tk_1180 : (1180 : Int32).toInt = 1180 := rfl
theorem tk_1181 : (1181 : Int32).toInt = 1181 := rfl
theorem tk_1182 : (1182 : Int32).toInt = 1182 := rfl
theorem tk_1183 : (1183 : Int32).toInt = 1183 := rfl
theorem tk_1184 : (1184 : Int32).toInt = 1184 := rfl
theorem tk_1185 : (1185 : Int32).toInt = 1185 := rfl
theorem tk_1186 : (1186 : Int32).toInt = 1186 := rfl
theorem tk_1187 : (1187 : Int32).toInt = 1187 := rfl
theorem tk_1188 : (1188 : Int32).toInt = 1188 := rfl
theorem tk_1189 : (1189 : Int32).toInt = 1189 := rfl
theorem tk_1190 : (1190 : Int32).toInt = 1190 := rfl
theorem tk_1191 : (1191 : Int32).toInt = 1191 := rfl
theorem tk_1192 : (1192 : Int32).toInt = 1192 := rfl
theorem tk_1193 : (1193 : Int32).toInt = 1193 := rfl
theorem tk_1194 : (1194 : Int32).toInt = 1194 := rfl
theorem tk_1195 : (1195 : Int32).toInt = 1195 := rfl
theorem tk_1196 : (1196 : Int32).toInt = 1196 := rfl
theorem tk_1197 : (1197 : Int32).toInt = 1197 := rfl
theorem tk_1198 : (1198 : Int32).toInt = 1198 := rfl
theorem tk_1199 : (1199 : Int32).toInt = 1199 := rfl
theorem tk_1200 : (1200 : Int32).toInt = 1200 := rfl
theorem tk_1201 : (1201 : Int32).toInt = 1201 := rfl
theorem tk_1202 : (1202 : Int32).toInt = 1202 := rfl
theorem tk_1203 : (1203 : Int32).toInt = 1203 := rfl
theorem tk_1204 : (1204 : Int32).toInt = 1204 := rfl
theorem tk_1205 : (1205 : Int32).toInt = 1205 := rfl
theorem tk_1206 : (1206 : Int32).toInt = 1206 := rfl
theorem tk_1207 : (1207 : Int32).toInt = 1207 := rfl
theorem tk_1208 : (1208 : Int32).toInt = 1208 := rfl
theorem tk_1209 : (1209 : Int32).toInt = 1209 := rfl
theorem tk_1210 : (1210 : Int32).toInt = 1210 := rfl
theorem tk_1211 : (1211 : Int32).toInt = 1211 := rfl
theorem tk_1212 : (1212 : Int32).toInt = 1212 := rfl
theorem tk_1213 : (1213 : Int32).toInt = 1213 := rfl
theorem tk_1214 : (1214 : Int32).toInt = 1214 := rfl
theorem tk_1215 : (1215 : Int32).toInt = 1215 := rfl
theorem tk_1216 : (1216 : Int32).toInt = 1216 := rfl
theorem tk_1217 : (1217 : Int32).toInt = 1217 := rfl
theorem tk_1218 : (1218 : Int32).toInt = 1218 := rfl
theorem tk_1219 : (1219 : Int32).toInt = 1219 := rfl
theorem tk_1220 : (1220 : Int32).toInt = 1220 := rfl
theorem tk_1221 : (1221 : Int32).toInt = 1221 := rfl
theorem tk_1222 : (1222 : Int32).toInt = 1222 := rfl
theorem tk_1223 : (1223 : Int32).toInt = 1223 := rfl
theorem tk_1224 : (1224 : Int32).toInt = 1224 := rfl
theorem tk_1225 : (1225 : Int32).toInt = 1225 := rfl
theorem tk_1226 : (1226 : Int32).toInt = 1226 := rfl
theorem tk_1227 : (1227 : Int32).toInt = 1227 := rfl
theorem tk_1228 : (1228 : Int32).toInt = 1228 := rfl
theorem tk_1229 : (1229 : Int32).toInt = 1229 := rfl
theorem tk_1230 : (1230 : Int32).toInt = 1230 := rfl
theorem tk_1231 : (1231 : Int32).toInt = 1231 := rfl
theorem tk_1232 : (1232 : Int32).toInt = 1232 := rfl
theorem tk_1233 : (1233 : Int32).toInt = 1233 := rfl
theorem tk_1234 : (1234 : Int32).toInt = 1234 := rfl
theorem tk_1235 : (1235 : Int32).toInt = 1235 := rfl
theorem tk_1236 : (1236 : Int32).toInt = 1236 := rfl
theorem tk_1237 : (1237 : Int32).toInt = 1237 := rfl
theorem tk_1238 : (1238 : Int32).toInt = 1238 := rfl
theorem tk_1239 : (1239 : Int32).toInt = 1239 := rfl
theorem tk_1240 : (1240 : Int32).toInt = 1240 := rfl
theorem tk_1241 : (1241 : Int32).toInt = 1241 := rfl
theorem tk_1242 : (1242 : Int32).toInt = 1242 := rfl
theorem tk_1243 : (1243 : Int32).toInt = 1243 := rfl
theorem tk_1244 : (1244 : Int32).toInt = 1244 := rfl
theorem tk_1245 : (1245 : Int32).toInt = 1245 := rfl
theorem tk_1246 : (1246 : Int32).toInt = 1246 := rfl
theorem tk_1247 : (1247 : Int32).toInt = 1247 := rfl
theorem tk_1248 : (1248 : Int32).toInt = 1248 := rfl
theorem tk_1249 : (1249 : Int32).toInt = 1249 := rfl
theorem tk_1250 : (1250 : Int32).toInt = 1250 := rfl
theorem tk_1251 : (1251 : Int32).toInt = 1251 := rfl
theorem tk_1252 : (1252 : Int32).toInt = 1252 := rfl
theorem tk_1253 : (1253 : Int32).toInt = 1253 := rfl
theorem tk_1254 : (1254 : Int32).toInt = 1254 := rfl
theorem tk_1255 : (1255 : Int32).toInt = 1255 := rfl
theorem tk_1256 : (1256 : Int32).toInt = 1256 := rfl
theorem tk_1257 : (1257 : Int32).toInt = 1257 := rfl
theorem tk_1258 : (1258 : Int32).toInt = 1258 := rfl
theorem tk_1259 : (1259 : Int32).toInt = 1259 := rfl
theorem tk_1260 : (1260 : Int32).toInt = 1260 := rfl
theorem tk_1261 : (1261 : Int32).toInt = 1261 := rfl
theorem tk_1262 : (1262 : Int32).toInt = 1262 := rfl
theorem tk_1263 : (1263 : Int32).toInt = 1263 := rfl
theorem tk_1264 : (1264 : Int32).toInt = 1264 := rfl
theorem tk_1265 : (1265 : Int32).toInt = 1265 := rfl
theorem tk_1266 : (1266 : Int32).toInt = 1266 := rfl
theorem tk_1267 : (1267 : Int32).toInt = 1267 := rfl
theorem tk_1268 : (1268 : Int32).toInt = 1268 := rfl
theorem tk_1269 : (1269 : Int32).toInt = 1269 := rfl
theorem tk_1270 : (1270 : Int32).toInt = 1270 := rfl
theorem tk_1271 : (1271 : Int32).toInt = 1271 := rfl
theorem tk_1272 : (1272 : Int32).toInt = 1272 := rfl
theorem tk_1273 : (1273 : Int32).toInt = 1273 := rfl
theorem tk_1274 : (1274 : Int32).toInt = 1274 := rfl
theorem tk_1275 : (1275 : Int32).toInt = 1275 := rfl
theorem tk_1276 : (1276 : Int32).toInt = 1276 := rfl
theorem tk_1277 : (1277 : Int32).toInt = 1277 := rfl
theorem tk_1278 : (1278 : Int32).toInt = 1278 := rfl
theorem tk_1279 : (1279 : Int32).toInt = 1279 := rfl
theorem tk_1280 : (1280 : Int32).toInt = 1280 := rfl
theorem tk_1281 : (1281 : Int32).toInt = 1281 := rfl
theorem tk_1282 : (1282 : Int32).toInt = 1282 := rfl
theorem tk_1283 : (1283 : Int32).toInt = 1283 := rfl
theorem tk_1284 : (1284 : Int32).toInt = 1284 := rfl
theorem tk_1285 : (1285 : Int32).toInt = 1285 := rfl
theorem tk_1286 : (1286 : Int32).toInt = 1286 := rfl
theorem tk_1287 : (1287 : Int32).toInt = 1287 := rfl
theorem tk_1288 : (1288 : Int32).toInt = 1288 := rfl
theorem tk_1289 : (1289 : Int32).toInt = 1289 := rfl
theorem tk_1290 : (1290 : Int32).toInt = 1290 := rfl
theorem tk_1291 : (1291 : Int32).toInt = 1291 := rfl
theorem tk_1292 : (1292 : Int32).toInt = 1292 := rfl
theorem tk_1293 : (1293 : Int32).toInt = 1293 := rfl
theorem tk_1294 : (1294 : Int32).toInt = 1294 := rfl
theorem tk_1295 : (1295 : Int32).toInt = 1295 := rfl
theorem tk_1296 : (1296 : Int32).toInt = 1296 := rfl
theorem tk_1297 : (1297 : Int32).toInt = 1297 := rfl
theorem tk_1298 : (1298 : Int32).toInt = 1298 := rfl
theorem tk_1299 : (1299 : Int32).toInt = 1299 := rfl
theorem tk_1300 : (1300 : Int32).toInt = 1300 := rfl
theorem tk_1301 : (1301 : Int32).toInt = 1301 := rfl
theorem tk_1302 : (1302 : Int32).toInt = 1302 := rfl
theorem tk_1303 : (1303 : Int32).toInt = 1303 := rfl
theorem tk_1304 : (1304 : Int32).toInt = 1304 := rfl
theorem tk_1305 : (1305 : Int32).toInt = 1305 := rfl
theorem tk_1306 : (1306 : Int32).toInt = 1306 := rfl
theorem tk_1307 : (1307 : Int32).toInt = 1307 := rfl
theorem tk_1308 : (1308 : Int32).toInt = 1308 := rfl
theorem tk_1309 : (1309 : Int32).toInt = 1309 := rfl
theorem tk_1310 : (1310 : Int32).toInt = 1310 := rfl
theorem tk_1311 : (1311 : Int32).toInt = 1311 := rfl
theorem tk_1312 : (1312 : Int32).toInt = 1312 := rfl
theorem tk_1313 : (1313 : Int32).toInt = 1313 := rfl
theorem tk_1314 : (1314 : Int32).toInt = 1314 := rfl
theorem tk_1315 : (1315 : Int32).toInt = 1315 := rfl
theorem tk_1316 : (1316 : Int32).toInt = 1316 := rfl
theorem tk_1317 : (1317 : Int32).toInt = 1317 := rfl
theorem tk_1318 : (1318 : Int32).toInt = 1318 := rfl
theorem tk_1319 : (1319 : Int32).toInt = 1319 := rfl
theorem tk_1320 : (1320 : Int32).toInt = 1320 := rfl
theorem tk_1321 : (1321 : Int32).toInt = 1321 := rfl
theorem tk_1322 : (1322 : Int32).toInt = 1322 := rfl
theorem tk_1323 : (1323 : Int32).toInt = 1323 := rfl
theorem tk_1324 : (1324 : Int32).toInt = 1324 := rfl
theorem tk_1325 : (1325 : Int32).toInt = 1325 := rfl
theorem tk_1326 : (1326 : Int32).toInt = 1326 := rfl
theorem tk_1327 : (1327 : Int32).toInt = 1327 := rfl
theorem tk_1328 : (1328 : Int32).toInt = 1328 := rfl
theorem tk_1329 : (1329 : Int32).toInt = 1329 := rfl
theorem tk_1330 : (1330 : Int32).toInt = 1330 := rfl
theorem tk_1331 : (1331 : Int32).toInt = 1331 := rfl
theorem tk_1332 : (1332 : Int32).toInt = 1332 := rfl
theorem tk_1333 : (1333 : Int32).toInt = 1333 := rfl
theorem tk_1334 : (1334 : Int32).toInt = 1334 := rfl
theorem tk_1335 : (1335 : Int32).toInt = 1335 := rfl
theorem tk_1336 : (1336 : Int32).toInt = 1336 := rfl
theorem tk_1337 : (1337 : Int32).toInt = 1337 := rfl
theorem tk_1338 : (1338 : Int32).toInt = 1338 := rfl
theorem tk_1339 : (1339 : Int32).toInt = 1339 := rfl
theorem tk_1340 : (1340 : Int32).toInt = 1340 := rfl
theorem tk_1341 : (1341 : Int32).toInt = 1341 := rfl
theorem tk_1342 : (1342 : Int32).toInt = 1342 := rfl
theorem tk_1343 : (1343 : Int32).toInt = 1343 := rfl
theorem tk_1344 : (1344 : Int32).toInt = 1344 := rfl
theorem tk_1345 : (1345 : Int32).toInt = 1345 := rfl
theorem tk_1346 : (1346 : Int32).toInt = 1346 := rfl
theorem tk_1347 : (1347 : Int32).toInt = 1347 := rfl
theorem tk_1348 : (1348 : Int32).toInt = 1348 := rfl
theorem tk_1349 : (1349 : Int32).toInt = 1349 := rfl
theorem tk_1350 : (1350 : Int32).toInt = 1350 := rfl
theorem tk_1351 : (1351 : Int32).toInt = 1351 := rfl
theorem tk_1352 : (1352 : Int32).toInt = 1352 := rfl
theorem tk_1353 : (1353 : Int32).toInt = 1353 := rfl
theorem tk_1354 : (1354 : Int32).toInt = 1354 := rfl
theorem tk_1355 : (1355 : Int32).toInt = 1355 := rfl
theorem tk_1356 : (1356 : Int32).toInt = 1356 := rfl
theorem tk_1357 : (1357 : Int32).toInt = 1357 := rfl
theorem tk_1358 : (1358 : Int32).toInt = 1358 := rfl
theorem tk_1359 : (1359 : Int32).toInt = 1359 := rfl
theorem tk_1360 : (1360 : Int32).toInt = 1360 := rfl
theorem tk_1361 : (1361 : Int32).toInt = 1361 := rfl
theorem tk_1362 : (1362 : Int32).toInt = 1362 := rfl
theorem tk_1363 : (1363 : Int32).toInt = 1363 := rfl
theorem tk_1364 : (1364 : Int32).toInt = 1364 := rfl
theorem tk_1365 : (1365 : Int32).toInt = 1365 := rfl
theorem tk_1366 : (1366 : Int32).toInt = 1366 := rfl
theorem tk_1367 : (1367 : Int32).toInt = 1367 := rfl
theorem tk_1368 : (1368 : Int32).toInt = 1368 := rfl
theorem tk_1369 : (1369 : Int32).toInt = 1369 := rfl
theorem tk_1370 : (1370 : Int32).toInt = 1370 := rfl
theorem tk_1371 : (1371 : Int32).toInt = 1371 := rfl
theorem tk_1372 : (1372 : Int32).toInt = 1372 := rfl
theorem tk_1373 : (1373 : Int32).toInt = 1373 := rfl
theorem tk_1374 : (1374 : Int32).toInt = 1374 := rfl
theorem tk_1375 : (1375 : Int32).toInt = 1375 := rfl
theorem tk_1376 : (1376 : Int32).toInt = 1376 := rfl
theorem tk_1377 : (1377 : Int32).toInt = 1377 := rfl
theorem tk_1378 : (1378 : Int32).toInt = 1378 := rfl
theorem tk_1379 : (1379 : Int32).toInt = 1379 := rfl
theorem tk_1380 : (1380 : Int32).toInt = 1380 := rfl
theorem tk_1381 : (1381 : Int32).toInt = 1381 := rfl
theorem tk_1382 : (1382 : Int32).toInt = 1382 := rfl
theorem tk_1383 : (1383 : Int32).toInt = 1383 := rfl
theorem tk_1384 : (1384 : Int32).toInt = 1384 := rfl
theorem tk_1385 : (1385 : Int32).toInt = 1385 := rfl
theorem tk_1386 : (1386 : Int32).toInt = 1386 := rfl
theorem tk_1387 : (1387 : Int32).toInt = 1387 := rfl
theorem tk_1388 : (1388 : Int32).toInt = 1388 := rfl
theorem tk_1389 : (1389 : Int32).toInt = 1389 := rfl
theorem tk_1390 : (1390 : Int32).toInt = 1390 := rfl
theorem tk_1391 : (1391 : Int32).toInt = 1391 := rfl
theorem tk_1392 : (1392 : Int32).toInt = 1392 := rfl
theorem tk_1393 : (1393 : Int32).toInt = 1393 := rfl
theorem tk_1394 : (1394 : Int32).toInt = 1394 := rfl
theorem tk_1395 : (1395 : Int32).toInt = 1395 := rfl
theorem tk_1396 : (1396 : Int32).toInt = 1396 := rfl
theorem tk_1397 : (1397 : Int32).toInt = 1397 := rfl
theorem tk_1398 : (1398 : Int32).toInt = 1398 := rfl
theorem tk_1399 : (1399 : Int32).toInt = 1399 := rfl
theorem tk_1400 : (1400 : Int32).toInt = 1400 := rfl
theorem tk_1401 : (1401 : Int32).toInt = 1401 := rfl
theorem tk_1402 : (1402 : Int32).toInt = 1402 := rfl
theorem tk_1403 : (1403 : Int32).toInt = 1403 := rfl
theorem tk_1404 : (1404 : Int32).toInt = 1404 := rfl
theorem tk_1405 : (1405 : Int32).toInt = 1405 := rfl
theorem tk_1406 : (1406 : Int32).toInt = 1406 := rfl
theorem tk_1407 : (1407 : Int32).toInt = 1407 := rfl
theorem tk_1408 : (1408 : Int32).toInt = 1408 := rfl
theorem tk_1409 : (1409 : Int32).toInt = 1409 := rfl
theorem tk_1410 : (1410 : Int32).toInt = 1410 := rfl
theorem tk_1411 : (1411 : Int32).toInt = 1411 := rfl
theorem tk_1412 : (1412 : Int32).toInt = 1412 := rfl
theorem tk_1413 : (1413 : Int32).toInt = 1413 := rfl
theorem tk_1414 : (1414 : Int32).toInt = 1414 := rfl
theorem tk_1415 : (1415 : Int32).toInt = 1415 := rfl
theorem tk_1416 : (1416 : Int32).toInt = 1416 := rfl
theorem tk_1417 : (1417 : Int32).toInt = 1417 := rfl
theorem tk_1418 : (1418 : Int32).toInt = 1418 := rfl
theorem tk_1419 : (1419 : Int32).toInt = 1419 := rfl
theorem tk_1420 : (1420 : Int32).toInt = 1420 := rfl
theorem tk_1421 : (1421 : Int32).toInt = 1421 := rfl
theorem tk_1422 : (1422 : Int32).toInt = 1422 := rfl
theorem tk_1423 : (1423 : Int32).toInt = 1423 := rfl
theorem tk_1424 : (1424 : Int32).toInt = 1424 := rfl
theorem tk_1425 : (1425 : Int32).toInt = 1425 := rfl
theorem tk_1426 : (1426 : Int32).toInt = 1426 := rfl
theorem tk_1427 : (1427 : Int32).toInt = 1427 := rfl
theorem tk_1428 : (1428 : Int32).toInt = 1428 := rfl
theorem tk_1429 : (1429 : Int32).toInt = 1429 := rfl
theorem tk_1430 : (1430 : Int32).toInt = 1430 := rfl
theorem tk_1431 : (1431 : Int32).toInt = 1431 := rfl
theorem tk_1432 : (1432 : Int32).toInt = 1432 := rfl
theorem tk_1433 : (1433 : Int32).toInt = 1433 := rfl
theorem tk_1434 : (1434 : Int32).toInt = 1434 := rfl
theorem tk_1435 : (1435 : Int32).toInt = 1435 := rfl
theorem tk_1436 : (1436 : Int32).toInt = 1436 := rfl
theorem tk_1437 : (1437 : Int32).toInt = 1437 := rfl
theorem tk_1438 : (1438 : Int32).toInt = 1438 := rfl
theorem tk_1439 : (1439 : Int32).toInt = 1439 := rfl
theorem tk_1440 : (1440 : Int32).toInt = 1440 := rfl
theorem tk_1441 : (1441 : Int32).toInt = 1441 := rfl
theorem tk_1442 : (1442 : Int32).toInt = 1442 := rfl
theorem tk_1443 : (1443 : Int32).toInt = 1443 := rfl
theorem tk_1444 : (1444 : Int32).toInt = 1444 := rfl
theorem tk_1445 : (1445 : Int32).toInt = 1445 := rfl
theorem tk_1446 : (1446 : Int32).toInt = 1446 := rfl
theorem tk_1447 : (1447 : Int32).toInt = 1447 := rfl
theorem tk_1448 : (1448 : Int32).toInt = 1448 := rfl
theorem tk_1449 : (1449 : Int32).toInt = 1449 := rfl
theorem tk_1450 : (1450 : Int32).toInt = 1450 := rfl
theorem tk_1451 : (1451 : Int32).toInt = 1451 := rfl
theorem tk_1452 : (1452 : Int32).toInt = 1452 := rfl
theorem tk_1453 : (1453 : Int32).toInt = 1453 := rfl
theorem tk_1454 : (1454 : Int32).toInt = 1454 := rfl
theorem tk_1455 : (1455 : Int32).toInt = 1455 := rfl
theorem tk_1456 : (1456 : Int32).toInt = 1456 := rfl
theorem tk_1457 : (1457 : Int32).toInt = 1457 := rfl
theorem tk_1458 : (1458 : Int32).toInt = 1458 := rfl
theorem tk_1459 : (1459 : Int32).toInt = 1459 := rfl
theorem tk_1460 : (1460 : Int32).toInt = 1460 := rfl
theorem tk_1461 : (1461 : Int32).toInt = 1461 := rfl
theorem tk_1462 : (1462 : Int32).toInt = 1462 := rfl
theorem tk_1463 : (1463 : Int32).toInt = 1463 := rfl
theorem tk_1464 : (1464 : Int32).toInt = 1464 := rfl
theorem tk_1465 : (1465 : Int32).toInt = 1465 := rfl
theorem tk_1466 : (1466 : Int32).toInt = 1466 := rfl
theorem tk_1467 : (1467 : Int32).toInt = 1467 := rfl
theorem tk_1468 : (1468 : Int32).toInt = 1468 := rfl
theorem tk_1469 : (1469 : Int32).toInt = 1469 := rfl
theorem tk_1470 : (1470 : Int32).toInt = 1470 := rfl
theorem tk_1471 : (1471 : Int32).toInt = 1471 := rfl
theorem tk_1472 : (1472 : Int32).toInt = 1472 := rfl
theorem tk_1473 : (1473 : Int32).toInt = 1473 := rfl
theorem tk_1474 : (1474 : Int32).toInt = 1474 := rfl
theorem tk_1475 : (1475 : Int32).toInt = 1475 := rfl
theorem tk_1476 : (1476 : Int32).toInt = 1476 := rfl
theorem tk_1477 : (1477 : Int32).toInt = 1477 := rfl
theorem tk_1478 : (1478 : Int32).toInt = 1478 := rfl
theorem tk_1479 : (1479 : Int32).toInt = 1479 := rfl
theorem tk_1480 : (1480 : Int32).toInt = 1480 := rfl
theorem tk_1481 : (1481 : Int32).toInt = 1481 := rfl
theorem tk_1482 : (1482 : Int32).toInt = 1482 := rfl
theorem tk_1483 : (1483 : Int32).toInt = 1483 := rfl
theorem tk_1484 : (1484 : Int32).toInt = 1484 := rfl
theorem tk_1485 : (1485 : Int32).toInt = 1485 := rfl
theorem tk_1486 : (1486 : Int32).toInt = 1486 := rfl
theorem tk_1487 : (1487 : Int32).toInt = 1487 := rfl
theorem tk_1488 : (1488 : Int32).toInt = 1488 := rfl
theorem tk_1489 : (1489 : Int32).toInt = 1489 := rfl
theorem tk_1490 : (1490 : Int32).toInt = 1490 := rfl
theorem tk_1491 : (1491 : Int32).toInt = 1491 := rfl
theorem tk_1492 : (1492 : Int32).toInt = 1492 := rfl
theorem tk_1493 : (1493 : Int32).toInt = 1493 := rfl
theorem tk_1494 : (1494 : Int32).toInt = 1494 := rfl
theorem tk_1495 : (1495 : Int32).toInt = 1495 := rfl
theorem tk_1496 : (1496 : Int32).toInt = 1496 := rfl
theorem tk_1497 : (1497 : Int32).toInt = 1497 := rfl
theorem tk_1498 : (1498 : Int32).toInt = 1498 := rfl
theorem tk_1499 : (1499 : Int32).toInt = 1499 := rfl
theorem tk_1500 : (1500 : Int32).toInt = 1500 := rfl
theorem tk_1501 : (1501 : Int32).toInt = 1501 := rfl
theorem tk_1502 : (1502 : Int32).toInt = 1502 := rfl
theorem tk_1503 : (1503 : Int32).toInt = 1503 := rfl
theorem tk_1504 : (1504 : Int32).toInt = 1504 := rfl
theorem tk_1505 : (1505 : Int32).toInt = 1505 := rfl
theorem tk_1506 : (1506 : Int32).toInt = 1506 := rfl
theorem tk_1507 : (1507 : Int32).toInt = 1507 := rfl
theorem tk_1508 : (1508 : Int32).toInt = 1508 := rfl
theorem tk_1509 : (1509 : Int32).toInt = 1509 := rfl
theorem tk_1510 : (1510 : Int32).toInt = 1510 := rfl
theorem tk_1511 : (1511 : Int32).toInt = 1511 := rfl
theorem tk_1512 : (1512 : Int32).toInt = 1512 := rfl
theorem tk_1513 : (1513 : Int32).toInt = 1513 := rfl
theorem tk_1514 : (1514 : Int32).toInt = 1514 := rfl
theorem tk_1515 : (1515 : Int32).toInt = 1515 := rfl
theorem tk_1516 : (1516 : Int32).toInt = 1516 := rfl
theorem tk_1517 : (1517 : Int32).toInt = 1517 := rfl
theorem tk_1518 : (1518 : Int32).toInt = 1518 := rfl
theorem tk_1519 : (1519 : Int32).toInt = 1519 := rfl
theorem tk_1520 : (1520 : Int32).toInt = 1520 := rfl
theorem tk_1521 : (1521 : Int32).toInt = 1521 := rfl
theorem tk_1522 : (1522 : Int32).toInt = 1522 := rfl
theorem tk_1523 : (1523 : Int32).toInt = 1523 := rfl
theorem tk_1524 : (1524 : Int32).toInt = 1524 := rfl
theorem tk_1525 : (1525 : Int32).toInt = 1525 := rfl
theorem tk_1526 : (1526 : Int32).toInt = 1526 := rfl
theorem tk_1527 : (1527 : Int32).toInt = 1527 := rfl
theorem tk_1528 : (1528 : Int32).toInt = 1528 := rfl
theorem tk_1529 : (1529 : Int32).toInt = 1529 := rfl
theorem tk_1530 : (1530 : Int32).toInt = 1530 := rfl
theorem tk_1531 : (1531 : Int32).toInt = 1531 := rfl
theorem tk_1532 : (1532 : Int32).toInt = 1532 := rfl
theorem tk_1533 : (1533 : Int32).toInt = 1533 := rfl
theorem tk_1534 : (1534 : Int32).toInt = 1534 := rfl
theorem tk_1535 : (1535 : Int32).toInt = 1535 := rfl
theorem tk_1536 : (1536 : Int32).toInt = 1536 := rfl
theorem tk_1537 : (1537 : Int32).toInt = 1537 := rfl
theorem tk_1538 : (1538 : Int32).toInt = 1538 := rfl
theorem tk_1539 : (1539 : Int32).toInt = 1539 := rfl
theorem tk_1540 : (1540 : Int32).toInt = 1540 := rfl
theorem tk_1541 : (1541 : Int32).toInt = 1541 := rfl
theorem tk_1542 : (1542 : Int32).toInt = 1542 := rfl
theorem tk_1543 : (1543 : Int32).toInt = 1543 := rfl
theorem tk_1544 : (1544 : Int32).toInt = 1544 := rfl
theorem tk_1545 : (1545 : Int32).toInt = 1545 := rfl
theorem tk_1546 : (1546 : Int32).toInt = 1546 := rfl
theorem tk_1547 : (1547 : Int32).toInt = 1547 := rfl
theorem tk_1548 : (1548 : Int32).toInt = 1548 := rfl
theorem tk_1549 : (1549 : Int32).toInt = 1549 := rfl
theorem tk_1550 : (1550 : Int32).toInt = 1550 := rfl
theorem tk_1551 : (1551 : Int32).toInt = 1551 := rfl
theorem tk_1552 : (1552 : Int32).toInt = 1552 := rfl
theorem tk_1553 : (1553 : Int32).toInt = 1553 := rfl
theorem tk_1554 : (1554 : Int32).toInt = 1554 := rfl
theorem tk_1555 : (1555 : Int32).toInt = 1555 := rfl
theorem tk_1556 : (1556 : Int32).toInt = 1556 := rfl
theorem tk_1557 : (1557 : Int32).toInt = 1557 := rfl
theorem tk_1558 : (1558 : Int32).toInt = 1558 := rfl
theorem tk_1559 : (1559 : Int32).toInt = 1559 := rfl
theorem tk_1560 : (1560 : Int32).toInt = 1560 := rfl
theorem tk_1561 : (1561 : Int32).toInt = 1561 := rfl
theorem tk_1562 : (1562 : Int32).toInt = 1562 := rfl
theorem tk_1563 : (1563 : Int32).toInt = 1563 := rfl
theorem tk_1564 : (1564 : Int32).toInt = 1564 := rfl
theorem tk_1565 : (1565 : Int32).toInt = 1565 := rfl
theorem tk_1566 : (1566 : Int32).toInt = 1566 := rfl
theorem tk_1567 : (1567 : Int32).toInt = 1567 := rfl
theorem tk_1568 : (1568 : Int32).toInt = 1568 := rfl
theorem tk_1569 : (1569 : Int32).toInt = 1569 := rfl
theorem tk_1570 : (1570 : Int32).toInt = 1570 := rfl
theorem tk_1571 : (1571 : Int32).toInt = 1571 := rfl
theorem tk_1572 : (1572 : Int32).toInt = 1572 := rfl
theorem tk_1573 : (1573 : Int32).toInt = 1573 := rfl
theorem tk_1574 : (1574 : Int32).toInt = 1574 := rfl
theorem tk_1575 : (1575 : Int32).toInt = 1575 := rfl
theorem tk_1576 : (1576 : Int32).toInt = 1576 := rfl
theorem tk_1577 : (1577 : Int32).toInt = 1577 := rfl
theorem tk_1578 : (1578 : Int32).toInt = 1578 := rfl
theorem tk_1579 : (1579 : Int32).toInt = 1579 := rfl
theorem tk_1580 : (1580 : Int32).toInt = 1580 := rfl
theorem tk_1581 : (1581 : Int32).toInt = 1581 := rfl
theorem tk_1582 : (1582 : Int32).toInt = 1582 := rfl
theorem tk_1583 : (1583 : Int32).toInt = 1583 := rfl
theorem tk_1584 : (1584 : Int32).toInt = 1584 := rfl
theorem tk_1585 : (1585 : Int32).toInt = 1585 := rfl
theorem tk_1586 : (1586 : Int32).toInt = 1586 := rfl
theorem tk_1587 : (1587 : Int32).toInt = 1587 := rfl
theorem tk_1588 : (1588 : Int32).toInt = 1588 := rfl
theorem tk_1589 : (1589 : Int32).toInt = 1589 := rfl
theorem tk_1590 : (1590 : Int32).toInt = 1590 := rfl
theorem tk_1591 : (1591 : Int32).toInt = 1591 := rfl
theorem tk_1592 : (1592 : Int32).toInt = 1592 := rfl
theorem tk_1593 : (1593 : Int32).toInt = 1593 := rfl
theorem tk_1594 : (1594 : Int32).toInt = 1594 := rfl
theorem tk_1595 : (1595 : Int32).toInt = 1595 := rfl
theorem tk_1596 : (1596 : Int32).toInt = 1596 := rfl
theorem tk_1597 : (1597 : Int32).toInt = 1597 := rfl
theorem tk_1598 : (1598 : Int32).toInt = 1598 := rfl
theorem tk_1599 : (1599 : Int32).toInt = 1599 := rfl
theorem tk_1600 : (1600 : Int32).toInt = 1600 := rfl
theorem tk_1601 : (1601 : Int32).toInt = 1601 := rfl
theorem tk_1602 : (1602 : Int32).toInt = 1602 := rfl
theorem tk_1603 : (1603 : Int32).toInt = 1603 := rfl
theorem tk_1604 : (1604 : Int32).toInt = 1604 := rfl
theorem tk_1605 : (1605 : Int32).toInt = 1605 := rfl
theorem tk_1606 : (1606 : Int32).toInt = 1606 := rfl
theorem tk_1607 : (1607 : Int32).toInt = 1607 := rfl
theorem tk_1608 : (1608 : Int32).toInt = 1608 := rfl
theorem tk_1609 : (1609 : Int32).toInt = 1609 := rfl
theorem tk_1610 : (1610 : Int32).toInt = 1610 := rfl
theorem tk_1611 : (1611 : Int32).toInt = 1611 := rfl
theorem tk_1612 : (1612 : Int32).toInt = 1612 := rfl
theorem tk_1613 : (1613 : Int32).toInt = 1613 := rfl
theorem tk_1614 : (1614 : Int32).toInt = 1614 := rfl
theorem tk_1615 : (1615 : Int32).toInt = 1615 := rfl
theorem tk_1616 : (1616 : Int32).toInt = 1616 := rfl
theorem tk_1617 : (1617 : Int32).toInt = 1617 := rfl
theorem tk_1618 : (1618 : Int32).toInt = 1618 := rfl
theorem tk_1619 : (1619 : Int32).toInt = 1619 := rfl
theorem tk_1620 : (1620 : Int32).toInt = 1620 := rfl
theorem tk_1621 : (1621 : Int32).toInt = 1621 := rfl
theorem tk_1622 : (1622 : Int32).toInt = 1622 := rfl
theorem tk_1623 : (1623 : Int32).toInt = 1623 := rfl
theorem tk_1624 : (1624 : Int32).toInt = 1624 := rfl
theorem tk_1625 : (1625 : Int32).toInt = 1625 := rfl
theorem tk_1626 : (1626 : Int32).toInt = 1626 := rfl
theorem tk_1627 : (1627 : Int32).toInt = 1627 := rfl
theorem tk_1628 : (1628 : Int32).toInt = 1628 := rfl
theorem tk_1629 : (1629 : Int32).toInt = 1629 := rfl
theorem tk_1630 : (1630 : Int32).toInt = 1630 := rfl
theorem tk_1631 : (1631 : Int32).toInt = 1631 := rfl
theorem tk_1632 : (1632 : Int32).toInt = 1632 := rfl
theorem tk_1633 : (1633 : Int32).toInt = 1633 := rfl
theorem tk_1634 : (1634 : Int32).toInt = 1634 := rfl
theorem tk_1635 : (1635 : Int32).toInt = 1635 := rfl
theorem tk_1636 : (1636 : Int32).toInt = 1636 := rfl
theorem tk_1637 : (1637 : Int32).toInt = 1637 := rfl
theorem tk_1638 : (1638 : Int32).toInt = 1638 := rfl
theorem tk_1639 : (1639 : Int32).toInt = 1639 := rfl
theorem tk_1640 : (1640 : Int32).toInt = 1640 := rfl
theorem tk_1641 : (1641 : Int32).toInt = 1641 := rfl
theorem tk_1642 : (1642 : Int32).toInt = 1642 := rfl
theorem tk_1643 : (1643 : Int32).toInt = 1643 := rfl
theorem tk_1644 : (1644 : Int32).toInt = 1644 := rfl
theorem tk_1645 : (1645 : Int32).toInt = 1645 := rfl
theorem tk_1646 : (1646 : Int32).toInt = 1646 := rfl
theorem tk_1647 : (1647 : Int32).toInt = 1647 := rfl
theorem tk_1648 : (1648 : Int32).toInt = 1648 := rfl
theorem tk_1649 : (1649 : Int32).toInt = 1649 := rfl
theorem tk_1650 : (1650 : Int32).toInt = 1650 := rfl
theorem tk_1651 : (1651 : Int32).toInt = 1651 := rfl
theorem tk_1652 : (1652 : Int32).toInt = 1652 := rfl
theorem tk_1653 : (1653 : Int32).toInt = 1653 := rfl
theorem tk_1654 : (1654 : Int32).toInt = 1654 := rfl
theorem tk_1655 : (1655 : Int32).toInt = 1655 := rfl
theorem tk_1656 : (1656 : Int32).toInt = 1656 := rfl
theorem tk_1657 : (1657 : Int32).toInt = 1657 := rfl
theorem tk_1658 : (1658 : Int32).toInt = 1658 := rfl
theorem tk_1659 : (1659 : Int32).toInt = 1659 := rfl
theorem tk_1660 : (1660 : Int32).toInt = 1660 := rfl
theorem tk_1661 : (1661 : Int32).toInt = 1661 := rfl
theorem tk_1662 : (1662 : Int32).toInt = 1662 := rfl
theorem tk_1663 : (1663 : Int32).toInt = 1663 := rfl
theorem tk_1664 : (1664 : Int32).toInt = 1664 := rfl
theorem tk_1665 : (1665 : Int32).toInt = 1665 := rfl
theorem tk_1666 : (1666 : Int32).toInt = 1666 := rfl
theorem tk_1667 : (1667 : Int32).toInt = 1667 := rfl
theorem tk_1668 : (1668 : Int32).toInt = 1668 := rfl
theorem tk_1669 : (1669 : Int32).toInt = 1669 := rfl
theorem tk_1670 : (1670 : Int32).toInt = 1670 := rfl
theorem tk_1671 : (1671 : Int32).toInt = 1671 := rfl
theorem tk_1672 : (1672 : Int32).toInt = 1672 := rfl
theorem tk_1673 : (1673 : Int32).toInt = 1673 := rfl
theorem tk_1674 : (1674 : Int32).toInt = 1674 := rfl
theorem tk_1675 : (1675 : Int32).toInt = 1675 := rfl
theorem tk_1676 : (1676 : Int32).toInt = 1676 := rfl
theorem tk_1677 : (1677 : Int32).toInt = 1677 := rfl
theorem tk_1678 : (1678 : Int32).toInt = 1678 := rfl
theorem tk_1679 : (1679 : Int32).toInt = 1679 := rfl
theorem tk_1680 : (1680 : Int32).toInt = 1680 := rfl
theorem tk_1681 : (1681 : Int32).toInt = 1681 := rfl
theorem tk_1682 : (1682 : Int32).toInt = 1682 := rfl
theorem tk_1683 : (1683 : Int32).toInt = 1683 := rfl
theorem tk_1684 : (1684 : Int32).toInt = 1684 := rfl
theorem tk_1685 : (1685 : Int32).toInt = 1685 := rfl
theorem tk_1686 : (1686 : Int32).toInt = 1686 := rfl
theorem tk_1687 : (1687 : Int32).toInt = 1687 := rfl
theorem tk_1688 : (1688 : Int32).toInt = 1688 := rfl
theorem tk_1689 : (1689 : Int32).toInt = 1689 := rfl
theorem tk_1690 : (1690 : Int32).toInt = 1690 := rfl
theorem tk_1691 : (1691 : Int32).toInt = 1691 := rfl
theorem tk_1692 : (1692 : Int32).toInt = 1692 := rfl
theorem tk_1693 : (1693 : Int32).toInt = 1693 := rfl
theorem tk_1694 : (1694 : Int32).toInt = 1694 := rfl
theorem tk_1695 : (1695 : Int32).toInt = 1695 := rfl
theorem tk_1696 : (1696 : Int32).toInt = 1696 := rfl
theorem tk_1697 : (1697 : Int32).toInt = 1697 := rfl
theorem tk_1698 : (1698 : Int32).toInt = 1698 := rfl
theorem tk_1699 : (1699 : Int32).toInt = 1699 := rfl
theorem tk_1700 : (1700 : Int32).toInt = 1700 := rfl
theorem tk_1701 : (1701 : Int32).toInt = 1701 := rfl
theorem tk_1702 : (1702 : Int32).toInt = 1702 := rfl
theorem tk_1703 : (1703 : Int32).toInt = 1703 := rfl
theorem tk_1704 : (1704 : Int32).toInt = 1704 := rfl
theorem tk_1705 : (1705 : Int32).toInt = 1705 := rfl
theorem tk_1706 : (1706 : Int32).toInt = 1706 := rfl
theorem tk_1707 : (1707 : Int32).toInt = 1707 := rfl
theorem tk_1708 : (1708 : Int32).toInt = 1708 := rfl
theorem tk_1709 : (1709 : Int32).toInt = 1709 := rfl
theorem tk_1710 : (1710 : Int32).toInt = 1710 := rfl
theorem tk_1711 : (1711 : Int32).toInt = 1711 := rfl
theorem tk_1712 : (1712 : Int32).toInt = 1712 := rfl
theorem tk_1713 : (1713 : Int32).toInt = 1713 := rfl
theorem tk_1714 : (1714 : Int32).toInt = 1714 := rfl
theorem tk_1715 : (1715 : Int32).toInt = 1715 := rfl
theorem tk_1716 : (1716 : Int32).toInt = 1716 := rfl
theorem tk_1717 : (1717 : Int32).toInt = 1717 := rfl
theorem tk_1718 : (1718 : Int32).toInt = 1718 := rfl
theorem tk_1719 : (1719 : Int32).toInt = 1719 := rfl
theorem tk_1720 : (1720 : Int32).toInt = 1720 := rfl
theorem tk_1721 : (1721 : Int32).toInt = 1721 := rfl
theorem tk_1722 : (1722 : Int32).toInt = 1722 := rfl
theorem tk_1723 : (1723 : Int32).toInt = 1723 := rfl
theorem tk_1724 : (1724 : Int32).toInt = 1724 := rfl
theorem tk_1725 : (1725 : Int32).toInt = 1725 := rfl
theorem tk_1726 : (1726 : Int32).toInt = 1726 := rfl
theorem tk_1727 : (1727 : Int32).toInt = 1727 := rfl
theorem tk_1728 : (1728 : Int32).toInt = 1728 := rfl
theorem tk_1729 : (1729 : Int32).toInt = 1729 := rfl
theorem tk_1730 : (1730 : Int32).toInt = 1730 := rfl
theorem tk_1731 : (1731 : Int32).toInt = 1731 := rfl
theorem tk_1732 : (1732 : Int32).toInt = 1732 := rfl
theorem tk_1733 : (1733 : Int32).toInt = 1733 := rfl
theorem tk_1734 : (1734 : Int32).toInt = 1734 := rfl
theorem tk_1735 : (1735 : Int32).toInt = 1735 := rfl
theorem tk_1736 : (1736 : Int32).toInt = 1736 := rfl
theorem tk_1737 : (1737 : Int32).toInt = 1737 := rfl
theorem tk_1738 : (1738 : Int32).toInt = 1738 := rfl
theorem tk_1739 : (1739 : Int32).toInt = 1739 := rfl
theorem tk_1740 : (1740 : Int32).toInt = 1740 := rfl
theorem tk_1741 : (1741 : Int32).toInt = 1741 := rfl
theorem tk_1742 : (1742 : Int32).toInt = 1742 := rfl
theorem tk_1743 : (1743 : Int32).toInt = 1743 := rfl
theorem tk_1744 : (1744 : Int32).toInt = 1744 := rfl
theorem tk_1745 : (1745 : Int32).toInt = 1745 := rfl
theorem tk_1746 : (1746 : Int32).toInt = 1746 := rfl
theorem tk_1747 : (1747 : Int32).toInt = 1747 := rfl
theorem tk_1748 : (1748 : Int32).toInt = 1748 := rfl
theorem tk_1749 : (1749 : Int32).toInt = 1749 := rfl
theorem tk_1750 : (1750 : Int32).toInt = 1750 := rfl
theorem tk_1751 : (1751 : Int32).toInt = 1751 := rfl
theorem tk_1752 : (1752 : Int32).toInt = 1752 := rfl
theorem tk_1753 : (1753 : Int32).toInt = 1753 := rfl
theorem tk_1754 : (1754 : Int32).toInt = 1754 := rfl
theorem tk_1755 : (1755 : Int32).toInt = 1755 := rfl
theorem tk_1756 : (1756 : Int32).toInt = 1756 := rfl
theorem tk_1757 : (1757 : Int32).toInt = 1757 := rfl
theorem tk_1758 : (1758 : Int32).toInt = 1758 := rfl
theorem tk_1759 : (1759 : Int32).toInt = 1759 := rfl
theorem tk_1760 : (1760 : Int32).toInt = 1760 := rfl
theorem tk_1761 : (1761 : Int32).toInt = 1761 := rfl
theorem tk_1762 : (1762 : Int32).toInt = 1762 := rfl
theorem tk_1763 : (1763 : Int32).toInt = 1763 := rfl
theorem tk_1764 : (1764 : Int32).toInt = 1764 := rfl
theorem tk_1765 : (1765 : Int32).toInt = 1765 := rfl
theorem tk_1766 : (1766 : Int32).toInt = 1766 := rfl
theorem tk_1767 : (1767 : Int32).toInt = 1767 := rfl
theorem tk_1768 : (1768 : Int32).toInt = 1768 := rfl
theorem tk_1769 : (1769 : Int32).toInt = 1769 := rfl
theorem tk_1770 : (1770 : Int32).toInt = 1770 := rfl
theorem tk_1771 : (1771 : Int32).toInt = 1771 := rfl
theorem tk_1772 : (1772 : Int32).toInt = 1772 := rfl
theorem tk_1773 : (1773 : Int32).toInt = 1773 := rfl
theorem tk_1774 : (1774 : Int32).toInt = 1774 := rfl
theorem tk_1775 : (1775 : Int32).toInt = 1775 := rfl
theorem tk_1776 : (1776 : Int32).toInt = 1776 := rfl
theorem tk_1777 : (1777 : Int32).toInt = 1777 := rfl
theorem tk_1778 : (1778 : Int32).toInt = 1778 := rfl
theorem tk_1779 : (1779 : Int32).toInt = 1779 := rfl
theorem tk_1780 : (1780 : Int32).toInt = 1780 := rfl
theorem tk_1781 : (1781 : Int32).toInt = 1781 := rfl
theorem tk_1782 : (1782 : Int32).toInt = 1782 := rfl
theorem tk_1783 : (1783 : Int32).toInt = 1783 := rfl
theorem tk_1784 : (1784 : Int32).toInt = 1784 := rfl
theorem tk_1785 : (1785 : Int32).toInt = 1785 := rfl
theorem tk_1786 : (1786 : Int32).toInt = 1786 := rfl
theorem tk_1787 : (1787 : Int32).toInt = 1787 := rfl
theorem tk_1788 : (1788 : Int32).toInt = 1788 := rfl
theorem tk_1789 : (1789 : Int32).toInt = 1789 := rfl
theorem tk_1790 : (1790 : Int32).toInt = 1790 := rfl
theorem tk_1791 : (1791 : Int32).toInt = 1791 := rfl
theorem tk_1792 : (1792 : Int32).toInt = 1792 := rfl
theorem tk_1793 : (1793 : Int32).toInt = 1793 := rfl
theorem tk_1794 : (1794 : Int32).toInt = 1794 := rfl
theorem tk_1795 : (1795 : Int32).toInt = 1795 := rfl
theorem tk_1796 : (1796 : Int32).toInt = 1796 := rfl
theorem tk_1797 : (1797 : Int32).toInt = 1797 := rfl
theorem tk_1798 : (1798 : Int32).toInt = 1798 := rfl
theorem tk_1799 : (1799 : Int32).toInt = 1799 := rfl
theorem tk_1800 : (1800 : Int32).toInt = 1800 := rfl
theorem tk_1801 : (1801 : Int32).toInt = 1801 := rfl
theorem tk_1802 : (1802 : Int32).toInt = 1802 := rfl
theorem tk_1803 : (1803 : Int32).toInt = 1803 := rfl
theorem tk_1804 : (1804 : Int32).toInt = 1804 := rfl
theorem tk_1805 : (1805 : Int32).toInt = 1805 := rfl
theorem tk_1806 : (1806 : Int32).toInt = 1806 := rfl
theorem tk_1807 : (1807 : Int32).toInt = 1807 := rfl
theorem tk_1808 : (1808 : Int32).toInt = 1808 := rfl
theorem tk_1809 : (1809 : Int32).toInt = 1809 := rfl
theorem tk_1810 : (1810 : Int32).toInt = 1810 := rfl
theorem tk_1811 : (1811 : Int32).toInt = 1811 := rfl
theorem tk_1812 : (1812 : Int32).toInt = 1812 := rfl
theorem tk_1813 : (1813 : Int32).toInt = 1813 := rfl
theorem tk_1814 : (1814 : Int32).toInt = 1814 := rfl
theorem tk_1815 : (1815 : Int32).toInt = 1815 := rfl
theorem tk_1816 : (1816 : Int32).toInt = 1816 := rfl
theorem tk_1817 : (1817 : Int32).toInt = 1817 := rfl
theorem tk_1818 : (1818 : Int32).toInt = 1818 := rfl
theorem tk_1819 : (1819 : Int32).toInt = 1819 := rfl
theorem tk_1820 : (1820 : Int32).toInt = 1820 := rfl
theorem tk_1821 : (1821 : Int32).toInt = 1821 := rfl
theorem tk_1822 : (1822 : Int32).toInt = 1822 := rfl
theorem tk_1823 : (1823 : Int32).toInt = 1823 := rfl
theorem tk_1824 : (1824 : Int32).toInt = 1824 := rfl
theorem tk_1825 : (1825 : Int32).toInt = 1825 := rfl
theorem tk_1826 : (1826 : Int32).toInt = 1826 := rfl
theorem tk_1827 : (1827 : Int32).toInt = 1827 := rfl
theorem tk_1828 : (1828 : Int32).toInt = 1828 := rfl
theorem tk_1829 : (1829 : Int32).toInt = 1829 := rfl
theorem tk_1830 : (1830 : Int32).toInt = 1830 := rfl
theorem tk_1831 : (1831 : Int32).toInt = 1831 := rfl
theorem tk_1832 : (1832 : Int32).toInt = 1832 := rfl
theorem tk_1833 : (1833 : Int32).toInt = 1833 := rfl
theorem tk_1834 : (1834 : Int32).toInt = 1834 := rfl
theorem tk_1835 : (1835 : Int32).toInt = 1835 := rfl
theorem tk_1836 : (1836 : Int32).toInt = 1836 := rfl
theorem tk_1837 : (1837 : Int32).toInt = 1837 := rfl
theorem tk_1838 : (1838 : Int32).toInt = 1838 := rfl
theorem tk_1839 : (1839 : Int32).toInt = 1839 := rfl
theorem tk_1840 : (1840 : Int32).toInt = 1840 := rfl
theorem tk_1841 : (1841 : Int32).toInt = 1841 := rfl
theorem tk_1842 : (1842 : Int32).toInt = 1842 := rfl
theorem tk_1843 : (1843 : Int32).toInt = 1843 := rfl
theorem tk_1844 : (1844 : Int32).toInt = 1844 := rfl
theorem tk_1845 : (1845 : Int32).toInt = 1845 := rfl
theorem tk_1846 : (1846 : Int32).toInt = 1846 := rfl
theorem tk_1847 : (1847 : Int32).toInt = 1847 := rfl
theorem tk_1848 : (1848 : Int32).toInt = 1848 := rfl
theorem tk_1849 : (1849 : Int32).toInt = 1849 := rfl
theorem tk_1850 : (1850 : Int32).toInt = 1850 := rfl
theorem tk_1851 : (1851 : Int32).toInt = 1851 := rfl
theorem tk_1852 : (1852 : Int32).toInt = 1852 := rfl
theorem tk_1853 : (1853 : Int32).toInt = 1853 := rfl
theorem tk_1854 : (1854 : Int32).toInt = 1854 := rfl
theorem tk_1855 : (1855 : Int32).toInt = 1855 := rfl
theorem tk_1856 : (1856 : Int32).toInt = 1856 := rfl
theorem tk_1857 : (1857 : Int32).toInt = 1857 := rfl
theorem tk_1858 : (1858 : Int32).toInt = 1858 := rfl
theorem tk_1859 : (1859 : Int32).toInt = 1859 := rfl
theorem tk_1860 : (1860 : Int32).toInt = 1860 := rfl
theorem tk_1861 : (1861 : Int32).toInt = 1861 := rfl
theorem tk_1862 : (1862 : Int32).toInt = 1862 := rfl
theorem tk_1863 : (1863 : Int32).toInt = 1863 := rfl
theorem tk_1864 : (1864 : Int32).toInt = 1864 := rfl
theorem tk_1865 : (1865 : Int32).toInt = 1865 := rfl
theorem tk_1866 : (1866 : Int32).toInt = 1866 := rfl
theorem tk_1867 : (1867 : Int32).toInt = 1867 := rfl
theorem tk_1868 : (1868 : Int32).toInt = 1868 := rfl
theorem tk_1869 : (1869 : Int32).toInt = 1869 := rfl
theorem tk_1870 : (1870 : Int32).toInt = 1870 := rfl
theorem tk_1871 : (1871 : Int32).toInt = 1871 := rfl
theorem tk_1872 : (1872 : Int32).toInt = 1872 := rfl
theorem tk_1873 : (1873 : Int32).toInt = 1873 := rfl
theorem tk_1874 : (1874 : Int32).toInt = 1874 := rfl
theorem tk_1875 : (1875 : Int32).toInt = 1875 := rfl
theorem tk_1876 : (1876 : Int32).toInt = 1876 := rfl
theorem tk_1877 : (1877 : Int32).toInt = 1877 := rfl
theorem tk_1878 : (1878 : Int32).toInt = 1878 := rfl
theorem tk_1879 : (1879 : Int32).toInt = 1879 := rfl
theorem tk_1880 : (1880 : Int32).toInt = 1880 := rfl
theorem tk_1881 : (1881 : Int32).toInt = 1881 := rfl
theorem tk_1882 : (1882 : Int32).toInt = 1882 := rfl
theorem tk_1883 : (1883 : Int32).toInt = 1883 := rfl
theorem tk_1884 : (1884 : Int32).toInt = 1884 := rfl
theorem tk_1885 : (1885 : Int32).toInt = 1885 := rfl
theorem tk_1886 : (1886 : Int32).toInt = 1886 := rfl
theorem tk_1887 : (1887 : Int32).toInt = 1887 := rfl
theorem tk_1888 : (1888 : Int32).toInt = 1888 := rfl
theorem tk_1889 : (1889 : Int32).toInt = 1889 := rfl
theorem tk_1890 : (1890 : Int32).toInt = 1890 := rfl
theorem tk_1891 : (1891 : Int32).toInt = 1891 := rfl
theorem tk_1892 : (1892 : Int32).toInt = 1892 := rfl
theorem tk_1893 : (1893 : Int32).toInt = 1893 := rfl
theorem tk_1894 : (1894 : Int32).toInt = 1894 := rfl
theorem tk_1895 : (1895 : Int32).toInt = 1895 := rfl
theorem tk_1896 : (1896 : Int32).toInt = 1896 := rfl
theorem tk_1897 : (1897 : Int32).toInt = 1897 := rfl
theorem tk_1898 : (1898 : Int32).toInt = 1898 := rfl
theorem tk_1899 : (1899 : Int32).toInt = 1899 := rfl
theorem tk_1900 : (1900 : Int32).toInt = 1900 := rfl
theorem tk_1901 : (1901 : Int32).toInt = 1901 := rfl
theorem tk_1902 : (1902 : Int32).toInt = 1902 := rfl
theorem tk_1903 : (1903 : Int32).toInt = 1903 := rfl
theorem tk_1904 : (1904 : Int32).toInt = 1904 := rfl
theorem tk_1905 : (1905 : Int32).toInt = 1905 := rfl
theorem tk_1906 : (1906 : Int32).toInt = 1906 := rfl
theorem tk_1907 : (1907 : Int32).toInt = 1907 := rfl
theorem tk_1908 : (1908 : Int32).toInt = 1908 := rfl
theorem tk_1909 : (1909 : Int32).toInt = 1909 := rfl
theorem tk_1910 : (1910 : Int32).toInt = 1910 := rfl
theorem tk_1911 : (1911 : Int32).toInt = 1911 := rfl
theorem tk_1912 : (1912 : Int32).toInt = 1912 := rfl
theorem tk_1913 : (1913 : Int32).toInt = 1913 := rfl
theorem tk_1914 : (1914 : Int32).toInt = 1914 := rfl
theorem tk_1915 : (1915 : Int32).toInt = 1915 := rfl
theorem tk_1916 : (1916 : Int32).toInt = 1916 := rfl
theorem tk_1917 : (1917 : Int32).toInt = 1917 := rfl
theorem tk_1918 : (1918 : Int32).toInt = 1918 := rfl
theorem tk_1919 : (1919 : Int32).toInt = 1919 := rfl
theorem tk_1920 : (1920 : Int32).toInt = 1920 := rfl
theorem tk_1921 : (1921 : Int32).toInt = 1921 := rfl
theorem tk_1922 : (1922 : Int32).toInt = 1922 := rfl
theorem tk_1923 : (1923 : Int32).toInt = 1923 := rfl
theorem tk_1924 : (1924 : Int32).toInt = 1924 := rfl
theorem tk_1925 : (1925 : Int32).toInt = 1925 := rfl
theorem tk_1926 : (1926 : Int32).toInt = 1926 := rfl
theorem tk_1927 : (1927 : Int32).toInt = 1927 := rfl
theorem tk_1928 : (1928 : Int32).toInt = 1928 := rfl
theorem tk_1929 : (1929 : Int32).toInt = 1929 := rfl
theorem tk_1930 : (1930 : Int32).toInt = 1930 := rfl
theorem tk_1931 : (1931 : Int32).toInt = 1931 := rfl
theorem tk_1932 : (1932 : Int32).toInt = 1932 := rfl
theorem tk_1933 : (1933 : Int32).toInt = 1933 := rfl
theorem tk_1934 : (1934 : Int32).toInt = 1934 := rfl
theorem tk_1935 : (1935 : Int32).toInt = 1935 := rfl
theorem tk_1936 : (1936 : Int32).toInt = 1936 := rfl
theorem tk_1937 : (1937 : Int32).toInt = 1937 := rfl
theorem tk_1938 : (1938 : Int32).toInt = 1938 := rfl
theorem tk_1939 : (1939 : Int32).toInt = 1939 := rfl
theorem tk_1940 : (1940 : Int32).toInt = 1940 := rfl
theorem tk_1941 : (1941 : Int32).toInt = 1941 := rfl
theorem tk_1942 : (1942 : Int32).toInt = 1942 := rfl
theorem tk_1943 : (1943 : Int32).toInt = 1943 := rfl
theorem tk_1944 : (1944 : Int32).toInt = 1944 := rfl
theorem tk_1945 : (1945 : Int32).toInt = 1945 := rfl
theorem tk_1946 : (1946 : Int32).toInt = 1946 := rfl
theorem tk_1947 : (1947 : Int32).toInt = 1947 := rfl
theorem tk_1948 : (1948 : Int32).toInt = 1948 := rfl
theorem tk_1949 : (1949 : Int32).toInt = 1949 := rfl
theorem tk_1950 : (1950 : Int32).toInt = 1950 := rfl
theorem tk_1951 : (1951 : Int32).toInt = 1951 := rfl
theorem tk_1952 : (1952 : Int32).toInt = 1952 := rfl
theorem tk_1953 : (1953 : Int32).toInt = 1953 := rfl
theorem tk_1954 : (1954 : Int32).toInt = 1954 := rfl
theorem tk_1955 : (1955 : Int32).toInt = 1955 := rfl
theorem tk_1956 : (1956 : Int32).toInt = 1956 := rfl
theorem tk_1957 : (1957 : Int32).toInt = 1957 := rfl
theorem tk_1958 : (1958 : Int32).toInt = 1958 := rfl
theorem tk_1959 : (1959 : Int32).toInt = 1959 := rfl
theorem tk_1960 : (1960 : Int32).toInt = 1960 := rfl
theorem tk_1961 : (1961 : Int32).toInt = 1961 := rfl
theorem tk_1962 : (1962 : Int32).toInt = 1962 := rfl
theorem tk_1963 : (1963 : Int32).toInt = 1963 := rfl
theorem tk_1964 : (1964 : Int32).toInt = 1964 := rfl
theorem tk_1965 : (1965 : Int32).toInt = 1965 := rfl
theorem tk_1966 : (1966 : Int32).toInt = 1966 := rfl
theorem tk_1967 : (1967 : Int32).toInt = 1967 := rfl
theorem tk_1968 : (1968 : Int32).toInt = 1968 := rfl
theorem tk_1969 : (1969 : Int32).toInt = 1969 := rfl
theorem tk_1970 : (1970 : Int32).toInt = 1970 := rfl
theorem tk_1971 : (1971 : Int32).toInt = 1971 := rfl
theorem tk_1972 : (1972 : Int32).toInt = 1972 := rfl
theorem tk_1973 : (1973 : Int32).toInt = 1973 := rfl
theorem tk_1974 : (1974 : Int32).toInt = 1974 := rfl
theorem tk_1975 : (1975 : Int32).toInt = 1975 := rfl
theorem tk_1976 : (1976 : Int32).toInt = 1976 := rfl
theorem tk_1977 : (1977 : Int32).toInt = 1977 := rfl
theorem tk_1978 : (1978 : Int32).toInt = 1978 := rfl
theorem tk_1979 : (1979 : Int32).toInt = 1979 := rfl
theorem tk_1980 : (1980 : Int32).toInt = 1980 := rfl
theorem tk_1981 : (1981 : Int32).toInt = 1981 := rfl
theorem tk_1982 : (1982 : Int32).toInt = 1982 := rfl
theorem tk_1983 : (1983 : Int32).toInt = 1983 := rfl
theorem tk_1984 : (1984 : Int32).toInt = 1984 := rfl
theorem tk_1985 : (1985 : Int32).toInt = 1985 := rfl
theorem tk_1986 : (1986 : Int32).toInt = 1986 := rfl
theorem tk_1987 : (1987 : Int32).toInt = 1987 := rfl
theorem tk_1988 : (1988 : Int32).toInt = 1988 := rfl
theorem tk_1989 : (1989 : Int32).toInt = 1989 := rfl
theorem tk_1990 : (1990 : Int32).toInt = 1990 := rfl
theorem tk_1991 : (1991 : Int32).toInt = 1991 := rfl
theorem tk_1992 : (1992 : Int32).toInt = 1992 := rfl
theorem tk_1993 : (1993 : Int32).toInt = 1993 := rfl
theorem tk_1994 : (1994 : Int32).toInt = 1994 := rfl
theorem tk_1995 : (1995 : Int32).toInt = 1995 := rfl
theorem tk_1996 : (1996 : Int32).toInt = 1996 := rfl
theorem tk_1997 : (1997 : Int32).toInt = 1997 := rfl
theorem tk_1998 : (1998 : Int32).toInt = 1998 := rfl
theorem tk_1999 : (1999 : Int32).toInt = 1999 := rfl
theorem tk_2002 : (2002 : Int32).toInt = 2002 := rfl
theorem tk_2003 : (2003 : Int32).toInt = 2003 := rfl
theorem tk_2004 : (2004 : Int32).toInt = 2004 := rfl
theorem tk_2006 : (2006 : Int32).toInt = 2006 := rfl
theorem tk_2007 : (2007 : Int32).toInt = 2007 := rfl
theorem tk_2008 : (2008 : Int32).toInt = 2008 := rfl
theorem tk_2009 : (2009 : Int32).toInt = 2009 := rfl
theorem tk_2010 : (2010 : Int32).toInt = 2010 := rfl
theorem tk_2011 : (2011 : Int32).toInt = 2011 := rfl
theorem tk_2012 : (2012 : Int32).toInt = 2012 := rfl
theorem tk_2013 : (2013 : Int32).toInt = 2013 := rfl
theorem tk_2015 : (2015 : Int32).toInt = 2015 := rfl
theorem tk_2016 : (2016 : Int32).toInt = 2016 := rfl
theorem tk_2017 : (2017 : Int32).toInt = 2017 := rfl
theorem tk_2018 : (2018 : Int32).toInt = 2018 := rfl
theorem tk_2019 : (2019 : Int32).toInt = 2019 := rfl
theorem tk_2020 : (2020 : Int32).toInt = 2020 := rfl
theorem tk_2021 : (2021 : Int32).toInt = 2021 := rfl
theorem tk_2022 : (2022 : Int32).toInt = 2022 := rfl
theorem tk_2023 : (2023 : Int32).toInt = 2023 := rfl
theorem tk_2024 : (2024 : Int32).toInt = 2024 := rfl
theorem tk_2025 : (2025 : Int32).toInt = 2025 := rfl
theorem tk_2026 : (2026 : Int32).toInt = 2026 := rfl
theorem tk_2027 : (2027 : Int32).toInt = 2027 := rfl
theorem tk_2028 : (2028 : Int32).toInt = 2028 := rfl
theorem tk_2029 : (2029 : Int32).toInt = 2029 := rfl
theorem tk_2030 : (2030 : Int32).toInt = 2030 := rfl
theorem tk_2031 : (2031 : Int32).toInt = 2031 := rfl
theorem tk_2032 : (2032 : Int32).toInt = 2032 := rfl
theorem tk_2033 : (2033 : Int32).toInt = 2033 := rfl
theorem tk_2034 : (2034 : Int32).toInt = 2034 := rfl
theorem tk_2035 : (2035 : Int32).toInt = 2035 := rfl
theorem tk_2036 : (2036 : Int32).toInt = 2036 := rfl
theorem tk_2037 : (2037 : Int32).toInt = 2037 := rfl
theorem tk_2038 : (2038 : Int32).toInt = 2038 := rfl
theorem tk_2039 : (2039 : Int32).toInt = 2039 := rfl
theorem tk_2040 : (2040 : Int32).toInt = 2040 := rfl
theorem tk_2041 : (2041 : Int32).toInt = 2041 := rfl
theorem tk_2042 : (2042 : Int32).toInt = 2042 := rfl
theorem tk_2043 : (2043 : Int32).toInt = 2043 := rfl
theorem tk_2044 : (2044 : Int32).toInt = 2044 := rfl
theorem tk_2045 : (2045 : Int32).toInt = 2045 := rfl
theorem tk_2046 : (2046 : Int32).toInt = 2046 := rfl
theorem tk_2047 : (2047 : Int32).toInt = 2047 := rfl
theorem tk_2048 : (2048 : Int32).toInt = 2048 := rfl
theorem tk_2049 : (2049 : Int32).toInt = 2049 := rfl
theorem tk_2050 : (2050 : Int32).toInt = 2050 := rfl
theorem tk_2051 : (2051 : Int32).toInt = 2051 := rfl
theorem tk_2052 : (2052 : Int32).toInt = 2052 := rfl
theorem tk_2053 : (2053 : Int32).toInt = 2053 := rfl
theorem tk_2054 : (2054 : Int32).toInt = 2054 := rfl
theorem tk_2055 : (2055 : Int32).toInt = 2055 := rfl
theorem tk_2056 : (2056 : Int32).toInt = 2056 := rfl
theorem tk_2057 : (2057 : Int32).toInt = 2057 := rfl
theorem tk_2058 : (2058 : Int32).toInt = 2058 := rfl
theorem tk_2059 : (2059 : Int32).toInt = 2059 := rfl
theorem tk_2060 : (2060 : Int32).toInt = 2060 := rfl
theorem tk_2061 : (2061 : Int32).toInt = 2061 := rfl
theorem tk_2062 : (2062 : Int32).toInt = 2062 := rfl
theorem tk_2063 : (2063 : Int32).toInt = 2063 := rfl
theorem tk_2064 : (2064 : Int32).toInt = 2064 := rfl
theorem tk_2065 : (2065 : Int32).toInt = 2065 := rfl
theorem tk_2066 : (2066 : Int32).toInt = 2066 := rfl
theorem tk_2067 : (2067 : Int32).toInt = 2067 := rfl
theorem tk_2068 : (2068 : Int32).toInt = 2068 := rfl
theorem tk_2069 : (2069 : Int32).toInt = 2069 := rfl
theorem tk_2070 : (2070 : Int32).toInt = 2070 := rfl
theorem tk_2071 : (2071 : Int32).toInt = 2071 := rfl
theorem tk_2072 : (2072 : Int32).toInt = 2072 := rfl
theorem tk_2073 : (2073 : Int32).toInt = 2073 := rfl
theorem tk_2074 : (2074 : Int32).toInt = 2074 := rfl
theorem tk_2075 : (2075 : Int32).toInt = 2075 := rfl
theorem tk_2076 : (2076 : Int32).toInt = 2076 := rfl
theorem tk_2077 : (2077 : Int32).toInt = 2077 := rfl
theorem tk_2078 : (2078 : Int32).toInt = 2078 := rfl
theorem tk_2079 : (2079 : Int32).toInt = 2079 := rfl
theorem tk_2080 : (2080 : Int32).toInt = 2080 := rfl
theorem tk_2081 : (2081 : Int32).toInt = 2081 := rfl
theorem tk_2082 : (2082 : Int32).toInt = 2082 := rfl
theorem tk_2083 : (2083 : Int32).toInt = 2083 := rfl
theorem tk_2084 : (2084 : Int32).toInt = 2084 := rfl
theorem tk_2085 : (2085 : Int32).toInt = 2085 := rfl
theorem tk_2086 : (2086 : Int32).toInt = 2086 := rfl
theorem tk_2087 : (2087 : Int32).toInt = 2087 := rfl
theorem tk_2088 : (2088 : Int32).toInt = 2088 := rfl
theorem tk_2089 : (2089 : Int32).toInt = 2089 := rfl
theorem tk_2090 : (2090 : Int32).toInt = 2090 := rfl
theorem tk_2091 : (2091 : Int32).toInt = 2091 := rfl
theorem tk_2092 : (2092 : Int32).toInt = 2092 := rfl
theorem tk_2093 : (2093 : Int32).toInt = 2093 := rfl
theorem tk_2094 : (2094 : Int32).toInt = 2094 := rfl
theorem tk_2095 : (2095 : Int32).toInt = 2095 := rfl
theorem tk_2096 : (2096 : Int32).toInt = 2096 := rfl
theorem tk_2097 : (2097 : Int32).toInt = 2097 := rfl
theorem tk_2098 : (2098 : Int32).toInt = 2098 := rfl
theorem tk_2099 : (2099 : Int32).toInt = 2099 := rfl
theorem tk_2100 : (2100 : Int32).toInt = 2100 := rfl
theorem tk_2101 : (2101 : Int32).toInt = 2101 := rfl
theorem tk_2102 : (2102 : Int32).toInt = 2102 := rfl
theorem tk_2103 : (2103 : Int32).toInt = 2103 := rfl
theorem tk_2104 : (2104 : Int32).toInt = 2104 := rfl
theorem tk_2105 : (2105 : Int32).toInt = 2105 := rfl
theorem tk_2106 : (2106 : Int32).toInt = 2106 := rfl
theorem tk_2107 : (2107 : Int32).toInt = 2107 := rfl
theorem tk_2108 : (2108 : Int32).toInt = 2108 := rfl
theorem tk_2109 : (2109 : Int32).toInt = 2109 := rfl
theorem tk_2110 : (2110 : Int32).toInt = 2110 := rfl
theorem tk_2111 : (2111 : Int32).toInt = 2111 := rfl
theorem tk_2112 : (2112 : Int32).toInt = 2112 := rfl
theorem tk_2113 : (2113 : Int32).toInt = 2113 := rfl
theorem tk_2114 : (2114 : Int32).toInt = 2114 := rfl
theorem tk_2115 : (2115 : Int32).toInt = 2115 := rfl
theorem tk_2116 : (2116 : Int32).toInt = 2116 := rfl
theorem tk_2117 : (2117 : Int32).toInt = 2117 := rfl
theorem tk_2118 : (2118 : Int32).toInt = 2118 := rfl
theorem tk_2119 : (2119 : Int32).toInt = 2119 := rfl
theorem tk_2120 : (2120 : Int32).toInt = 2120 := rfl
theorem tk_2121 : (2121 : Int32).toInt = 2121 := rfl
theorem tk_2122 : (2122 : Int32).toInt = 2122 := rfl
theorem tk_2123 : (2123 : Int32).toInt = 2123 := rfl
theorem tk_2124 : (2124 : Int32).toInt = 2124 := rfl
theorem tk_2125 : (2125 : Int32).toInt = 2125 := rfl
theorem tk_2126 : (2126 : Int32).toInt = 2126 := rfl
theorem tk_2127 : (2127 : Int32).toInt = 2127 := rfl
theorem tk_2128 : (2128 : Int32).toInt = 2128 := rfl
theorem tk_2129 : (2129 : Int32).toInt = 2129 := rfl
theorem tk_2130 : (2130 : Int32).toInt = 2130 := rfl
theorem tk_2131 : (2131 : Int32).toInt = 2131 := rfl
theorem tk_2132 : (2132 : Int32).toInt = 2132 := rfl
theorem tk_2133 : (2133 : Int32).toInt = 2133 := rfl
theorem tk_2134 : (2134 : Int32).toInt = 2134 := rfl
theorem tk_2135 : (2135 : Int32).toInt = 2135 := rfl
theorem tk_2136 : (2136 : Int32).toInt = 2136 := rfl
theorem tk_2137 : (2137 : Int32).toInt = 2137 := rfl
theorem tk_2138 : (2138 : Int32).toInt = 2138 := rfl
theorem tk_2139 : (2139 : Int32).toInt = 2139 := rfl
theorem tk_2140 : (2140 : Int32).toInt = 2140 := rfl
theorem tk_2141 : (2141 : Int32).toInt = 2141 := rfl
theorem tk_2142 : (2142 : Int32).toInt = 2142 := rfl
theorem tk_2143 : (2143 : Int32).toInt = 2143 := rfl
theorem tk_2144 : (2144 : Int32).toInt = 2144 := rfl
theorem tk_2145 : (2145 : Int32).toInt = 2145 := rfl
theorem tk_2146 : (2146 : Int32).toInt = 2146 := rfl
theorem tk_2147 : (2147 : Int32).toInt = 2147 := rfl
theorem tk_2148 : (2148 : Int32).toInt = 2148 := rfl
theorem tk_2149 : (2149 : Int32).toInt = 2149 := rfl
theorem tk_2150 : (2150 : Int32).toInt = 2150 := rfl
theorem tk_2151 : (2151 : Int32).toInt = 2151 := rfl
theorem tk_2152 : (2152 : Int32).toInt = 2152 := rfl
theorem tk_2153 : (2153 : Int32).toInt = 2153 := rfl
theorem tk_2154 : (2154 : Int32).toInt = 2154 := rfl
theorem tk_2155 : (2155 : Int32).toInt = 2155 := rfl
theorem tk_2156 : (2156 : Int32).toInt = 2156 := rfl
theorem tk_2157 : (2157 : Int32).toInt = 2157 := rfl
theorem tk_2158 : (2158 : Int32).toInt = 2158 := rfl
theorem tk_2159 : (2159 : Int32).toInt = 2159 := rfl
theorem tk_2160 : (2160 : Int32).toInt = 2160 := rfl
theorem tk_2161 : (2161 : Int32).toInt = 2161 := rfl
theorem tk_2162 : (2162 : Int32).toInt = 2162 := rfl
theorem tk_2163 : (2163 : Int32).toInt = 2163 := rfl
theorem tk_2164 : (2164 : Int32).toInt = 2164 := rfl
theorem tk_2165 : (2165 : Int32).toInt = 2165 := rfl
theorem tk_2166 : (2166 : Int32).toInt = 2166 := rfl
theorem tk_2167 : (2167 : Int32).toInt = 2167 := rfl
theorem tk_2168 : (2168 : Int32).toInt = 2168 := rfl
theorem tk_2169 : (2169 : Int32).toInt = 2169 := rfl
theorem tk_2170 : (2170 : Int32).toInt = 2170 := rfl
theorem tk_2171 : (2171 : Int32).toInt = 2171 := rfl
theorem tk_2172 : (2172 : Int32).toInt = 2172 := rfl
theorem tk_2173 : (2173 : Int32).toInt = 2173 := rfl
theorem tk_2174 : (2174 : Int32).toInt = 2174 := rfl
theorem tk_2175 : (2175 : Int32).toInt = 2175 := rfl
theorem tk_2176 : (2176 : Int32).toInt = 2176 := rfl
theorem tk_2177 : (2177 : Int32).toInt = 2177 := rfl
theorem tk_2178 : (2178 : Int32).toInt = 2178 := rfl
theorem tk_2179 : (2179 : Int32).toInt = 2179 := rfl
theorem tk_2180 : (2180 : Int32).toInt = 2180 := rfl
theorem tk_2181 : (2181 : Int32).toInt = 2181 := rfl
theorem tk_2182 : (2182 : Int32).toInt = 2182 := rfl
theorem tk_2183 : (2183 : Int32).toInt = 2183 := rfl
theorem tk_2184 : (2184 : Int32).toInt = 2184 := rfl
theorem tk_2185 : (2185 : Int32).toInt = 2185 := rfl
theorem tk_2186 : (2186 : Int32).toInt = 2186 := rfl
theorem tk_2187 : (2187 : Int32).toInt = 2187 := rfl
theorem tk_2188 : (2188 : Int32).toInt = 2188 := rfl
theorem tk_2189 : (2189 : Int32).toInt = 2189 := rfl
theorem tk_2190 : (2190 : Int32).toInt = 2190 := rfl
theorem tk_2191 : (2191 : Int32).toInt = 2191 := rfl
theorem tk_2192 : (2192 : Int32).toInt = 2192 := rfl
theorem tk_2193 : (2193 : Int32).toInt = 2193 := rfl
theorem tk_2194 : (2194 : Int32).toInt = 2194 := rfl
theorem tk_2195 : (2195 : Int32).toInt = 2195 := rfl
theorem tk_2196 : (2196 : Int32).toInt = 2196 := rfl
theorem tk_2197 : (2197 : Int32).toInt = 2197 := rfl
theorem tk_2198 : (2198 : Int32).toInt = 2198 := rfl
theorem tk_2199 : (2199 : Int32).toInt = 2199 := rfl
theorem tk_2200 : (2200 : Int32).toInt = 2200 := rfl
theorem tk_2201 : (2201 : Int32).toInt = 2201 := rfl
theorem tk_2202 : (2202 : Int32).toInt = 2202 := rfl
theorem tk_2203 : (2203 : Int32).toInt = 2203 := rfl
theorem tk_2204 : (2204 : Int32).toInt = 2204 := rfl
theorem tk_2205 : (2205 : Int32).toInt = 2205 := rfl
theorem tk_2206 : (2206 : Int32).toInt = 2206 := rfl
theorem tk_2207 : (2207 : Int32).toInt = 2207 := rfl
theorem tk_2208 : (2208 : Int32).toInt = 2208 := rfl
theorem tk_2209 : (2209 : Int32).toInt = 2209 := rfl
theorem tk_2210 : (2210 : Int32).toInt = 2210 := rfl
theorem tk_2211 : (2211 : Int32).toInt = 2211 := rfl
theorem tk_2212 : (2212 : Int32).toInt = 2212 := rfl
theorem tk_2213 : (2213 : Int32).toInt = 2213 := rfl
theorem tk_2214 : (2214 : Int32).toInt = 2214 := rfl
theorem tk_2215 : (2215 : Int32).toInt = 2215 := rfl
theorem tk_2216 : (2216 : Int32).toInt = 2216 := rfl
theorem tk_2217 : (2217 : Int32).toInt = 2217 := rfl
theorem tk_2218 : (2218 : Int32).toInt = 2218 := rfl
theorem tk_2219 : (2219 : Int32).toInt = 2219 := rfl
theorem tk_2220 : (2220 : Int32).toInt = 2220 := rfl
theorem tk_2221 : (2221 : Int32).toInt = 2221 := rfl
theorem tk_2222 : (2222 : Int32).toInt = 2222 := rfl
theorem tk_2223 : (2223 : Int32).toInt = 2223 := rfl
theorem tk_2224 : (2224 : Int32).toInt = 2224 := rfl
theorem tk_2225 : (2225 : Int32).toInt = 2225 := rfl
theorem tk_2226 : (2226 : Int32).toInt = 2226 := rfl
theorem tk_2227 : (2227 : Int32).toInt = 2227 := rfl
theorem tk_2228 : (2228 : Int32).toInt = 2228 := rfl
theorem tk_2229 : (2229 : Int32).toInt = 2229 := rfl
theorem tk_2230 : (2230 : Int32).toInt = 2230 := rfl
theorem tk_2231 : (2231 : Int32).toInt = 2231 := rfl
theorem tk_2232 : (2232 : Int32).toInt = 2232 := rfl
theorem tk_2233 : (2233 : Int32).toInt = 2233 := rfl
theorem tk_2234 : (2234 : Int32).toInt = 2234 := rfl
theorem tk_2235 : (2235 : Int32).toInt = 2235 := rfl
theorem tk_2236 : (2236 : Int32).toInt = 2236 := rfl
theorem tk_2237 : (2237 : Int32).toInt = 2237 := rfl
theorem tk_2238 : (2238 : Int32).toInt = 2238 := rfl
theorem tk_2239 : (2239 : Int32).toInt = 2239 := rfl
theorem tk_2240 : (2240 : Int32).toInt = 2240 := rfl
theorem tk_2241 : (2241 : Int32).toInt = 2241 := rfl
theorem tk_2242 : (2242 : Int32).toInt = 2242 := rfl
theorem tk_2243 : (2243 : Int32).toInt = 2243 := rfl
theorem tk_2244 : (2244 : Int32).toInt = 2244 := rfl
theorem tk_2245 : (2245 : Int32).toInt = 2245 := rfl
theorem tk_2246 : (2246 : Int32).toInt = 2246 := rfl
theorem tk_2247 : (2247 : Int32).toInt = 2247 := rfl
theorem tk_2248 : (2248 : Int32).toInt = 2248 := rfl
theorem tk_2249 : (2249 : Int32).toInt = 2249 := rfl
theorem tk_2250 : (2250 : Int32).toInt = 2250 := rfl
theorem tk_2251 : (2251 : Int32).toInt = 2251 := rfl
theorem tk_2252 : (2252 : Int32).toInt = 2252 := rfl
theorem tk_2253 : (2253 : Int32).toInt = 2253 := rfl
theorem tk_2254 : (2254 : Int32).toInt = 2254 := rfl
theorem tk_2255 : (2255 : Int32).toInt = 2255 := rfl
theorem tk_2256 : (2256 : Int32).toInt = 2256 := rfl
theorem tk_2257 : (2257 : Int32).toInt = 2257 := rfl
theorem tk_2258 : (2258 : Int32).toInt = 2258 := rfl
theorem tk_2259 : (2259 : Int32).toInt = 2259 := rfl
theorem tk_2260 : (2260 : Int32).toInt = 2260 := rfl
theorem tk_2261 : (2261 : Int32).toInt = 2261 := rfl
theorem tk_2262 : (2262 : Int32).toInt = 2262 := rfl
theorem tk_2263 : (2263 : Int32).toInt = 2263 := rfl
theorem tk_2264 : (2264 : Int32).toInt = 2264 := rfl
theorem tk_2265 : (2265 : Int32).toInt = 2265 := rfl
theorem tk_2266 : (2266 : Int32).toInt = 2266 := rfl
theorem tk_2267 : (2267 : Int32).toInt = 2267 := rfl
theorem tk_2268 : (2268 : Int32).toInt = 2268 := rfl
theorem tk_2269 : (2269 : Int32).toInt = 2269 := rfl
theorem tk_2270 : (2270 : Int32).toInt = 2270 := rfl
theorem tk_2271 : (2271 : Int32).toInt = 2271 := rfl
theorem tk_2272 : (2272 : Int32).toInt = 2272 := rfl
theorem tk_2273 : (2273 : Int32).toInt = 2273 := rfl
theorem tk_2274 : (2274 : Int32).toInt = 2274 := rfl
theorem tk_2275 : (2275 : Int32).toInt = 2275 := rfl
theorem tk_2276 : (2276 : Int32).toInt = 2276 := rfl
theorem tk_2277 : (2277 : Int32).toInt = 2277 := rfl
theorem tk_2278 : (2278 : Int32).toInt = 2278 := rfl
theorem tk_2279 : (2279 : Int32).toInt = 2279 := rfl
theorem tk_2280 : (2280 : Int32).toInt = 2280 := rfl
theorem tk_2281 : (2281 : Int32).toInt = 2281 := rfl
theorem tk_2282 : (2282 : Int32).toInt = 2282 := rfl
theorem tk_2283 : (2283 : Int32).toInt = 2283 := rfl
theorem tk_2284 : (2284 : Int32).toInt = 2284 := rfl
theorem tk_2285 : (2285 : Int32).toInt = 2285 := rfl
theorem tk_2286 : (2286 : Int32).toInt = 2286 := rfl
theorem tk_2287 : (2287 : Int32).toInt = 2287 := rfl
theorem tk_2288 : (2288 : Int32).toInt = 2288 := rfl
theorem tk_2289 : (2289 : Int32).toInt = 2289 := rfl
theorem tk_2290 : (2290 : Int32).toInt = 2290 := rfl
theorem tk_2291 : (2291 : Int32).toInt = 2291 := rfl
theorem tk_2292 : (2292 : Int32).toInt = 2292 := rfl
theorem tk_2293 : (2293 : Int32).toInt = 2293 := rfl
theorem tk_2294 : (2294 : Int32).toInt = 2294 := rfl
theorem tk_2295 : (2295 : Int32).toInt = 2295 := rfl
theorem tk_2296 : (2296 : Int32).toInt = 2296 := rfl
theorem tk_2297 : (2297 : Int32).toInt = 2297 := rfl
theorem tk_2298 : (2298 : Int32).toInt = 2298 := rfl
theorem tk_2299 : (2299 : Int32).toInt = 2299 := rfl
theorem tk_2300 : (2300 : Int32).toInt = 2300 := rfl
theorem tk_2301 : (2301 : Int32).toInt = 2301 := rfl
theorem tk_2302 : (2302 : Int32).toInt = 2302 := rfl
theorem tk_2303 : (2303 : Int32).toInt = 2303 := rfl
theorem tk_2304 : (2304 : Int32).toInt = 2304 := rfl
theorem tk_2305 : (2305 : Int32).toInt = 2305 := rfl
theorem tk_2306 : (2306 : Int32).toInt = 2306 := rfl
theorem tk_2307 : (2307 : Int32).toInt = 2307 := rfl
theorem tk_2308 : (2308 : Int32).toInt = 2308 := rfl
theorem tk_2309 : (2309 : Int32).toInt = 2309 := rfl
theorem tk_2310 : (2310 : Int32).toInt = 2310 := rfl
theorem tk_2311 : (2311 : Int32).toInt = 2311 := rfl
theorem tk_2312 : (2312 : Int32).toInt = 2312 := rfl
theorem tk_2313 : (2313 : Int32).toInt = 2313 := rfl
theorem tk_2314 : (2314 : Int32).toInt = 2314 := rfl
theorem tk_2315 : (2315 : Int32).toInt = 2315 := rfl
theorem tk_2316 : (2316 : Int32).toInt = 2316 := rfl
theorem tk_2317 : (2317 : Int32).toInt = 2317 := rfl
theorem tk_2318 : (2318 : Int32).toInt = 2318 := rfl
theorem tk_2319 : (2319 : Int32).toInt = 2319 := rfl
theorem tk_2320 : (2320 : Int32).toInt = 2320 := rfl
theorem tk_2321 : (2321 : Int32).toInt = 2321 := rfl
theorem tk_2322 : (2322 : Int32).toInt = 2322 := rfl
theorem tk_2323 : (2323 : Int32).toInt = 2323 := rfl
theorem tk_2324 : (2324 : Int32).toInt = 2324 := rfl
theorem tk_2325 : (2325 : Int32).toInt = 2325 := rfl
theorem tk_2326 : (2326 : Int32).toInt = 2326 := rfl
theorem tk_2327 : (2327 : Int32).toInt = 2327 := rfl
theorem tk_2328 : (2328 : Int32).toInt = 2328 := rfl
theorem tk_2329 : (2329 : Int32).toInt = 2329 := rfl
theorem tk_2330 : (2330 : Int32).toInt = 2330 := rfl
theorem tk_2331 : (2331 : Int32).toInt = 2331 := rfl
theorem tk_2332 : (2332 : Int32).toInt = 2332 := rfl
theorem tk_2333 : (2333 : Int32).toInt = 2333 := rfl
theorem tk_2334 : (2334 : Int32).toInt = 2334 := rfl
theorem tk_2335 : (2335 : Int32).toInt = 2335 := rfl
theorem tk_2336 : (2336 : Int32).toInt = 2336 := rfl
theorem tk_2337 : (2337 : Int32).toInt = 2337 := rfl
theorem tk_2338 : (2338 : Int32).toInt = 2338 := rfl
theorem tk_2339 : (2339 : Int32).toInt = 2339 := rfl
theorem tk_2340 : (2340 : Int32).toInt = 2340 := rfl
theorem tk_2341 : (2341 : Int32).toInt = 2341 := rfl
theorem tk_2342 : (2342 : Int32).toInt = 2342 := rfl
theorem tk_2343 : (2343 : Int32).toInt = 2343 := rfl
theorem tk_2344 : (2344 : Int32).toInt = 2344 := rfl
theorem tk_2345 : (2345 : Int32).toInt = 2345 := rfl
theorem tk_2346 : (2346 : Int32).toInt = 2346 := rfl
theorem tk_2347 : (2347 : Int32).toInt = 2347 := rfl
theorem tk_2348 : (2348 : Int32).toInt = 2348 := rfl
theorem tk_2349 : (2349 : Int32).toInt = 2349 := rfl
theorem tk_2350 : (2350 : Int32).toInt = 2350 := rfl
theorem tk_2351 : (2351 : Int32).toInt = 2351 := rfl
theorem tk_2352 : (2352 : Int32).toInt = 2352 := rfl
theorem tk_2353 : (2353 : Int32).toInt = 2353 := rfl
theorem tk_2354 : (2354 : Int32).toInt = 2354 := rfl
theorem tk_2355 : (2355 : Int32).toInt = 2355 := rfl
theorem tk_2356 : (2356 : Int32).toInt = 2356 := rfl
theorem tk_2357 : (2357 : Int32).toInt = 2357 := rfl
theorem tk_2358 : (2358 : Int32).toInt = 2358 := rfl
theorem tk_2359 : (2359 : Int32).toInt = 2359 := rfl
theorem tk_2360 : (2360 : Int32).toInt = 2360 := rfl
theorem tk_2361 : (2361 : Int32).toInt = 2361 := rfl
theorem tk_2362 : (2362 : Int32).toInt = 2362 := rfl
theorem tk_2363 : (2363 : Int32).toInt = 2363 := rfl
theorem tk_2364 : (2364 : Int32).toInt = 2364 := rfl
theorem tk_2365 : (2365 : Int32).toInt = 2365 := rfl
theorem tk_2366 : (2366 : Int32).toInt = 2366 := rfl
theorem tk_2367 : (2367 : Int32).toInt = 2367 := rfl
theorem tk_2368 : (2368 : Int32).toInt = 2368 := rfl
theorem tk_2369 : (2369 : Int32).toInt = 2369 := rfl
theorem tk_2370 : (2370 : Int32).toInt = 2370 := rfl
theorem tk_2371 : (2371 : Int32).toInt = 2371 := rfl
theorem tk_2372 : (2372 : Int32).toInt = 2372 := rfl
theorem tk_2373 : (2373 : Int32).toInt = 2373 := rfl
theorem tk_2374 : (2374 : Int32).toInt = 2374 := rfl
theorem tk_2375 : (2375 : Int32).toInt = 2375 := rfl
theorem tk_2376 : (2376 : Int32).toInt = 2376 := rfl
theorem tk_2377 : (2377 : Int32).toInt = 2377 := rfl
theorem tk_2378 : (2378 : Int32).toInt = 2378 := rfl
theorem tk_2379 : (2379 : Int32).toInt = 2379 := rfl
theorem tk_2380 : (2380 : Int32).toInt = 2380 := rfl
theorem tk_2381 : (2381 : Int32).toInt = 2381 := rfl
theorem tk_2382 : (2382 : Int32).toInt = 2382 := rfl
theorem tk_2383 : (2383 : Int32).toInt = 2383 := rfl
theorem tk_2384 : (2384 : Int32).toInt = 2384 := rfl
theorem tk_2385 : (2385 : Int32).toInt = 2385 := rfl
theorem tk_2386 : (2386 : Int32).toInt = 2386 := rfl
theorem tk_2387 : (2387 : Int32).toInt = 2387 := rfl
theorem tk_2388 : (2388 : Int32).toInt = 2388 := rfl
theorem tk_2389 : (2389 : Int32).toInt = 2389 := rfl
theorem tk_2390 : (2390 : Int32).toInt = 2390 := rfl
theorem tk_2391 : (2391 : Int32).toInt = 2391 := rfl
theorem tk_2392 : (2392 : Int32).toInt = 2392 := rfl
theorem tk_2393 : (2393 : Int32).toInt = 2393 := rfl
theorem tk_2394 : (2394 : Int32).toInt = 2394 := rfl
theorem tk_2395 : (2395 : Int32).toInt = 2395 := rfl
theorem tk_2396 : (2396 : Int32).toInt = 2396 := rfl
theorem tk_2397 : (2397 : Int32).toInt = 2397 := rfl
theorem tk_2398 : (2398 : Int32).toInt = 2398 := rfl
theorem tk_2399 : (2399 : Int32).toInt = 2399 := rfl
theorem tk_2400 : (2400 : Int32).toInt = 2400 := rfl
theorem tk_2401 : (2401 : Int32).toInt = 2401 := rfl
theorem tk_2402 : (2402 : Int32).toInt = 2402 := rfl
theorem tk_2403 : (2403 : Int32).toInt = 2403 := rfl
theorem tk_2404 : (2404 : Int32).toInt = 2404 := rfl
theorem tk_2405 : (2405 : Int32).toInt = 2405 := rfl
theorem tk_2406 : (2406 : Int32).toInt = 2406 := rfl
theorem tk_2407 : (2407 : Int32).toInt = 2407 := rfl
theorem tk_2408 : (2408 : Int32).toInt = 2408 := rfl
theorem tk_2409 : (2409 : Int32).toInt = 2409 := rfl
theorem tk_2410 : (2410 : Int32).toInt = 2410 := rfl
theorem tk_2411 : (2411 : Int32).toInt = 2411 := rfl
theorem tk_2412 : (2412 : Int32).toInt = 2412 := rfl
theorem tk_2413 : (2413 : Int32).toInt = 2413 := rfl
theorem tk_2414 : (2414 : Int32).toInt = 2414 := rfl
theorem tk_2415 : (2415 : Int32).toInt = 2415 := rfl
theorem tk_2416 : (2416 : Int32).toInt = 2416 := rfl
theorem tk_2417 : (2417 : Int32).toInt = 2417 := rfl
theorem tk_2418 : (2418 : Int32).toInt = 2418 := rfl
theorem tk_2419 : (2419 : Int32).toInt = 2419 := rfl
theorem tk_2420 : (2420 : Int32).toInt = 2420 := rfl
theorem tk_2421 : (2421 : Int32).toInt = 2421 := rfl
theorem tk_2422 : (2422 : Int32).toInt = 2422 := rfl
theorem tk_2423 : (2423 : Int32).toInt = 2423 := rfl
theorem tk_2424 : (2424 : Int32).toInt = 2424 := rfl
theorem tk_2425 : (2425 : Int32).toInt = 2425 := rfl
theorem tk_2426 : (2426 : Int32).toInt = 2426 := rfl
theorem tk_2427 : (2427 : Int32).toInt = 2427 := rfl
theorem tk_2428 : (2428 : Int32).toInt = 2428 := rfl
theorem tk_2429 : (2429 : Int32).toInt = 2429 := rfl
theorem tk_2430 : (2430 : Int32).toInt = 2430 := rfl
theorem tk_2431 : (2431 : Int32).toInt = 2431 := rfl
theorem tk_2432 : (2432 : Int32).toInt = 2432 := rfl
theorem tk_2433 : (2433 : Int32).toInt = 2433 := rfl
theorem tk_2434 : (2434 : Int32).toInt = 2434 := rfl
theorem tk_2435 : (2435 : Int32).toInt = 2435 := rfl
theorem tk_2436 : (2436 : Int32).toInt = 2436 := rfl
theorem tk_2437 : (2437 : Int32).toInt = 2437 := rfl
theorem tk_2438 : (2438 : Int32).toInt = 2438 := rfl
theorem tk_2439 : (2439 : Int32).toInt = 2439 := rfl
theorem tk_2440 : (2440 : Int32).toInt = 2440 := rfl
theorem tk_2441 : (2441 : Int32).toInt = 2441 := rfl
theorem tk_2442 : (2442 : Int32).toInt = 2442 := rfl
theorem tk_2443 : (2443 : Int32).toInt = 2443 := rfl
theorem tk_2444 : (2444 : Int32).toInt = 2444 := rfl
theorem tk_2445 : (2445 : Int32).toInt = 2445 := rfl
theorem tk_2446 : (2446 : Int32).toInt = 2446 := rfl
theorem tk_2447 : (2447 : Int32).toInt = 2447 := rfl
theorem tk_2448 : (2448 : Int32).toInt = 2448 := rfl
theorem tk_2449 : (2449 : Int32).toInt = 2449 := rfl
theorem tk_2450 : (2450 : Int32).toInt = 2450 := rfl
theorem tk_2451 : (2451 : Int32).toInt = 2451 := rfl
theorem tk_2452 : (2452 : Int32).toInt = 2452 := rfl
theorem tk_2453 : (2453 : Int32).toInt = 2453 := rfl
theorem tk_2454 : (2454 : Int32).toInt = 2454 := rfl
theorem tk_2455 : (2455 : Int32).toInt = 2455 := rfl
theorem tk_2456 : (2456 : Int32).toInt = 2456 := rfl
theorem tk_2457 : (2457 : Int32).toInt = 2457 := rfl
theorem tk_2458 : (2458 : Int32).toInt = 2458 := rfl
theorem tk_2459 : (2459 : Int32).toInt = 2459 := rfl
theorem tk_2460 : (2460 : Int32).toInt = 2460 := rfl
theorem tk_2461 : (2461 : Int32).toInt = 2461 := rfl
theorem tk_2462 : (2462 : Int32).toInt = 2462 := rfl
theorem tk_2463 : (2463 : Int32).toInt = 2463 := rfl
theorem tk_2464 : (2464 : Int32).toInt = 2464 := rfl
theorem tk_2465 : (2465 : Int32).toInt = 2465 := rfl
theorem tk_2466 : (2466 : Int32).toInt = 2466 := rfl
theorem tk_2467 : (2467 : Int32).toInt = 2467 := rfl
theorem tk_2468 : (2468 : Int32).toInt = 2468 := rfl
theorem tk_2469 : (2469 : Int32).toInt = 2469 := rfl
theorem tk_2470 : (2470 : Int32).toInt = 2470 := rfl
theorem tk_2471 : (2471 : Int32).toInt = 2471 := rfl
theorem tk_2472 : (2472 : Int32).toInt = 2472 := rfl
theorem tk_2473 : (2473 : Int32).toInt = 2473 := rfl
theorem tk_2474 : (2474 : Int32).toInt = 2474 := rfl
theorem tk_2475 : (2475 : Int32).toInt = 2475 := rfl
theorem tk_2476 : (2476 : Int32).toInt = 2476 := rfl
theorem tk_2477 : (2477 : Int32).toInt = 2477 := rfl
theorem tk_2478 : (2478 : Int32).toInt = 2478 := rfl
theorem tk_2479 : (2479 : Int32).toInt = 2479 := rfl
theorem tk_2480 : (2480 : Int32).toInt = 2480 := rfl
theorem tk_2481 : (2481 : Int32).toInt = 2481 := rfl
theorem tk_2482 : (2482 : Int32).toInt = 2482 := rfl
theorem tk_2483 : (2483 : Int32).toInt = 2483 := rfl
theorem tk_2484 : (2484 : Int32).toInt = 2484 := rfl
theorem tk_2485 : (2485 : Int32).toInt = 2485 := rfl
theorem tk_2486 : (2486 : Int32).toInt = 2486 := rfl
theorem tk_2487 : (2487 : Int32).toInt = 2487 := rfl
theorem tk_2488 : (2488 : Int32).toInt = 2488 := rfl
theorem tk_2489 : (2489 : Int32).toInt = 2489 := rfl
theorem tk_2490 : (2490 : Int32).toInt = 2490 := rfl
theorem tk_2491 : (2491 : Int32).toInt = 2491 := rfl
theorem tk_2492 : (2492 : Int32).toInt = 2492 := rfl
theorem tk_2493 : (2493 : Int32).toInt = 2493 := rfl
theorem tk_2494 : (2494 : Int32).toInt = 2494 := rfl
theorem tk_2495 : (2495 : Int32).toInt = 2495 := rfl
theorem tk_2496 : (2496 : Int32).toInt = 2496 := rfl
theorem tk_2497 : (2497 : Int32).toInt = 2497 := rfl
theorem tk_2498 : (2498 : Int32).toInt = 2498 := rfl
theorem tk_2499 : (2499 : Int32).toInt = 2499 := rfl
theorem tk_2500 : (2500 : Int32).toInt = 2500 := rfl
theorem tk_2501 : (2501 : Int32).toInt = 2501 := rfl
theorem tk_2502 : (2502 : Int32).toInt = 2502 := rfl
theorem tk_2503 : (2503 : Int32).toInt = 2503 := rfl
theorem tk_2504 : (2504 : Int32).toInt = 2504 := rfl
theorem tk_2505 : (2505 : Int32).toInt = 2505 := rfl
theorem tk_2506 : (2506 : Int32).toInt = 2506 := rfl
theorem tk_2507 : (2507 : Int32).toInt = 2507 := rfl
theorem tk_2508 : (2508 : Int32).toInt = 2508 := rfl
theorem tk_2509 : (2509 : Int32).toInt = 2509 := rfl
theorem tk_2510 : (2510 : Int32).toInt = 2510 := rfl
theorem tk_2511 : (2511 : Int32).toInt = 2511 := rfl
theorem tk_2512 : (2512 : Int32).toInt = 2512 := rfl
theorem tk_2513 : (2513 : Int32).toInt = 2513 := rfl
theorem tk_2514 : (2514 : Int32).toInt = 2514 := rfl
theorem tk_2515 : (2515 : Int32).toInt = 2515 := rfl
theorem tk_2516 : (2516 : Int32).toInt = 2516 := rfl
theorem tk_2517 : (2517 : Int32).toInt = 2517 := rfl
theorem tk_2518 : (2518 : Int32).toInt = 2518 := rfl
theorem tk_2519 : (2519 : Int32).toInt = 2519 := rfl
theorem tk_2520 : (2520 : Int32).toInt = 2520 := rfl
theorem tk_2521 : (2521 : Int32).toInt = 2521 := rfl
theorem tk_2522 : (2522 : Int32).toInt = 2522 := rfl
theorem tk_2523 : (2523 : Int32).toInt = 2523 := rfl
theorem tk_2524 : (2524 : Int32).toInt = 2524 := rfl
theorem tk_2525 : (2525 : Int32).toInt = 2525 := rfl
theorem tk_2526 : (2526 : Int32).toInt = 2526 := rfl
theorem tk_2527 : (2527 : Int32).toInt = 2527 := rfl
theorem tk_2528 : (2528 : Int32).toInt = 2528 := rfl
theorem tk_2529 : (2529 : Int32).toInt = 2529 := rfl
theorem tk_2530 : (2530 : Int32).toInt = 2530 := rfl
theorem tk_2531 : (2531 : Int32).toInt = 2531 := rfl
theorem tk_2532 : (2532 : Int32).toInt = 2532 := rfl
theorem tk_2533 : (2533 : Int32).toInt = 2533 := rfl
theorem tk_2534 : (2534 : Int32).toInt = 2534 := rfl
theorem tk_2535 : (2535 : Int32).toInt = 2535 := rfl
theorem tk_2536 : (2536 : Int32).toInt = 2536 := rfl
theorem tk_2537 : (2537 : Int32).toInt = 2537 := rfl
theorem tk_2538 : (2538 : Int32).toInt = 2538 := rfl
theorem tk_2539 : (2539 : Int32).toInt = 2539 := rfl
theorem tk_2540 : (2540 : Int32).toInt = 2540 := rfl
theorem tk_2541 : (2541 : Int32).toInt = 2541 := rfl
theorem tk_2542 : (2542 : Int32).toInt = 2542 := rfl
theorem tk_2543 : (2543 : Int32).toInt = 2543 := rfl
theorem tk_2544 : (2544 : Int32).toInt = 2544 := rfl
theorem tk_2545 : (2545 : Int32).toInt = 2545 := rfl
theorem tk_2546 : (2546 : Int32).toInt = 2546 := rfl
theorem tk_2547 : (2547 : Int32).toInt = 2547 := rfl
theorem tk_2548 : (2548 : Int32).toInt = 2548 := rfl
theorem tk_2549 : (2549 : Int32).toInt = 2549 := rfl
theorem tk_2550 : (2550 : Int32).toInt = 2550 := rfl
theorem tk_2551 : (2551 : Int32).toInt = 2551 := rfl
theorem tk_2552 : (2552 : Int32).toInt = 2552 := rfl
theorem tk_2553 : (2553 : Int32).toInt = 2553 := rfl
theorem tk_2554 : (2554 : Int32).toInt = 2554 := rfl
theorem tk_2555 : (2555 : Int32).toInt = 2555 := rfl
theorem tk_2556 : (2556 : Int32).toInt = 2556 := rfl
theorem tk_2557 : (2557 : Int32).toInt = 2557 := rfl
theorem tk_2558 : (2558 : Int32).toInt = 2558 := rfl
theorem tk_2559 : (2559 : Int32).toInt = 2559 := rfl
theorem tk_2560 : (2560 : Int32).toInt = 2560 := rfl
theorem tk_2561 : (2561 : Int32).toInt = 2561 := rfl
theorem tk_2562 : (2562 : Int32).toInt = 2562 := rfl
theorem tk_2563 : (2563 : Int32).toInt = 2563 := rfl
theorem tk_2564 : (2564 : Int32).toInt = 2564 := rfl
theorem tk_2565 : (2565 : Int32).toInt = 2565 := rfl
theorem tk_2566 : (2566 : Int32).toInt = 2566 := rfl
theorem tk_2567 : (2567 : Int32).toInt = 2567 := rfl
theorem tk_2568 : (2568 : Int32).toInt = 2568 := rfl
theorem tk_2569 : (2569 : Int32).toInt = 2569 := rfl
theorem tk_2570 : (2570 : Int32).toInt = 2570 := rfl
theorem tk_2571 : (2571 : Int32).toInt = 2571 := rfl
theorem tk_2572 : (2572 : Int32).toInt = 2572 := rfl
theorem tk_2573 : (2573 : Int32).toInt = 2573 := rfl
theorem tk_2574 : (2574 : Int32).toInt = 2574 := rfl
theorem tk_2575 : (2575 : Int32).toInt = 2575 := rfl
theorem tk_2576 : (2576 : Int32).toInt = 2576 := rfl
theorem tk_2577 : (2577 : Int32).toInt = 2577 := rfl
theorem tk_2578 : (2578 : Int32).toInt = 2578 := rfl
theorem tk_2579 : (2579 : Int32).toInt = 2579 := rfl
theorem tk_2580 : (2580 : Int32).toInt = 2580 := rfl
theorem tk_2581 : (2581 : Int32).toInt = 2581 := rfl
theorem tk_2582 : (2582 : Int32).toInt = 2582 := rfl
theorem tk_2583 : (2583 : Int32).toInt = 2583 := rfl
theorem tk_2584 : (2584 : Int32).toInt = 2584 := rfl
theorem tk_2585 : (2585 : Int32).toInt = 2585 := rfl
theorem tk_2586 : (2586 : Int32).toInt = 2586 := rfl
theorem tk_2587 : (2587 : Int32).toInt = 2587 := rfl
theorem tk_2588 : (2588 : Int32).toInt = 2588 := rfl
theorem tk_2589 : (2589 : Int32).toInt = 2589 := rfl
theorem tk_2590 : (2590 : Int32).toInt = 2590 := rfl
theorem tk_2591 : (2591 : Int32).toInt = 2591 := rfl
theorem tk_2592 : (2592 : Int32).toInt = 2592 := rfl
theorem tk_2593 : (2593 : Int32).toInt = 2593 := rfl
theorem tk_2594 : (2594 : Int32).toInt = 2594 := rfl
theorem tk_2595 : (2595 : Int32).toInt = 2595 := rfl
theorem tk_2596 : (2596 : Int32).toInt = 2596 := rfl
theorem tk_2597 : (2597 : Int32).toInt = 2597 := rfl
theorem tk_2598 : (2598 : Int32).toInt = 2598 := rfl
theorem tk_2599 : (2599 : Int32).toInt = 2599 := rfl
theorem tk_2600 : (2600 : Int32).toInt = 2600 := rfl
theorem tk_2601 : (2601 : Int32).toInt = 2601 := rfl
theorem tk_2602 : (2602 : Int32).toInt = 2602 := rfl
theorem tk_2603 : (2603 : Int32).toInt = 2603 := rfl
theorem tk_2604 : (2604 : Int32).toInt = 2604 := rfl
theorem tk_2605 : (2605 : Int32).toInt = 2605 := rfl
theorem tk_2606 : (2606 : Int32).toInt = 2606 := rfl
theorem tk_2607 : (2607 : Int32).toInt = 2607 := rfl
theorem tk_2608 : (2608 : Int32).toInt = 2608 := rfl
theorem tk_2609 : (2609 : Int32).toInt = 2609 := rfl
theorem tk_2610 : (2610 : Int32).toInt = 2610 := rfl
theorem tk_2611 : (2611 : Int32).toInt = 2611 := rfl
theorem tk_2612 : (2612 : Int32).toInt = 2612 := rfl
theorem tk_2613 : (2613 : Int32).toInt = 2613 := rfl
theorem tk_2614 : (2614 : Int32).toInt = 2614 := rfl
theorem tk_2615 : (2615 : Int32).toInt = 2615 := rfl
theorem tk_2616 : (2616 : Int32).toInt = 2616 := rfl
theorem tk_2617 : (2617 : Int32).toInt = 2617 := rfl
theorem tk_2618 : (2618 : Int32).toInt = 2618 := rfl
theorem tk_2619 : (2619 : Int32).toInt = 2619 := rfl
theorem tk_2620 : (2620 : Int32).toInt = 2620 := rfl
theorem tk_2621 : (2621 : Int32).toInt = 2621 := rfl
theorem tk_2622 : (2622 : Int32).toInt = 2622 := rfl
theorem tk_2623 : (2623 : Int32).toInt = 2623 := rfl
theorem tk_2624 : (2624 : Int32).toInt = 2624 := rfl
theorem tk_2625 : (2625 : Int32).toInt = 2625 := rfl
theorem tk_2626 : (2626 : Int32).toInt = 2626 := rfl
theorem tk_2627 : (2627 : Int32).toInt = 2627 := rfl
theorem tk_2628 : (2628 : Int32).toInt = 2628 := rfl
theorem tk_2629 : (2629 : Int32).toInt = 2629 := rfl
theorem tk_2630 : (2630 : Int32).toInt = 2630 := rfl
theorem tk_2631 : (2631 : Int32).toInt = 2631 := rfl
theorem tk_2632 : (2632 : Int32).toInt = 2632 := rfl
theorem tk_2633 : (2633 : Int32).toInt = 2633 := rfl
theorem tk_2634 : (2634 : Int32).toInt = 2634 := rfl
theorem tk_2635 : (2635 : Int32).toInt = 2635 := rfl
theorem tk_2636 : (2636 : Int32).toInt = 2636 := rfl
theorem tk_2637 : (2637 : Int32).toInt = 2637 := rfl
theorem tk_2638 : (2638 : Int32).toInt = 2638 := rfl
theorem tk_2639 : (2639 : Int32).toInt = 2639 := rfl
theorem tk_2640 : (2640 : Int32).toInt = 2640 := rfl
theorem tk_2641 : (2641 : Int32).toInt = 2641 := rfl
theorem tk_2642 : (2642 : Int32).toInt = 2642 := rfl
theorem tk_2643 : (2643 : Int32).toInt = 2643 := rfl
theorem tk_2644 : (2644 : Int32).toInt = 2644 := rfl
theorem tk_2645 : (2645 : Int32).toInt = 2645 := rfl
theorem tk_2646 : (2646 : Int32).toInt = 2646 := rfl
theorem tk_2647 : (2647 : Int32).toInt = 2647 := rfl
theorem tk_2648 : (2648 : Int32).toInt = 2648 := rfl
theorem tk_2649 : (2649 : Int32).toInt = 2649 := rfl
theorem tk_2650 : (2650 : Int32).toInt = 2650 := rfl
theorem tk_2651 : (2651 : Int32).toInt = 2651 := rfl
theorem tk_2652 : (2652 : Int32).toInt = 2652 := rfl
theorem tk_2653 : (2653 : Int32).toInt = 2653 := rfl
theorem tk_2654 : (2654 : Int32).toInt = 2654 := rfl
theorem tk_2655 : (2655 : Int32).toInt = 2655 := rfl
theorem tk_2656 : (2656 : Int32).toInt = 2656 := rfl
theorem tk_2657 : (2657 : Int32).toInt = 2657 := rfl
theorem tk_2658 : (2658 : Int32).toInt = 2658 := rfl
theorem tk_2659 : (2659 : Int32).toInt = 2659 := rfl
theorem tk_2660 : (2660 : Int32).toInt = 2660 := rfl
theorem tk_2661 : (2661 : Int32).toInt = 2661 := rfl
theorem tk_2662 : (2662 : Int32).toInt = 2662 := rfl
theorem tk_2663 : (2663 : Int32).toInt = 2663 := rfl
theorem tk_2664 : (2664 : Int32).toInt = 2664 := rfl
theorem tk_2665 : (2665 : Int32).toInt = 2665 := rfl
theorem tk_2666 : (2666 : Int32).toInt = 2666 := rfl
theorem tk_2667 : (2667 : Int32).toInt = 2667 := rfl
theorem tk_2668 : (2668 : Int32).toInt = 2668 := rfl
theorem tk_2669 : (2669 : Int32).toInt = 2669 := rfl
theorem tk_2670 : (2670 : Int32).toInt = 2670 := rfl
theorem tk_2671 : (2671 : Int32).toInt = 2671 := rfl
theorem tk_2672 : (2672 : Int32).toInt = 2672 := rfl
theorem tk_2673 : (2673 : Int32).toInt = 2673 := rfl
theorem tk_2674 : (2674 : Int32).toInt = 2674 := rfl
theorem tk_2675 : (2675 : Int32).toInt = 2675 := rfl
theorem tk_2676 : (2676 : Int32).toInt = 2676 := rfl
theorem tk_2677 : (2677 : Int32).toInt = 2677 := rfl
theorem tk_2678 : (2678 : Int32).toInt = 2678 := rfl
theorem tk_2679 : (2679 : Int32).toInt = 2679 := rfl
theorem tk_2680 : (2680 : Int32).toInt = 2680 := rfl
theorem tk_2681 : (2681 : Int32).toInt = 2681 := rfl
theorem tk_2682 : (2682 : Int32).toInt = 2682 := rfl
theorem tk_2683 : (2683 : Int32).toInt = 2683 := rfl
theorem tk_2684 : (2684 : Int32).toInt = 2684 := rfl
theorem tk_2685 : (2685 : Int32).toInt = 2685 := rfl
theorem tk_2686 : (2686 : Int32).toInt = 2686 := rfl
theorem tk_2687 : (2687 : Int32).toInt = 2687 := rfl
theorem tk_2688 : (2688 : Int32).toInt = 2688 := rfl
theorem tk_2689 : (2689 : Int32).toInt = 2689 := rfl
theorem tk_2690 : (2690 : Int32).toInt = 2690 := rfl
theorem tk_2691 : (2691 : Int32).toInt = 2691 := rfl
theorem tk_2692 : (2692 : Int32).toInt = 2692 := rfl
theorem tk_2693 : (2693 : Int32).toInt = 2693 := rfl
theorem tk_2694 : (2694 : Int32).toInt = 2694 := rfl
theorem tk_2695 : (2695 : Int32).toInt = 2695 := rfl
theorem tk_2696 : (2696 : Int32).toInt = 2696 := rfl
theorem tk_2697 : (2697 : Int32).toInt = 2697 := rfl
theorem tk_2698 : (2698 : Int32).toInt = 2698 := rfl
theorem tk_2699 : (2699 : Int32).toInt = 2699 := rfl
theorem tk_2700 : (2700 : Int32).toInt = 2700 := rfl
theorem tk_2701 : (2701 : Int32).toInt = 2701 := rfl
theorem tk_2702 : (2702 : Int32).toInt = 2702 := rfl
theorem tk_2703 : (2703 : Int32).toInt = 2703 := rfl
theorem tk_2704 : (2704 : Int32).toInt = 2704 := rfl
theorem tk_2705 : (2705 : Int32).toInt = 2705 := rfl
theorem tk_2706 : (2706 : Int32).toInt = 2706 := rfl
theorem tk_2707 : (2707 : Int32).toInt = 2707 := rfl
theorem tk_2708 : (2708 : Int32).toInt = 2708 := rfl
theorem tk_2709 : (2709 : Int32).toInt = 2709 := rfl
theorem tk_2710 : (2710 : Int32).toInt = 2710 := rfl
theorem tk_2711 : (2711 : Int32).toInt = 2711 := rfl
theorem tk_2712 : (2712 : Int32).toInt = 2712 := rfl
theorem tk_2713 : (2713 : Int32).toInt = 2713 := rfl
theorem tk_2714 : (2714 : Int32).toInt = 2714 := rfl
theorem tk_2715 : (2715 : Int32).toInt = 2715 := rfl
theorem tk_2716 : (2716 : Int32).toInt = 2716 := rfl
theorem tk_2717 : (2717 : Int32).toInt = 2717 := rfl
theorem tk_2718 : (2718 : Int32).toInt = 2718 := rfl
theorem tk_2719 : (2719 : Int32).toInt = 2719 := rfl
theorem tk_2720 : (2720 : Int32).toInt = 2720 := rfl
theorem tk_2721 : (2721 : Int32).toInt = 2721 := rfl
theorem tk_2722 : (2722 : Int32).toInt = 2722 := rfl
theorem tk_2723 : (2723 : Int32).toInt = 2723 := rfl
theorem tk_2724 : (2724 : Int32).toInt = 2724 := rfl
theorem tk_2725 : (2725 : Int32).toInt = 2725 := rfl
theorem tk_2726 : (2726 : Int32).toInt = 2726 := rfl
theorem tk_2727 : (2727 : Int32).toInt = 2727 := rfl
theorem tk_2728 : (2728 : Int32).toInt = 2728 := rfl
theorem tk_2729 : (2729 : Int32).toInt = 2729 := rfl
theorem tk_2730 : (2730 : Int32).toInt = 2730 := rfl
theorem tk_2731 : (2731 : Int32).toInt = 2731 := rfl
theorem tk_2732 : (2732 : Int32).toInt = 2732 := rfl
theorem tk_2733 : (2733 : Int32).toInt = 2733 := rfl
theorem tk_2734 : (2734 : Int32).toInt = 2734 := rfl
theorem tk_2735 : (2735 : Int32).toInt = 2735 := rfl
theorem tk_2736 : (2736 : Int32).toInt = 2736 := rfl
theorem tk_2737 : (2737 : Int32).toInt = 2737 := rfl
theorem tk_2738 : (2738 : Int32).toInt = 2738 := rfl
theorem tk_2739 : (2739 : Int32).toInt = 2739 := rfl
theorem tk_2740 : (2740 : Int32).toInt = 2740 := rfl
theorem tk_2741 : (2741 : Int32).toInt = 2741 := rfl
theorem tk_2742 : (2742 : Int32).toInt = 2742 := rfl
theorem tk_2743 : (2743 : Int32).toInt = 2743 := rfl
theorem tk_2744 : (2744 : Int32).toInt = 2744 := rfl
theorem tk_2745 : (2745 : Int32).toInt = 2745 := rfl
theorem tk_2746 : (2746 : Int32).toInt = 2746 := rfl
theorem tk_2747 : (2747 : Int32).toInt = 2747 := rfl
theorem tk_2748 : (2748 : Int32).toInt = 2748 := rfl
theorem tk_2749 : (2749 : Int32).toInt = 2749 := rfl
theorem tk_2750 : (2750 : Int32).toInt = 2750 := rfl
theorem tk_2751 : (2751 : Int32).toInt = 2751 := rfl
theorem tk_2752 : (2752 : Int32).toInt = 2752 := rfl
theorem tk_2753 : (2753 : Int32).toInt = 2753 := rfl
theorem tk_2754 : (2754 : Int32).toInt = 2754 := rfl
theorem tk_2755 : (2755 : Int32).toInt = 2755 := rfl
theorem tk_2756 : (2756 : Int32).toInt = 2756 := rfl
theorem tk_2757 : (2757 : Int32).toInt = 2757 := rfl
theorem tk_2758 : (2758 : Int32).toInt = 2758 := rfl
theorem tk_2759 : (2759 : Int32).toInt = 2759 := rfl
theorem tk_2760 : (2760 : Int32).toInt = 2760 := rfl
theorem tk_2761 : (2761 : Int32).toInt = 2761 := rfl
theorem tk_2762 : (2762 : Int32).toInt = 2762 := rfl
theorem tk_2763 : (2763 : Int32).toInt = 2763 := rfl
theorem tk_2764 : (2764 : Int32).toInt = 2764 := rfl
theorem tk_2765 : (2765 : Int32).toInt = 2765 := rfl
theorem tk_2766 : (2766 : Int32).toInt = 2766 := rfl
theorem tk_2767 : (2767 : Int32).toInt = 2767 := rfl
theorem tk_2768 : (2768 : Int32).toInt = 2768 := rfl
theorem tk_2769 : (2769 : Int32).toInt = 2769 := rfl
theorem tk_2770 : (2770 : Int32).toInt = 2770 := rfl
theorem tk_2771 : (2771 : Int32).toInt = 2771 := rfl
theorem tk_2772 : (2772 : Int32).toInt = 2772 := rfl
theorem tk_2773 : (2773 : Int32).toInt = 2773 := rfl
theorem tk_2774 : (2774 : Int32).toInt = 2774 := rfl
theorem tk_2775 : (2775 : Int32).toInt = 2775 := rfl
theorem tk_2776 : (2776 : Int32).toInt = 2776 := rfl
theorem tk_2777 : (2777 : Int32).toInt = 2777 := rfl
theorem tk_2778 : (2778 : Int32).toInt = 2778 := rfl
theorem tk_2779 : (2779 : Int32).toInt = 2779 := rfl
theorem tk_2780 : (2780 : Int32).toInt = 2780 := rfl
theorem tk_2781 : (2781 : Int32).toInt = 2781 := rfl
theorem tk_2782 : (2782 : Int32).toInt = 2782 := rfl
theorem tk_2783 : (2783 : Int32).toInt = 2783 := rfl
theorem tk_2784 : (2784 : Int32).toInt = 2784 := rfl
theorem tk_2785 : (2785 : Int32).toInt = 2785 := rfl
theorem tk_2786 : (2786 : Int32).toInt = 2786 := rfl
theorem tk_2787 : (2787 : Int32).toInt = 2787 := rfl
theorem tk_2788 : (2788 : Int32).toInt = 2788 := rfl
theorem tk_2789 : (2789 : Int32).toInt = 2789 := rfl
theorem tk_2790 : (2790 : Int32).toInt = 2790 := rfl
theorem tk_2791 : (2791 : Int32).toInt = 2791 := rfl
theorem tk_2792 : (2792 : Int32).toInt = 2792 := rfl
theorem tk_2793 : (2793 : Int32).toInt = 2793 := rfl
theorem tk_2794 : (2794 : Int32).toInt = 2794 := rfl
theorem tk_2795 : (2795 : Int32).toInt = 2795 := rfl
theorem tk_2796 : (2796 : Int32).toInt = 2796 := rfl
theorem tk_2797 : (2797 : Int32).toInt = 2797 := rfl
theorem tk_2798 : (2798 : Int32).toInt = 2798 := rfl
theorem tk_2799 : (2799 : Int32).toInt = 2799 := rfl
theorem tk_2800 : (2800 : Int32).toInt = 2800 := rfl
theorem tk_2801 : (2801 : Int32).toInt = 2801 := rfl
theorem tk_2802 : (2802 : Int32).toInt = 2802 := rfl
theorem tk_2803 : (2803 : Int32).toInt = 2803 := rfl
theorem tk_2804 : (2804 : Int32).toInt = 2804 := rfl
theorem tk_2805 : (2805 : Int32).toInt = 2805 := rfl
theorem tk_2806 : (2806 : Int32).toInt = 2806 := rfl
theorem tk_2807 : (2807 : Int32).toInt = 2807 := rfl
theorem tk_2808 : (2808 : Int32).toInt = 2808 := rfl
theorem tk_2809 : (2809 : Int32).toInt = 2809 := rfl
theorem tk_2810 : (2810 : Int32).toInt = 2810 := rfl
theorem tk_2811 : (2811 : Int32).toInt = 2811 := rfl
theorem tk_2812 : (2812 : Int32).toInt = 2812 := rfl
theorem tk_2813 : (2813 : Int32).toInt = 2813 := rfl
theorem tk_2814 : (2814 : Int32).toInt = 2814 := rfl
theorem tk_2815 : (2815 : Int32).toInt = 2815 := rfl
theorem tk_2816 : (2816 : Int32).toInt = 2816 := rfl
theorem tk_2817 : (2817 : Int32).toInt = 2817 := rfl
theorem tk_2818 : (2818 : Int32).toInt = 2818 := rfl
theorem tk_2819 : (2819 : Int32).toInt = 2819 := rfl
theorem tk_2820 : (2820 : Int32).toInt = 2820 := rfl
theorem tk_2821 : (2821 : Int32).toInt = 2821 := rfl
theorem tk_2822 : (2822 : Int32).toInt = 2822 := rfl
theorem tk_2823 : (2823 : Int32).toInt = 2823 := rfl
theorem tk_2824 : (2824 : Int32).toInt = 2824 := rfl
theorem tk_2825 : (2825 : Int32).toInt = 2825 := rfl
theorem tk_2826 : (2826 : Int32).toInt = 2826 := rfl
theorem tk_2827 : (2827 : Int32).toInt = 2827 := rfl
theorem tk_2828 : (2828 : Int32).toInt = 2828 := rfl
theorem tk_2829 : (2829 : Int32).toInt = 2829 := rfl
theorem tk_2830 : (2830 : Int32).toInt = 2830 := rfl
theorem tk_2831 : (2831 : Int32).toInt = 2831 := rfl
theorem tk_2832 : (2832 : Int32).toInt = 2832 := rfl
theorem tk_2833 : (2833 : Int32).toInt = 2833 := rfl
theorem tk_2834 : (2834 : Int32).toInt = 2834 := rfl
theorem tk_2835 : (2835 : Int32).toInt = 2835 := rfl
theorem tk_2836 : (2836 : Int32).toInt = 2836 := rfl
theorem tk_2837 : (2837 : Int32).toInt = 2837 := rfl
theorem tk_2838 : (2838 : Int32).toInt = 2838 := rfl
theorem tk_2839 : (2839 : Int32).toInt = 2839 := rfl
theorem tk_2840 : (2840 : Int32).toInt = 2840 := rfl
theorem tk_2841 : (2841 : Int32).toInt = 2841 := rfl
theorem tk_2842 : (2842 : Int32).toInt = 2842 := rfl
theorem tk_2843 : (2843 : Int32).toInt = 2843 := rfl
theorem tk_2844 : (2844 : Int32).toInt = 2844 := rfl
theorem tk_2845 : (2845 : Int32).toInt = 2845 := rfl
theorem tk_2846 : (2846 : Int32).toInt = 2846 := rfl
theorem tk_2847 : (2847 : Int32).toInt = 2847 := rfl
theorem tk_2848 : (2848 : Int32).toInt = 2848 := rfl
theorem tk_2849 : (2849 : Int32).toInt = 2849 := rfl
theorem tk_2850 : (2850 : Int32).toInt = 2850 := rfl
theorem tk_2851 : (2851 : Int32).toInt = 2851 := rfl
theorem tk_2852 : (2852 : Int32).toInt = 2852 := rfl
theorem tk_2853 : (2853 : Int32).toInt = 2853 := rfl
theorem tk_2854 : (2854 : Int32).toInt = 2854 := rfl
theorem tk_2855 : (2855 : Int32).toInt = 2855 := rfl
theorem tk_2856 : (2856 : Int32).toInt = 2856 := rfl
theorem tk_2857 : (2857 : Int32).toInt = 2857 := rfl
theorem tk_2858 : (2858 : Int32).toInt = 2858 := rfl
theorem tk_2859 : (2859 : Int32).toInt = 2859 := rfl
theorem tk_2860 : (2860 : Int32).toInt = 2860 := rfl
theorem tk_2861 : (2861 : Int32).toInt = 2861 := rfl
theorem tk_2862 : (2862 : Int32).toInt = 2862 := rfl
theorem tk_2863 : (2863 : Int32).toInt = 2863 := rfl
theorem tk_2864 : (2864 : Int32).toInt = 2864 := rfl
theorem tk_2865 : (2865 : Int32).toInt = 2865 := rfl
theorem tk_2866 : (2866 : Int32).toInt = 2866 := rfl
theorem tk_2867 : (2867 : Int32).toInt = 2867 := rfl
theorem tk_2868 : (2868 : Int32).toInt = 2868 := rfl
theorem tk_2869 : (2869 : Int32).toInt = 2869 := rfl
theorem tk_2870 : (2870 : Int32).toInt = 2870 := rfl
theorem tk_2871 : (2871 : Int32).toInt = 2871 := rfl
theorem tk_2872 : (2872 : Int32).toInt = 2872 := rfl
theorem tk_2873 : (2873 : Int32).toInt = 2873 := rfl
theorem tk_2874 : (2874 : Int32).toInt = 2874 := rfl
theorem tk_2875 : (2875 : Int32).toInt = 2875 := rfl
theorem tk_2876 : (2876 : Int32).toInt = 2876 := rfl
theorem tk_2877 : (2877 : Int32).toInt = 2877 := rfl
theorem tk_2878 : (2878 : Int32).toInt = 2878 := rfl
theorem tk_2879 : (2879 : Int32).toInt = 2879 := rfl
theorem tk_2881 : (2881 : Int32).toInt = 2881 := rfl
theorem tk_2882 : (2882 : Int32).toInt = 2882 := rfl
theorem tk_2883 : (2883 : Int32).toInt = 2883 := rfl
theorem tk_2884 : (2884 : Int32).toInt = 2884 := rfl
theorem tk_2885 : (2885 : Int32).toInt = 2885 := rfl
theorem tk_2886 : (2886 : Int32).toInt = 2886 := rfl
theorem tk_2887 : (2887 : Int32).toInt = 2887 := rfl
theorem tk_2888 : (2888 : Int32).toInt = 2888 := rfl
theorem tk_2889 : (2889 : Int32).toInt = 2889 := rfl
theorem tk_2890 : (2890 : Int32).toInt = 2890 := rfl
theorem tk_2891 : (2891 : Int32).toInt = 2891 := rfl
theorem tk_2892 : (2892 : Int32).toInt = 2892 := rfl
theorem tk_2893 : (2893 : Int32).toInt = 2893 := rfl
theorem tk_2894 : (2894 : Int32).toInt = 2894 := rfl
theorem tk_2895 : (2895 : Int32).toInt = 2895 := rfl
theorem tk_2896 : (2896 : Int32).toInt = 2896 := rfl
theorem tk_2897 : (2897 : Int32).toInt = 2897 := rfl
theorem tk_2898 : (2898 : Int32).toInt = 2898 := rfl
theorem tk_2899 : (2899 : Int32).toInt = 2899 := rfl
theorem tk_2900 : (2900 : Int32).toInt = 2900 := rfl
theorem tk_2901 : (2901 : Int32).toInt = 2901 := rfl
theorem tk_2902 : (2902 : Int32).toInt = 2902 := rfl
theorem tk_2903 : (2903 : Int32).toInt = 2903 := rfl
theorem tk_2904 : (2904 : Int32).toInt = 2904 := rfl
theorem tk_2905 : (2905 : Int32).toInt = 2905 := rfl
theorem tk_2906 : (2906 : Int32).toInt = 2906 := rfl
theorem tk_2907 : (2907 : Int32).toInt = 2907 := rfl
theorem tk_2908 : (2908 : Int32).toInt = 2908 := rfl
theorem tk_2909 : (2909 : Int32).toInt = 2909 := rfl
theorem tk_2910 : (2910 : Int32).toInt = 2910 := rfl
theorem tk_2911 : (2911 : Int32).toInt = 2911 := rfl
theorem tk_2912 : (2912 : Int32).toInt = 2912 := rfl
theorem tk_2913 : (2913 : Int32).toInt = 2913 := rfl
theorem tk_2914 : (2914 : Int32).toInt = 2914 := rfl
theorem tk_2915 : (2915 : Int32).toInt = 2915 := rfl
theorem tk_2916 : (2916 : Int32).toInt = 2916 := rfl
theorem tk_2917 : (2917 : Int32).toInt = 2917 := rfl
theorem tk_2918 : (2918 : Int32).toInt = 2918 := rfl
theorem tk_2919 : (2919 : Int32).toInt = 2919 := rfl
theorem tk_2920 : (2920 : Int32).toInt = 2920 := rfl
theorem tk_2921 : (2921 : Int32).toInt = 2921 := rfl
theorem tk_2922 : (2922 : Int32).toInt = 2922 := rfl
theorem tk_2923 : (2923 : Int32).toInt = 2923 := rfl
theorem tk_2924 : (2924 : Int32).toInt = 2924 := rfl
theorem tk_2925 : (2925 : Int32).toInt = 2925 := rfl
theorem tk_2926 : (2926 : Int32).toInt = 2926 := rfl
theorem tk_2927 : (2927 : Int32).toInt = 2927 := rfl
theorem tk_2928 : (2928 : Int32).toInt = 2928 := rfl
theorem tk_2929 : (2929 : Int32).toInt = 2929 := rfl
theorem tk_2930 : (2930 : Int32).toInt = 2930 := rfl
theorem tk_2931 : (2931 : Int32).toInt = 2931 := rfl
theorem tk_2932 : (2932 : Int32).toInt = 2932 := rfl
theorem tk_2933 : (2933 : Int32).toInt = 2933 := rfl
theorem tk_2934 : (2934 : Int32).toInt = 2934 := rfl
theorem tk_2935 : (2935 : Int32).toInt = 2935 := rfl
theorem tk_2936 : (2936 : Int32).toInt = 2936 := rfl
theorem tk_2937 : (2937 : Int32).toInt = 2937 := rfl
theorem tk_2938 : (2938 : Int32).toInt = 2938 := rfl
theorem tk_2939 : (2939 : Int32).toInt = 2939 := rfl
theorem tk_2940 : (2940 : Int32).toInt = 2940 := rfl
theorem tk_2941 : (2941 : Int32).toInt = 2941 := rfl
theorem tk_2942 : (2942 : Int32).toInt = 2942 := rfl
theorem tk_2943 : (2943 : Int32).toInt = 2943 := rfl
theorem tk_2944 : (2944 : Int32).toInt = 2944 := rfl
theorem tk_2945 : (2945 : Int32).toInt = 2945 := rfl
theorem tk_2946 : (2946 : Int32).toInt = 2946 := rfl
theorem tk_2947 : (2947 : Int32).toInt = 2947 := rfl
theorem tk_2948 : (2948 : Int32).toInt = 2948 := rfl
theorem tk_2949 : (2949 : Int32).toInt = 2949 := rfl
theorem tk_2950 : (2950 : Int32).toInt = 2950 := rfl
theorem tk_2951 : (2951 : Int32).toInt = 2951 := rfl
theorem tk_2952 : (2952 : Int32).toInt = 2952 := rfl
theorem tk_2953 : (2953 : Int32).toInt = 2953 := rfl
theorem tk_2954 : (2954 : Int32).toInt = 2954 := rfl
theorem tk_2955 : (2955 : Int32).toInt = 2955 := rfl
theorem tk_2956 : (2956 : Int32).toInt = 2956 := rfl
theorem tk_2957 : (2957 : Int32).toInt = 2957 := rfl
theorem tk_2958 : (2958 : Int32).toInt = 2958 := rfl
theorem tk_2959 : (2959 : Int32).toInt = 2959 := rfl
theorem tk_2960 : (2960 : Int32).toInt = 2960 := rfl
theorem tk_2961 : (2961 : Int32).toInt = 2961 := rfl
theorem tk_2962 : (2962 : Int32).toInt = 2962 := rfl
theorem tk_2963 : (2963 : Int32).toInt = 2963 := rfl
theorem tk_2964 : (2964 : Int32).toInt = 2964 := rfl
theorem tk_2965 : (2965 : Int32).toInt = 2965 := rfl
theorem tk_2966 : (2966 : Int32).toInt = 2966 := rfl
theorem tk_2967 : (2967 : Int32).toInt = 2967 := rfl
theorem tk_2968 : (2968 : Int32).toInt = 2968 := rfl
theorem tk_2969 : (2969 : Int32).toInt = 2969 := rfl
theorem tk_2970 : (2970 : Int32).toInt = 2970 := rfl
theorem tk_2971 : (2971 : Int32).toInt = 2971 := rfl
theorem tk_2972 : (2972 : Int32).toInt = 2972 := rfl
theorem tk_2973 : (2973 : Int32).toInt = 2973 := rfl
theorem tk_2974 : (2974 : Int32).toInt = 2974 := rfl
theorem tk_2975 : (2975 : Int32).toInt = 2975 := rfl
theorem tk_2976 : (2976 : Int32).toInt = 2976 := rfl
theorem tk_2977 : (2977 : Int32).toInt = 2977 := rfl
theorem tk_2978 : (2978 : Int32).toInt = 2978 := rfl
theorem tk_2979 : (2979 : Int32).toInt = 2979 := rfl
theorem tk_2980 : (2980 : Int32).toInt = 2980 := rfl
theorem tk_2981 : (2981 : Int32).toInt = 2981 := rfl
theorem tk_2982 : (2982 : Int32).toInt = 2982 := rfl
theorem tk_2983 : (2983 : Int32).toInt = 2983 := rfl
theorem tk_2984 : (2984 : Int32).toInt = 2984 := rfl
theorem tk_2985 : (2985 : Int32).toInt = 2985 := rfl
theorem tk_2986 : (2986 : Int32).toInt = 2986 := rfl
theorem tk_2987 : (2987 : Int32).toInt = 2987 := rfl
theorem tk_2988 : (2988 : Int32).toInt = 2988 := rfl
theorem tk_2989 : (2989 : Int32).toInt = 2989 := rfl
theorem tk_2990 : (2990 : Int32).toInt = 2990 := rfl
theorem tk_2991 : (2991 : Int32).toInt = 2991 := rfl
theorem tk_2992 : (2992 : Int32).toInt = 2992 := rfl
theorem tk_2993 : (2993 : Int32).toInt = 2993 := rfl
theorem tk_2994 : (2994 : Int32).toInt = 2994 := rfl
theorem tk_2995 : (2995 : Int32).toInt = 2995 := rfl
theorem tk_2996 : (2996 : Int32).toInt = 2996 := rfl
theorem tk_2997 : (2997 : Int32).toInt = 2997 := rfl
theorem tk_2998 : (2998 : Int32).toInt = 2998 := rfl
theorem tk_2999 : (2999 : Int32).toInt = 2999 := rfl
theorem tk_5680 : (5680 : Int32).toInt = 5680 := rfl
end
section
section MO1
variable {G : th_G} {Γ : th_Ga} {H H1 H2 : Heap}
def mo_i (v : Value) : Int32 := match v with | .int x => x | _ => 0
def mo_b (v : Value) : Nat := match v with | .ref b => b | _ => 0
/-- field j of the reference's object -/
def mo_f (G : th_G) (H : Heap) (a j : Nat) : Int := (mo_i (th_sl H a (G.1.1.2 12 j))).toInt
/-- the row in its field j -/
def mo_x (G : th_G) (H : Heap) (a j : Nat) (z : Int) : Int32 := if z < 0 then 0 else mo_i (th_sl H (mo_b (th_sl H a (G.1.1.2 12 j))) z.toNat)
def mo_v (G : th_G) (H : Heap) (a j : Nat) (z : Int) : Int := (mo_x G H a j z).toInt
def mo_u {α : Type} (f : Int → α) (i : Int) (v : α) : Int → α := fun z => if z = i then v else f z
theorem mo_us {α : Type} {f : Int → α} {i z : Int} {v : α} (h : z = i) : mo_u f i v z = v := if_pos h
theorem mo_un {α : Type} {f : Int → α} {i z : Int} {v : α} (h : z ≠ i) : mo_u f i v z = f z := if_neg h
theorem mo_fat {a j : Nat} {x : Int32} (h : th_sl H a (G.1.1.2 12 j) = .int x) : mo_f G H a j = x.toInt := by
  unfold mo_f; rw [h]; rfl
theorem mo_xat {a j b : Nat} {z : Int} {x : Int32} (hb : th_sl H a (G.1.1.2 12 j) = .ref b) (hx : th_sl H b z.toNat = .int x) (h0 : 0 ≤ z) : mo_x G H a j z = x := by
  unfold mo_x
  rw [if_neg (by omega), hb]
  show mo_i (th_sl H b z.toNat) = x
  rw [hx]
  rfl
theorem mo_vat {a j b : Nat} {z : Int} {x : Int32} (hb : th_sl H a (G.1.1.2 12 j) = .ref b) (hx : th_sl H b z.toNat = .int x) (h0 : 0 ≤ z) : mo_v G H a j z = x.toInt := by
  unfold mo_v; rw [mo_xat hb hx h0]
theorem mo_f_F {L : List (Nat × Nat)} (hF : th_F G Γ L H H1) {a o j : Nat} (ha : Γ a = (46, o)) (hj : j < 57) (hL : th_in L 46 j = false) : mo_f G H1 a j = mo_f G H a j := by
  unfold mo_f
  rw [th_F_o hF ha ro_46 (j := j) hj hL]
theorem mo_f_St {a j : Nat} {v : Int32} (hst : th_St H H1 a (G.1.1.2 12 j) (.int v)) : mo_f G H1 a j = v.toInt := mo_fat hst.2.1
theorem mo_x_F {L : List (Nat × Nat)} (hI : th_I G Γ H1) (hF : th_F G Γ L H H1) {a o j r : Nat} {hi : Int} {x : Nat × Nat × Nat × (Nat → th_sp)} (ha : Γ a = (46, o)) (hq : th_f46[j]? = some (4, (r : Int), hi)) (hr : th_ro r = some (.inr x)) (hL : th_in L 46 j = false) (hL2 : th_in L r 0 = false) : mo_x G H1 a j = mo_x G H a j := by
  obtain ⟨b, m1, g1⟩ := th_fo hI ha ro_46 hq
  have e := th_F_o hF ha ro_46 (j := j) (List.getElem?_eq_some_iff.mp hq).1 hL
  have m2 : th_sl H a (G.1.1.2 12 j) = .ref b := e.symm.trans m1
  funext z
  unfold mo_x
  rw [m1, m2]
  show (if z < 0 then 0 else mo_i (th_sl H1 b z.toNat)) = (if z < 0 then 0 else mo_i (th_sl H b z.toNat))
  rw [th_F_a hF g1 hr hL2]
theorem mo_v_F {L : List (Nat × Nat)} (hI : th_I G Γ H1) (hF : th_F G Γ L H H1) {a o j r : Nat} {hi : Int} {x : Nat × Nat × Nat × (Nat → th_sp)} (ha : Γ a = (46, o)) (hq : th_f46[j]? = some (4, (r : Int), hi)) (hr : th_ro r = some (.inr x)) (hL : th_in L 46 j = false) (hL2 : th_in L r 0 = false) : mo_v G H1 a j = mo_v G H a j := by
  funext z
  unfold mo_v
  rw [mo_x_F hI hF ha hq hr hL hL2]
theorem mo_x_st {a o j b r : Nat} {v : Int32} {z : Int} (ha : Γ a = (46, o)) (hb : Γ b = (r, a)) (hne : r ≠ 46) (mb : th_sl H a (G.1.1.2 12 j) = .ref b) (hst : th_St H H1 b z.toNat (.int v)) (h0 : 0 ≤ z) : mo_x G H1 a j = mo_u (mo_x G H a j) z v := by
  obtain ⟨-, s1, s2, s3, -⟩ := hst
  have hab : a ≠ b := fun e => by
    rw [← e, ha] at hb
    exact hne (Prod.mk.inj hb).1.symm
  funext y
  unfold mo_x mo_u
  rw [th_sl_kept (s3 a hab), mb]
  show (if y < 0 then 0 else mo_i (th_sl H1 b y.toNat)) = (if y = z then v else if y < 0 then 0 else mo_i (th_sl H b y.toNat))
  by_cases h1 : y = z
  · rw [if_pos h1, if_neg (by omega), h1, s1]
    rfl
  · rw [if_neg h1]
    by_cases h2 : y < 0
    · rw [if_pos h2, if_pos h2]
    · rw [if_neg h2, if_neg h2, s2 _ (by omega)]
theorem mo_v_st {a o j b r : Nat} {v : Int32} {z : Int} (ha : Γ a = (46, o)) (hb : Γ b = (r, a)) (hne : r ≠ 46) (mb : th_sl H a (G.1.1.2 12 j) = .ref b) (hst : th_St H H1 b z.toNat (.int v)) (h0 : 0 ≤ z) : mo_v G H1 a j = mo_u (mo_v G H a j) z v.toInt := by
  funext y
  unfold mo_v
  rw [mo_x_st ha hb hne mb hst h0]
  unfold mo_u
  split <;> rfl
/-- a row's values are as its role says -/
theorem mo_v_rg (hI : th_I G Γ H) {a o j r t n1 n2 : Nat} {hi : Int} {es : Nat → th_sp} (ha : Γ a = (46, o)) (hq : th_f46[j]? = some (4, (r : Int), hi)) (hr : th_ro r = some (.inr (t, n1, n2, es))) {z lo up : Int} (h0 : 0 ≤ z) (h1 : z < (n1 : Int)) (he : es z.toNat = (0, lo, up)) : lo ≤ mo_v G H a j z ∧ mo_v G H a j z ≤ up := by
  obtain ⟨b, m1, g1⟩ := th_fo hI ha ro_46 hq
  obtain ⟨n, q1, q2, q3, q4, q5⟩ := th_ald0 hI g1 hr
  have h := q5 z.toNat (by omega)
  rw [he] at h
  obtain ⟨x, e1, e2, e3⟩ := h
  rw [mo_vat m1 e1 h0]
  exact ⟨e2, e3⟩
end MO1
section MO2
def mo_sm (f : Nat → Int) : Nat → Int
  | 0 => 0
  | n + 1 => mo_sm f n + f n
theorem mo_sm_add (f g : Nat → Int) (n : Nat) : mo_sm (fun i => f i + g i) n = mo_sm f n + mo_sm g n := by
  induction n with
  | zero => rfl
  | succ n ih => simp only [mo_sm, ih]; omega
theorem mo_sm_le {f g : Nat → Int} {n : Nat} (h : ∀ i, i < n → f i ≤ g i) : mo_sm f n ≤ mo_sm g n := by
  induction n with
  | zero => exact Int.le_refl _
  | succ n ih =>
    have h1 := ih (fun i hi => h i (by omega))
    have h2 := h n (by omega)
    simp only [mo_sm]
    omega
theorem mo_sm_eq {f g : Nat → Int} {n : Nat} (h : ∀ i, i < n → f i = g i) : mo_sm f n = mo_sm g n := by
  induction n with
  | zero => rfl
  | succ n ih =>
    have h1 := ih (fun i hi => h i (by omega))
    have h2 := h n (by omega)
    simp only [mo_sm]
    omega
theorem mo_sm_c (c : Int) (n : Nat) : mo_sm (fun _ => c) n = (n : Int) * c := by
  induction n with
  | zero => simp [mo_sm]
  | succ n ih =>
    have e : ((n + 1 : Nat) : Int) = (n : Int) + 1 := by omega
    simp only [mo_sm, ih]
    rw [e, Int.add_mul, Int.one_mul]
def mo_cl (a s : Int) (n : Nat) : Int := if (n : Int) ≤ a then 0 else if (n : Int) ≤ a + s then n - a else s
theorem mo_sm_in (a s w : Int) (ha : 0 ≤ a) (hs : 0 ≤ s) (n : Nat) : mo_sm (fun i => if a ≤ (i : Int) ∧ (i : Int) < a + s then w else 0) n = mo_cl a s n * w := by
  induction n with
  | zero =>
    have e : mo_cl a s 0 = 0 := by unfold mo_cl; rw [if_pos (by omega)]
    rw [e, Int.zero_mul]
    rfl
  | succ n ih =>
    simp only [mo_sm, ih]
    by_cases h1 : a ≤ (n : Int) ∧ (n : Int) < a + s
    · rw [if_pos h1]
      have e : mo_cl a s (n + 1) = mo_cl a s n + 1 := by unfold mo_cl; (repeat' split) <;> omega
      rw [e, Int.add_mul, Int.one_mul]
    · rw [if_neg h1]
      have e : mo_cl a s (n + 1) = mo_cl a s n := by unfold mo_cl; (repeat' split) <;> omega
      rw [e, Int.add_zero]
theorem mo_cl_s {a s : Int} {n : Nat} (hs : 0 ≤ s) (ha : 0 ≤ a) (h : a + s ≤ (n : Int)) : mo_cl a s n = s := by
  unfold mo_cl; (repeat' split) <;> omega
/-- carpet c, as the row k has it, covers a cell -/
abbrev mo_co (k : Int → Int) (c x y : Int) : Prop := k (9 + c) ≠ -1 ∧ k (9 + c) ≤ x ∧ x < k (9 + c) + k (29 + c) ∧ k (18 + c) ≤ y ∧ y < k (18 + c) + k (29 + c)
def mo_ap (k : Int → Int) (c d : Int) : Prop := k (9 + c) + k (29 + c) ≤ k (9 + d) ∨ k (9 + d) + k (29 + d) ≤ k (9 + c) ∨ k (18 + c) + k (29 + c) ≤ k (18 + d) ∨ k (18 + d) + k (29 + d) ≤ k (18 + c)
def mo_geo (k : Int → Int) : Prop := k 69 ≤ 9 ∧ (∀ c, 0 ≤ c → c < k 69 → k (9 + c) ≠ -1 → 1 ≤ k (29 + c) ∧ 0 ≤ k (9 + c) ∧ 0 ≤ k (18 + c) ∧ k (9 + c) + k (29 + c) ≤ k 67 ∧ k (18 + c) + k (29 + c) ≤ k 68) ∧ ∀ c d, 0 ≤ c → c < k 69 → 0 ≤ d → d < k 69 → c ≠ d → k (9 + c) ≠ -1 → k (9 + d) ≠ -1 → mo_ap k c d
def mo_ss (k : Int → Int) : Nat → Int
  | 0 => 0
  | n + 1 => mo_ss k n + if k (9 + (n : Int)) = -1 then 0 else k (29 + (n : Int)) * k (29 + (n : Int))
def mo_cc (k : Int → Int) (x y : Int) : Nat → Int
  | 0 => 0
  | n + 1 => mo_cc k x y n + if mo_co k (n : Int) x y then 1 else 0
theorem mo_co1 {k : Int → Int} (hg : mo_geo k) {c d x y : Int} (hc0 : 0 ≤ c) (hc : c < k 69) (hd0 : 0 ≤ d) (hd : d < k 69) (h1 : mo_co k c x y) (h2 : mo_co k d x y) : c = d := by
  rcases Int.lt_or_le c d with h | h
  · have := hg.2.2 c d hc0 hc hd0 hd (by omega) h1.1 h2.1
    unfold mo_ap at this
    obtain ⟨-, a1, a2, a3, a4⟩ := h1
    obtain ⟨-, b1, b2, b3, b4⟩ := h2
    omega
  · rcases Int.lt_or_le d c with h' | h'
    · have := hg.2.2 c d hc0 hc hd0 hd (by omega) h1.1 h2.1
      unfold mo_ap at this
      obtain ⟨-, a1, a2, a3, a4⟩ := h1
      obtain ⟨-, b1, b2, b3, b4⟩ := h2
      omega
    · omega
theorem mo_cc_le {k : Int → Int} (hg : mo_geo k) (x y : Int) (n : Nat) (hn : (n : Int) ≤ k 69) : mo_cc k x y n ≤ 1 ∧ (1 ≤ mo_cc k x y n → ∃ c : Nat, c < n ∧ mo_co k (c : Int) x y) := by
  induction n with
  | zero => exact ⟨by simp only [mo_cc]; omega, fun h => by simp only [mo_cc] at h; omega⟩
  | succ n ih =>
    obtain ⟨h1, h2⟩ := ih (by omega)
    simp only [mo_cc]
    by_cases hc : mo_co k (n : Int) x y
    · rw [if_pos hc]
      have h4 : ¬ 1 ≤ mo_cc k x y n := fun q => by
        obtain ⟨c, hc1, hc2⟩ := h2 q
        have := mo_co1 hg (by omega) (by omega) (by omega) (by omega) hc2 hc
        omega
      exact ⟨by omega, fun _ => ⟨n, by omega, hc⟩⟩
    · rw [if_neg hc]
      refine ⟨by omega, fun q => ?_⟩
      obtain ⟨c, hc1, hc2⟩ := h2 (by omega)
      exact ⟨c, by omega, hc2⟩
theorem mo_ar {k : Int → Int} (hg : mo_geo k) {W Z : Nat} (hW : (W : Int) = k 67) (hZ : (Z : Int) = k 68) (n : Nat) (hn : (n : Int) ≤ k 69) : mo_sm (fun y => mo_sm (fun x => mo_cc k (x : Int) (y : Int) n) W) Z = mo_ss k n := by
  induction n with
  | zero =>
    have e : (fun y : Nat => mo_sm (fun x => mo_cc k (x : Int) (y : Int) 0) W) = fun _ => (0 : Int) := by
      funext y
      show mo_sm (fun _ => (0 : Int)) W = 0
      rw [mo_sm_c, Int.mul_zero]
    rw [e, mo_sm_c, Int.mul_zero]
    rfl
  | succ n ih =>
    have e : (fun y : Nat => mo_sm (fun x => mo_cc k (x : Int) (y : Int) (n + 1)) W) = fun y : Nat => mo_sm (fun x => mo_cc k (x : Int) (y : Int) n) W + mo_sm (fun x => if mo_co k (n : Int) (x : Int) (y : Int) then 1 else 0) W := by
      funext y
      rw [← mo_sm_add]
      rfl
    rw [e, mo_sm_add, ih (by omega)]
    simp only [mo_ss]
    congr 1
    by_cases hl : k (9 + (n : Int)) = -1
    · rw [if_pos hl]
      have e2 : (fun y : Nat => mo_sm (fun x : Nat => if mo_co k (n : Int) (x : Int) (y : Int) then (1 : Int) else 0) W) = fun _ => (0 : Int) := by
        funext y
        have e3 : (fun x : Nat => if mo_co k (n : Int) (x : Int) (y : Int) then (1 : Int) else 0) = fun _ => (0 : Int) := by
          funext x
          exact if_neg (fun q => q.1 hl)
        rw [e3, mo_sm_c, Int.mul_zero]
      rw [e2, mo_sm_c, Int.mul_zero]
    · rw [if_neg hl]
      obtain ⟨g1, g2, g3, g4, g5⟩ := hg.2.1 (n : Int) (by omega) (by omega) hl
      have e2 : (fun y : Nat => mo_sm (fun x : Nat => if mo_co k (n : Int) (x : Int) (y : Int) then (1 : Int) else 0) W) = fun y : Nat => if k (18 + (n : Int)) ≤ (y : Int) ∧ (y : Int) < k (18 + (n : Int)) + k (29 + (n : Int)) then k (29 + (n : Int)) else 0 := by
        funext y
        by_cases hy : k (18 + (n : Int)) ≤ (y : Int) ∧ (y : Int) < k (18 + (n : Int)) + k (29 + (n : Int))
        · rw [if_pos hy]
          have e3 : mo_sm (fun x : Nat => if mo_co k (n : Int) (x : Int) (y : Int) then (1 : Int) else 0) W = mo_sm (fun x : Nat => if k (9 + (n : Int)) ≤ (x : Int) ∧ (x : Int) < k (9 + (n : Int)) + k (29 + (n : Int)) then (1 : Int) else 0) W := by
            apply mo_sm_eq
            intro x _
            by_cases hx : k (9 + (n : Int)) ≤ (x : Int) ∧ (x : Int) < k (9 + (n : Int)) + k (29 + (n : Int))
            · rw [if_pos hx, if_pos ⟨hl, hx.1, hx.2, hy.1, hy.2⟩]
            · rw [if_neg hx, if_neg (fun q => hx ⟨q.2.1, q.2.2.1⟩)]
          rw [e3, mo_sm_in _ _ _ g2 (by omega), mo_cl_s (by omega) g2 (by omega), Int.mul_one]
        · rw [if_neg hy]
          have e3 : (fun x : Nat => if mo_co k (n : Int) (x : Int) (y : Int) then (1 : Int) else 0) = fun _ => (0 : Int) := by
            funext x
            exact if_neg (fun q => hy ⟨q.2.2.2.1, q.2.2.2.2⟩)
          rw [e3, mo_sm_c, Int.mul_zero]
      rw [e2, mo_sm_in _ _ _ g3 (by omega), mo_cl_s (by omega) g3 (by omega)]
theorem mo_ss_le {k : Int → Int} (hg : mo_geo k) (h1 : 0 ≤ k 67) (h2 : 0 ≤ k 68) {n : Nat} (hn : (n : Int) ≤ k 69) : mo_ss k n ≤ k 67 * k 68 := by
  have hW : ((k 67).toNat : Int) = k 67 := Int.toNat_of_nonneg h1
  have hZ : ((k 68).toNat : Int) = k 68 := Int.toNat_of_nonneg h2
  rw [← mo_ar hg hW hZ n hn]
  have h3 : mo_sm (fun y => mo_sm (fun x => mo_cc k (x : Int) (y : Int) n) (k 67).toNat) (k 68).toNat ≤ mo_sm (fun _ => k 67) (k 68).toNat := by
    apply mo_sm_le
    intro y _
    have h4 : mo_sm (fun x => mo_cc k (x : Int) (y : Int) n) (k 67).toNat ≤ mo_sm (fun _ => 1) (k 67).toNat := mo_sm_le (fun x _ => (mo_cc_le hg x y n hn).1)
    rw [mo_sm_c, Int.mul_one, hW] at h4
    exact h4
  rw [mo_sm_c, hZ, Int.mul_comm] at h3
  exact h3
theorem mo_ss_0 {k : Int → Int} (n : Nat) : 0 ≤ mo_ss k n := by
  induction n with
  | zero => exact Int.le_refl _
  | succ n ih =>
    simp only [mo_ss]
    split
    · omega
    · have : 0 ≤ k (29 + (n : Int)) * k (29 + (n : Int)) := by
        rcases Int.lt_or_le (k (29 + (n : Int))) 0 with h | h
        · exact Int.le_of_lt (Int.mul_pos_of_neg_of_neg h h)
        · exact Int.mul_nonneg h h
      omega
def mo_pa (k : Int → Int) (x y : Int) : Nat → Bool
  | 0 => false
  | n + 1 => (mo_pa k x y n) ^^ decide (mo_co k (n : Int) x y)
theorem mo_pa_t {k : Int → Int} (hg : mo_geo k) (x y : Int) (n : Nat) (hn : (n : Int) ≤ k 69) : ((∃ c : Nat, c < n ∧ mo_co k (c : Int) x y) → mo_pa k x y n = true) ∧ ((¬ ∃ c : Nat, c < n ∧ mo_co k (c : Int) x y) → mo_pa k x y n = false) := by
  induction n with
  | zero => exact ⟨fun ⟨c, h, _⟩ => absurd h (by omega), fun _ => rfl⟩
  | succ n ih =>
    obtain ⟨h1, h2⟩ := ih (by omega)
    by_cases hc : mo_co k (n : Int) x y
    · have h4 : mo_pa k x y n = false := h2 (fun ⟨c, hc1, hc2⟩ => by
        have := mo_co1 hg (by omega) (by omega) (by omega) (by omega) hc2 hc
        omega)
      refine ⟨fun _ => ?_, fun q => absurd ⟨n, by omega, hc⟩ q⟩
      simp only [mo_pa, h4, decide_eq_true hc, Bool.false_xor]
    · have e : mo_pa k x y (n + 1) = mo_pa k x y n := by simp only [mo_pa, decide_eq_false hc, Bool.xor_false]
      rw [e]
      refine ⟨fun ⟨c, c1, c2⟩ => h1 ⟨c, ?_, c2⟩, fun q => h2 (fun ⟨c, c1, c2⟩ => q ⟨c, by omega, c2⟩)⟩
      have : c ≠ n := fun e => hc (e ▸ c2)
      omega
/-- the masks of the reference's rows -/
def mo_mk (s x : Int32) : Int32 := (((1 : Int32) <<< (s &&& 31)) - 1) <<< (x &&& 31)
theorem mo_mk0 : ∀ n, n < 13 → ∀ m, m < 12 → ∀ j, j < 12 → (mo_mk (nI n) (nI m)).toBitVec.getLsbD j = decide (m ≤ j ∧ j < m + n) := by decide +kernel
theorem mo_nI {x : Int32} {N : Nat} (h0 : 0 ≤ x.toInt) (h1 : x.toInt < (N : Int)) : ∃ n : Nat, n < N ∧ x = nI n ∧ x.toInt = (n : Int) := by
  refine ⟨x.toInt.toNat, by omega, ?_, by omega⟩
  apply Int32.toInt_inj.mp
  have := ti_hi x
  rw [nI_toInt (by omega)]
  omega
theorem mo_mk_bit {s x : Int32} (hs0 : 0 ≤ s.toInt) (hs : s.toInt ≤ 12) (hx0 : 0 ≤ x.toInt) (hx : x.toInt ≤ 11) {j : Nat} (hj : j < 12) (h1 : x.toInt ≤ (j : Int)) (h2 : (j : Int) < x.toInt + s.toInt) : (mo_mk s x).toBitVec.getLsbD j = true := by
  obtain ⟨n, n1, n2, n3⟩ := mo_nI (N := 13) hs0 (by omega)
  obtain ⟨m, m1, m2, m3⟩ := mo_nI (N := 12) hx0 (by omega)
  rw [n2, m2, mo_mk0 n n1 m m1 j hj]
  exact decide_eq_true ⟨by omega, by omega⟩
theorem mo_mk_bit0 {s x : Int32} (hs0 : 0 ≤ s.toInt) (hs : s.toInt ≤ 12) (hx0 : 0 ≤ x.toInt) (hx : x.toInt ≤ 11) {j : Nat} (hj : j < 12) : (mo_mk s x).toBitVec.getLsbD j = decide (x.toInt ≤ (j : Int) ∧ (j : Int) < x.toInt + s.toInt) := by
  obtain ⟨n, n1, n2, n3⟩ := mo_nI (N := 13) hs0 (by omega)
  obtain ⟨m, m1, m2, m3⟩ := mo_nI (N := 12) hx0 (by omega)
  rw [n3, m3, n2, m2, mo_mk0 n n1 m m1 j hj]
  apply decide_eq_decide.mpr
  omega
def mo_bt (x : Int32) (k : Int) : Prop := x.toBitVec.getLsbD k.toNat = true
theorem mo_sh0 : ∀ n, n < 12 → ((nI n) &&& 31) = nI n := by decide +kernel
theorem mo_bt_of {x k y z : Int32} (hk0 : 0 ≤ k.toInt) (hk : k.toInt ≤ 11) (ey : y = x >>> (k &&& 31)) (ez : z = y &&& 1) (h : z.toInt = 1) : mo_bt x k.toInt := by
  obtain ⟨n, n1, n2, n3⟩ := mo_nI (N := 12) hk0 (by omega)
  have h1 : z = 1 := Int32.toInt_inj.mp h
  have h2 := congrArg (fun v : Int32 => v.toBitVec.getLsbD 0) (ez.symm.trans h1)
  simp only [Int32.toBitVec_and, BitVec.getLsbD_and] at h2
  have h3 : (1 : Int32).toBitVec.getLsbD 0 = true := by decide
  rw [h3, Bool.and_true] at h2
  unfold mo_bt
  rw [n3]
  show x.toBitVec.getLsbD n = true
  rw [ey, n2, mo_sh0 n n1, Int32.toBitVec_shiftRight] at h2
  have h4 : (nI n).toBitVec.smod 32 = BitVec.ofNat 32 n := by
    have : ∀ n, n < 12 → (nI n).toBitVec.smod 32 = BitVec.ofNat 32 n := by decide +kernel
    exact this n n1
  rw [h4, BitVec.sshiftRight_eq', BitVec.toNat_ofNat, Nat.mod_eq_of_lt (by omega), BitVec.getLsbD_sshiftRight] at h2
  simpa [show ¬ 32 ≤ 0 by omega, show n < 32 by omega] using h2
def mo_pc (x : Int32) : Nat := (x.toBitVec.getLsbD 0).toNat + (x.toBitVec.getLsbD 1).toNat + (x.toBitVec.getLsbD 2).toNat + (x.toBitVec.getLsbD 3).toNat + (x.toBitVec.getLsbD 4).toNat + (x.toBitVec.getLsbD 5).toNat + (x.toBitVec.getLsbD 6).toNat + (x.toBitVec.getLsbD 7).toNat + (x.toBitVec.getLsbD 8).toNat
theorem mo_tn (b : Bool) : b.toNat ≤ 1 := by cases b <;> decide
theorem mo_pc9 (x : Int32) : mo_pc x ≤ 9 := by
  unfold mo_pc
  have h0 := mo_tn (x.toBitVec.getLsbD 0)
  have h1 := mo_tn (x.toBitVec.getLsbD 1)
  have h2 := mo_tn (x.toBitVec.getLsbD 2)
  have h3 := mo_tn (x.toBitVec.getLsbD 3)
  have h4 := mo_tn (x.toBitVec.getLsbD 4)
  have h5 := mo_tn (x.toBitVec.getLsbD 5)
  have h6 := mo_tn (x.toBitVec.getLsbD 6)
  have h7 := mo_tn (x.toBitVec.getLsbD 7)
  have h8 := mo_tn (x.toBitVec.getLsbD 8)
  omega
theorem mo_nb : ∀ n, n < 9 → ∀ j, j < 9 → (((1 : Int32) <<< (nI n &&& 31)) ^^^ (-1)).toBitVec.getLsbD j = decide (j ≠ n) := by decide +kernel
theorem mo_pc_drop {x c z1 z2 z3 : Int32} (h0 : 0 ≤ c.toInt) (h1 : c.toInt ≤ 8) (hb : mo_bt x c.toInt) (e1 : z1 = 1 <<< (c &&& 31)) (e2 : z2 = z1 ^^^ (-1)) (e3 : z3 = x &&& z2) : mo_pc z3 + 1 = mo_pc x := by
  obtain ⟨n, n1, n2, n3⟩ := mo_nI (N := 9) h0 (by omega)
  unfold mo_bt at hb
  rw [n3] at hb
  have hb : x.toBitVec.getLsbD n = true := hb
  have ez : ∀ j, j < 9 → z3.toBitVec.getLsbD j = (x.toBitVec.getLsbD j && decide (j ≠ n)) := by
    intro j hj
    rw [e3, Int32.toBitVec_and, BitVec.getLsbD_and, e2, e1, n2, mo_nb n n1 j hj]
  unfold mo_pc
  rw [ez 0 (by decide), ez 1 (by decide), ez 2 (by decide), ez 3 (by decide), ez 4 (by decide), ez 5 (by decide), ez 6 (by decide), ez 7 (by decide), ez 8 (by decide)]
  suffices key : ∀ b : Nat → Bool, b n = true → (b 0 && decide (0 ≠ n)).toNat + (b 1 && decide (1 ≠ n)).toNat + (b 2 && decide (2 ≠ n)).toNat + (b 3 && decide (3 ≠ n)).toNat + (b 4 && decide (4 ≠ n)).toNat + (b 5 && decide (5 ≠ n)).toNat + (b 6 && decide (6 ≠ n)).toNat + (b 7 && decide (7 ≠ n)).toNat + (b 8 && decide (8 ≠ n)).toNat + 1 = (b 0).toNat + (b 1).toNat + (b 2).toNat + (b 3).toNat + (b 4).toNat + (b 5).toNat + (b 6).toNat + (b 7).toNat + (b 8).toNat from key (fun j => x.toBitVec.getLsbD j) hb
  clear ez e1 e2 e3 n2 n3 h0 h1 hb
  intro b hb
  have hn : n = 0 ∨ n = 1 ∨ n = 2 ∨ n = 3 ∨ n = 4 ∨ n = 5 ∨ n = 6 ∨ n = 7 ∨ n = 8 := by omega
  rcases hn with rfl | rfl | rfl | rfl | rfl | rfl | rfl | rfl | rfl <;> simp [hb] <;> omega
/-- carpet c would lie at x, y within the hall, and apart from all that are laid -/
def mo_fr (k : Int → Int) (c x y : Int) : Prop := x + k (29 + c) ≤ k 67 ∧ y + k (29 + c) ≤ k 68 ∧ ∀ d, 0 ≤ d → d < k 69 → k (9 + d) ≠ -1 → x + k (29 + c) ≤ k (9 + d) ∨ k (9 + d) + k (29 + d) ≤ x ∨ y + k (29 + c) ≤ k (18 + d) ∨ k (18 + d) + k (29 + d) ≤ y
/-- the reference's covered rows are those of the laid carpets -/
def mo_cv (k : Int → Int) (cv : Int → Int32) : Prop := ∀ (y : Int), 0 ≤ y → y < 12 → ∀ x : Nat, x < 12 → (cv y).toBitVec.getLsbD x = mo_pa k (x : Int) y (k 69).toNat
theorem mo_fr_of {k : Int → Int} {cv : Int → Int32} {c : Int} {s x : Int32} {y : Int} (hg : mo_geo k) (h67 : k 67 ≤ 12) (h68 : k 68 ≤ 12) (hm : 0 ≤ k 69) (hc : mo_cv k cv) (hs : s.toInt = k (29 + c)) (hs1 : 1 ≤ k (29 + c)) (hx0 : 0 ≤ x.toInt) (hx : x.toInt ≤ 11) (hy0 : 0 ≤ y) (f1 : x.toInt + s.toInt ≤ k 67) (f2 : y + s.toInt ≤ k 68) (hz : ∀ z, y ≤ z → z < y + s.toInt → cv z &&& mo_mk s x = 0) : mo_fr k c x.toInt y := by
  refine ⟨by omega, by omega, fun d hd0 hd hl => ?_⟩
  apply Classical.byContradiction
  intro hn
  obtain ⟨g1, g2, g3, g4, g5⟩ := hg.2.1 d hd0 hd hl
  have hX : ∃ X : Int, x.toInt ≤ X ∧ X < x.toInt + s.toInt ∧ k (9 + d) ≤ X ∧ X < k (9 + d) + k (29 + d) := by
    rcases Int.lt_or_le x.toInt (k (9 + d)) with q | q
    · exact ⟨k (9 + d), by omega, by omega, by omega, by omega⟩
    · exact ⟨x.toInt, by omega, by omega, by omega, by omega⟩
  have hY : ∃ Y : Int, y ≤ Y ∧ Y < y + s.toInt ∧ k (18 + d) ≤ Y ∧ Y < k (18 + d) + k (29 + d) := by
    rcases Int.lt_or_le y (k (18 + d)) with q | q
    · exact ⟨k (18 + d), by omega, by omega, by omega, by omega⟩
    · exact ⟨y, by omega, by omega, by omega, by omega⟩
  obtain ⟨X, X1, X2, X3, X4⟩ := hX
  obtain ⟨Y, Y1, Y2, Y3, Y4⟩ := hY
  have eX : ((X.toNat : Nat) : Int) = X := Int.toNat_of_nonneg (by omega)
  have hb := congrArg (fun v : Int32 => v.toBitVec.getLsbD X.toNat) (hz Y Y1 Y2)
  simp only [Int32.toBitVec_and, BitVec.getLsbD_and] at hb
  have hp : mo_pa k ((X.toNat : Nat) : Int) Y (k 69).toNat = true := (mo_pa_t hg _ _ _ (by omega)).1 ⟨d.toNat, by omega, by
    have ed : ((d.toNat : Nat) : Int) = d := Int.toNat_of_nonneg hd0
    rw [eX, ed]
    exact ⟨hl, X3, X4, Y3, Y4⟩⟩
  rw [hc Y (by omega) (by omega) X.toNat (by omega), hp, mo_mk_bit (by omega) (by omega) hx0 hx (by omega) (by omega) (by omega)] at hb
  have h0 : (0 : Int32).toBitVec = 0#32 := rfl
  rw [h0] at hb
  simp at hb
end MO2
end
section
section MO3
variable {cv : Int → Int} {R : Int → Int → Prop} {op : Int → Prop}
def mo_ch (cv : Int → Int) (R : Int → Int → Prop) (op : Int → Prop) : Nat → Int → Int → Prop
  | 0, i, j => R i j ∧ ¬ op (cv j)
  | n + 1, i, j => ∃ m, R i m ∧ op (cv m) ∧ mo_ch cv R op n (m + 1) j
def mo_chain (cv : Int → Int) (R : Int → Int → Prop) (op : Int → Prop) (i j : Int) : Prop := ∃ n, mo_ch cv R op n i j
/-- what is left of a chain behind a link that ends at m -/
def mo_rest (cv : Int → Int) (R : Int → Int → Prop) (op : Int → Prop) (m j : Int) : Prop := (m = j ∧ ¬ op (cv m)) ∨ (op (cv m) ∧ mo_chain cv R op (m + 1) j)
/-- from i to m so many links have been read -/
def mo_pre (cv : Int → Int) (R : Int → Int → Prop) (op : Int → Prop) (i m : Int) : Prop := ∀ j, mo_rest cv R op m j → mo_chain cv R op i j
theorem mo_chain_open {i j : Int} (h : mo_chain cv R op i j) : ∃ m, R i m ∧ mo_rest cv R op m j := by
  obtain ⟨n, h⟩ := h
  cases n with
  | zero => exact ⟨j, h.1, Or.inl ⟨rfl, h.2⟩⟩
  | succ n =>
    obtain ⟨m, h1, h2, h3⟩ := h
    exact ⟨m, h1, Or.inr ⟨h2, n, h3⟩⟩
theorem mo_chain_link {i m j : Int} (h : R i m) (hr : mo_rest cv R op m j) : mo_chain cv R op i j := by
  rcases hr with ⟨e, h2⟩ | ⟨h2, n, h3⟩
  · subst e
    exact ⟨0, h, h2⟩
  · exact ⟨n + 1, m, h, h2, h3⟩
theorem mo_rest_op {m j : Int} (h : mo_rest cv R op m j) (ho : op (cv m)) : ∃ m', R (m + 1) m' ∧ mo_rest cv R op m' j := by
  rcases h with ⟨-, h⟩ | ⟨-, h⟩
  · exact absurd ho h
  · exact mo_chain_open h
theorem mo_rest_end {m j : Int} (h : mo_rest cv R op m j) (ho : ¬ op (cv m)) : m = j := by
  rcases h with ⟨h, -⟩ | ⟨h, -⟩
  · exact h
  · exact absurd h ho
theorem mo_pre_0 {i m : Int} (h : R i m) : mo_pre cv R op i m := fun _ hr => mo_chain_link h hr
theorem mo_pre_s {i m m' : Int} (h : mo_pre cv R op i m) (ho : op (cv m)) (h2 : R (m + 1) m') : mo_pre cv R op i m' := fun _ hr => h _ (Or.inr ⟨ho, mo_chain_link h2 hr⟩)
theorem mo_pre_e {i m : Int} (h : mo_pre cv R op i m) (ho : ¬ op (cv m)) : mo_chain cv R op i m := h m (Or.inl ⟨rfl, ho⟩)
theorem mo_ch_lt (hR : ∀ i j, R i j → i < j) (n : Nat) : ∀ i j, mo_ch cv R op n i j → i < j := by
  induction n with
  | zero => exact fun i j h => hR i j h.1
  | succ n ih =>
    intro i j h
    obtain ⟨m, h1, -, h3⟩ := h
    have := hR i m h1
    have := ih (m + 1) j h3
    omega
theorem mo_chain_lt (hR : ∀ i j, R i j → i < j) {i j : Int} (h : mo_chain cv R op i j) : i < j := by
  obtain ⟨n, h⟩ := h
  exact mo_ch_lt hR n i j h
theorem mo_rest_le (hR : ∀ i j, R i j → i < j) {m j : Int} (h : mo_rest cv R op m j) : m ≤ j := by
  rcases h with ⟨h, -⟩ | ⟨-, h⟩
  · omega
  · have := mo_chain_lt hR h
    omega
def mo_mul (c : Int) : Prop := c = 142 ∨ c = 147 ∨ c = 137
def mo_add (c : Int) : Prop := c = 143 ∨ c = 145
def mo_is (w : Int) (c : Int) : Prop := c = w
def mo_leaf (o : Int) (cv : Int → Int) (i j : Int) : Prop := (cv i = 50 ∨ (o = 0 ∧ 8 ≤ cv i ∧ cv i ≤ 15) ∨ (o = 1 ∧ 14 ≤ cv i ∧ cv i ≤ 20)) ∧ ((o = 1 ∧ (cv i = 14 ∨ cv i = 20) ∧ cv (i + 1) = 50 ∧ j = i + 2) ∨ (¬ (o = 1 ∧ (cv i = 14 ∨ cv i = 20)) ∧ j = i + 1))
def mo_part (o : Int) (cv : Int → Int) : Nat → Int → Int → Prop
  | 0, i, j => mo_leaf o cv i j
  | d + 1, i, j => mo_leaf o cv i j ∨ (cv i = 191 ∧ ∃ j', mo_chain cv (mo_chain cv (mo_part o cv d) mo_mul) mo_add (i + 1) j' ∧ cv j' = 193 ∧ j = j' + 1)
def mo_term (o : Int) (cv : Int → Int) (d : Nat) : Int → Int → Prop := mo_chain cv (mo_part o cv d) mo_mul
def mo_sum (o : Int) (cv : Int → Int) (d : Nat) : Int → Int → Prop := mo_chain cv (mo_term o cv d) mo_add
theorem mo_part_b {o : Int} {d : Nat} {i j : Int} (h : cv i = 191) (h2 : mo_sum o cv d (i + 1) j) (h3 : cv j = 193) : mo_part o cv (d + 1) i (j + 1) := Or.inr ⟨h, j, h2, h3, rfl⟩
theorem mo_part_l {o : Int} {d : Nat} {i j : Int} (h : mo_leaf o cv i j) : mo_part o cv d i j := by
  cases d with
  | zero => exact h
  | succ d => exact Or.inl h
/-- a part begins with a bracket, or is a leaf -/
theorem mo_part_o {o : Int} {d : Nat} {i j : Int} (h : mo_part o cv d i j) : (cv i ≠ 191 ∧ mo_leaf o cv i j) ∨ (cv i = 191 ∧ ∃ d' j', d = d' + 1 ∧ mo_sum o cv d' (i + 1) j' ∧ cv j' = 193 ∧ j = j' + 1) := by
  have hl : mo_leaf o cv i j → cv i ≠ 191 := fun h => by
    have := h.1
    omega
  cases d with
  | zero => exact Or.inl ⟨hl h, h⟩
  | succ d =>
    rcases h with h | ⟨h1, j', h2, h3, h4⟩
    · exact Or.inl ⟨hl h, h⟩
    · exact Or.inr ⟨h1, d, j', rfl, h2, h3, h4⟩
theorem mo_leaf_lt {o i j : Int} (h : mo_leaf o cv i j) : i < j := by
  have := h.2
  omega
theorem mo_part_lt (o : Int) (cv : Int → Int) (d : Nat) : ∀ i j, mo_part o cv d i j → i < j := by
  induction d with
  | zero => exact fun i j h => mo_leaf_lt h
  | succ d ih =>
    intro i j h
    rcases h with h | ⟨-, j', h2, -, h4⟩
    · exact mo_leaf_lt h
    · have := mo_chain_lt (fun i j h => mo_chain_lt ih h) h2
      omega
theorem mo_term_lt (o : Int) (cv : Int → Int) (d : Nat) : ∀ i j, mo_term o cv d i j → i < j := fun _ _ h => mo_chain_lt (mo_part_lt o cv d) h
theorem mo_sum_lt (o : Int) (cv : Int → Int) (d : Nat) : ∀ i j, mo_sum o cv d i j → i < j := fun _ _ h => mo_chain_lt (mo_term_lt o cv d) h
def mo_cmp (o : Int) (cv : Int → Int) (d : Nat) (i j : Int) : Prop := ∃ m, mo_sum o cv d i m ∧ (cv m = 160 ∨ cv m = 162 ∨ cv m = 161) ∧ mo_sum o cv d (m + 1) j
def mo_nots (cv : Int → Int) (R : Int → Int → Prop) (i j : Int) : Prop := ∃ n : Nat, (∀ q : Nat, q < n → cv (i + q) = 7) ∧ cv (i + n) ≠ 7 ∧ R (i + n) j
def mo_pos (o : Int) (cv : Int → Int) : Nat → Int → Int → Prop
  | 0, i, j => mo_cmp o cv 0 i j
  | d + 1, i, j => mo_cmp o cv (d + 1) i j ∨ (cv i = 140 ∧ ∃ j', mo_chain cv (mo_chain cv (mo_nots cv (mo_pos o cv d)) (mo_is 6)) (mo_is 5) (i + 1) j' ∧ cv j' = 141 ∧ j = j' + 1)
def mo_plain (o : Int) (cv : Int → Int) (d : Nat) : Int → Int → Prop := mo_nots cv (mo_pos o cv d)
def mo_both (o : Int) (cv : Int → Int) (d : Nat) : Int → Int → Prop := mo_chain cv (mo_plain o cv d) (mo_is 6)
def mo_test (o : Int) (cv : Int → Int) (d : Nat) : Int → Int → Prop := mo_chain cv (mo_both o cv d) (mo_is 5)
theorem mo_cmp_lt (o : Int) (cv : Int → Int) (d : Nat) : ∀ i j, mo_cmp o cv d i j → i < j := by
  intro i j h
  obtain ⟨m, h1, -, h2⟩ := h
  have := mo_sum_lt o cv d _ _ h1
  have := mo_sum_lt o cv d _ _ h2
  omega
theorem mo_nots_lt {R : Int → Int → Prop} (hR : ∀ i j, R i j → i < j) : ∀ i j, mo_nots cv R i j → i < j := by
  intro i j h
  obtain ⟨n, -, -, h⟩ := h
  have := hR _ _ h
  omega
theorem mo_pos_lt (o : Int) (cv : Int → Int) (d : Nat) : ∀ i j, mo_pos o cv d i j → i < j := by
  induction d with
  | zero => exact fun i j h => mo_cmp_lt o cv 0 i j h
  | succ d ih =>
    intro i j h
    rcases h with h | ⟨-, j', h2, -, h4⟩
    · exact mo_cmp_lt o cv _ i j h
    · have := mo_chain_lt (fun i j h => mo_chain_lt (fun i j h => mo_nots_lt ih i j h) h) h2
      omega
theorem mo_plain_lt (o : Int) (cv : Int → Int) (d : Nat) : ∀ i j, mo_plain o cv d i j → i < j := mo_nots_lt (mo_pos_lt o cv d)
theorem mo_both_lt (o : Int) (cv : Int → Int) (d : Nat) : ∀ i j, mo_both o cv d i j → i < j := fun _ _ h => mo_chain_lt (mo_plain_lt o cv d) h
theorem mo_test_lt (o : Int) (cv : Int → Int) (d : Nat) : ∀ i j, mo_test o cv d i j → i < j := fun _ _ h => mo_chain_lt (mo_both_lt o cv d) h
/-- a sum begins with a bracket, a number or a word -/
theorem mo_sum_b {o : Int} {d : Nat} {i j : Int} (h : mo_sum o cv d i j) : cv i ≠ 140 ∧ cv i ≠ 7 ∧ cv i ≠ 0 := by
  obtain ⟨m, h1, -⟩ := mo_chain_open h
  obtain ⟨m2, h2, -⟩ := mo_chain_open h1
  rcases mo_part_o h2 with ⟨-, h3⟩ | ⟨h3, -⟩
  · have := h3.1
    omega
  · omega
theorem mo_pos_o {o : Int} {d : Nat} {i j : Int} (h : mo_pos o cv d i j) : (cv i ≠ 140 ∧ mo_cmp o cv d i j) ∨ (cv i = 140 ∧ ∃ d' j', d = d' + 1 ∧ mo_test o cv d' (i + 1) j' ∧ cv j' = 141 ∧ j = j' + 1) := by
  have hl : mo_cmp o cv d i j → cv i ≠ 140 := fun h => by
    obtain ⟨m, h1, -⟩ := h
    exact (mo_sum_b h1).1
  cases d with
  | zero => exact Or.inl ⟨hl h, h⟩
  | succ d =>
    rcases h with h | ⟨h1, j', h2, h3, h4⟩
    · exact Or.inl ⟨hl h, h⟩
    · exact Or.inr ⟨h1, d, j', rfl, h2, h3, h4⟩
theorem mo_pos_b {o : Int} {d : Nat} {i j : Int} (h : cv i = 140) (h2 : mo_test o cv d (i + 1) j) (h3 : cv j = 141) : mo_pos o cv (d + 1) i (j + 1) := Or.inr ⟨h, j, h2, h3, rfl⟩
theorem mo_pos_c {o : Int} {d : Nat} {i j : Int} (h : mo_cmp o cv d i j) : mo_pos o cv d i j := by
  cases d with
  | zero => exact h
  | succ d => exact Or.inl h
theorem mo_nots_s {R : Int → Int → Prop} {i j : Int} (h : mo_nots cv R i j) (h7 : cv i = 7) : mo_nots cv R (i + 1) j := by
  obtain ⟨n, h1, h2, h3⟩ := h
  cases n with
  | zero => exact absurd (by simpa using h7) h2
  | succ n =>
    refine ⟨n, fun q hq => ?_, ?_, ?_⟩
    · have := h1 (q + 1) (by omega)
      rw [← this]
      congr 1
      omega
    · have e : i + 1 + (n : Int) = i + ((n + 1 : Nat) : Int) := by omega
      rw [e]
      exact h2
    · have e : i + 1 + (n : Int) = i + ((n + 1 : Nat) : Int) := by omega
      rw [e]
      exact h3
theorem mo_nots_e {R : Int → Int → Prop} {i j : Int} (h : mo_nots cv R i j) (h7 : cv i ≠ 7) : R i j := by
  obtain ⟨n, h1, h2, h3⟩ := h
  cases n with
  | zero => simpa using h3
  | succ n => exact absurd (by simpa using h1 0 (by omega)) h7
theorem mo_nots_c {R : Int → Int → Prop} {i j : Int} (h7 : cv i = 7) (h : mo_nots cv R (i + 1) j) : mo_nots cv R i j := by
  obtain ⟨n, h1, h2, h3⟩ := h
  have e : i + 1 + (n : Int) = i + ((n + 1 : Nat) : Int) := by omega
  refine ⟨n + 1, fun q hq => ?_, by rw [← e]; exact h2, by rw [← e]; exact h3⟩
  cases q with
  | zero => simpa using h7
  | succ q =>
    have := h1 q (by omega)
    rw [← this]
    congr 1
    omega
theorem mo_nots_0 {R : Int → Int → Prop} {i j : Int} (h7 : cv i ≠ 7) (h : R i j) : mo_nots cv R i j := ⟨0, fun q hq => absurd hq (by omega), by simpa using h7, by simpa using h⟩
/-- so many nots have been read -/
def mo_npre (cv : Int → Int) (R : Int → Int → Prop) (i m : Int) : Prop := ∀ j, mo_nots cv R m j → mo_nots cv R i j
theorem mo_npre_0 {R : Int → Int → Prop} {i : Int} : mo_npre cv R i i := fun _ h => h
theorem mo_npre_s {R : Int → Int → Prop} {i m : Int} (h : mo_npre cv R i m) (h7 : cv m = 7) : mo_npre cv R i (m + 1) := fun j hj => h j (mo_nots_c h7 hj)
def mo_if (o : Int) (cv : Int → Int) (m j : Int) : Prop := (cv m = 4 ∧ mo_test o cv 8 (m + 1) j) ∨ (cv m ≠ 4 ∧ j = m)
def mo_cla (cv : Int → Int) (i j : Int) : Prop := ((cv i = 1 ∨ cv i = 2) ∧ ∃ m, mo_sum 0 cv 8 (i + 1) m ∧ mo_if 0 cv m j) ∨ (cv i = 3 ∧ mo_if 0 cv (i + 1) j)
def mo_ordh (cv : Int → Int) (i m : Int) : Prop := (cv i = 21 ∧ ∃ p q, mo_sum 1 cv 8 (i + 1) p ∧ cv p = 22 ∧ mo_sum 1 cv 8 (p + 1) q ∧ cv q = 23 ∧ mo_sum 1 cv 8 (q + 1) m) ∨ (cv i = 24 ∧ mo_sum 1 cv 8 (i + 1) m) ∨ ((cv i = 25 ∨ cv i = 26) ∧ m = i + 1)
def mo_tim (cv : Int → Int) (m m2 : Int) : Prop := (cv m = 27 ∧ cv (m + 1) = 50 ∧ m2 = m + 2) ∨ (cv m ≠ 27 ∧ m2 = m)
def mo_ord (cv : Int → Int) (i j : Int) : Prop := ∃ m, mo_ordh cv i m ∧ ∃ m2, mo_tim cv m m2 ∧ mo_if 1 cv m2 j
def mo_clause (o : Int) (cv : Int → Int) (i j : Int) : Prop := (o = 0 ∧ mo_cla cv i j) ∨ (o = 1 ∧ mo_ord cv i j)
def mo_text (o : Int) (cv : Int → Int) (n : Int) : Prop := mo_chain cv (mo_clause o cv) (mo_is 159) 0 n
theorem mo_if_le {o m j : Int} (h : mo_if o cv m j) : m ≤ j := by
  rcases h with ⟨-, h⟩ | ⟨-, h⟩
  · have := mo_test_lt o cv 8 _ _ h
    omega
  · omega
theorem mo_clause_lt (o : Int) (cv : Int → Int) : ∀ i j, mo_clause o cv i j → i < j := by
  intro i j h
  rcases h with ⟨-, h⟩ | ⟨-, m, h, m2, h2, h3⟩
  · rcases h with ⟨-, m, h1, h2⟩ | ⟨-, h2⟩
    · have := mo_sum_lt 0 cv 8 _ _ h1
      have := mo_if_le h2
      omega
    · have := mo_if_le h2
      omega
  · have a3 := mo_if_le h3
    have a2 : m ≤ m2 := by
      rcases h2 with ⟨-, -, h2⟩ | ⟨-, h2⟩ <;> omega
    rcases h with ⟨-, p, q, h4, -, h5, -, h6⟩ | ⟨-, h⟩ | ⟨-, h⟩
    · have := mo_sum_lt 1 cv 8 _ _ h4
      have := mo_sum_lt 1 cv 8 _ _ h5
      have := mo_sum_lt 1 cv 8 _ _ h6
      omega
    · have := mo_sum_lt 1 cv 8 _ _ h
      omega
    · omega
/-- a text in the row k, of size n from the place b on -/
def mo_tf (k : Int → Int) (b n : Int) : Int → Int := fun i => if 0 ≤ i ∧ i < n then k (b + i) else 0
def mo_lw (k : Int → Int) : Prop := k 72 < k 71 ∧ k 71 ≤ 6 ∧ ∀ t, 0 ≤ t → t < k 71 → k (73 + t) ≤ 400 ∧ mo_text 0 (mo_tf k (80 + 400 * t) (k (73 + t))) (k (73 + t))
def mo_kg (k : Int → Int) : Prop := mo_lw k ∧ mo_geo k ∧ 1 ≤ k 67 ∧ 1 ≤ k 68 ∧ ∀ c, 0 ≤ c → c < k 69 → 1 ≤ k (29 + c)
def mo_mx (k l : Int → Int) (r : Int) : Int → Int := fun i => if i < 29 then l (30 * r + i) else k i
def mo_ok (k im has l : Int → Int) (u : Int) : Prop := mo_kg k ∧ (∀ q, 0 ≤ q → q ≤ 1 → has q = 1 → mo_kg (fun i => im (5680 * q + i))) ∧ ∀ r, 0 ≤ r → r < u → mo_geo (mo_mx k l r)
theorem mo_lw_ext {k k' : Int → Int} (h : ∀ i, 71 ≤ i → i < 2880 → k' i = k i) (hk : mo_lw k) : mo_lw k' := by
  obtain ⟨h1, h2, h3⟩ := hk
  unfold mo_lw
  rw [h 71 (by omega) (by omega), h 72 (by omega) (by omega)]
  refine ⟨h1, h2, fun t t0 t1 => ?_⟩
  obtain ⟨h4, h5⟩ := h3 t t0 t1
  rw [h (73 + t) (by omega) (by omega)]
  refine ⟨h4, ?_⟩
  have e : mo_tf k' (80 + 400 * t) (k (73 + t)) = mo_tf k (80 + 400 * t) (k (73 + t)) := by
    funext i
    unfold mo_tf
    by_cases q : 0 ≤ i ∧ i < k (73 + t)
    · rw [if_pos q, if_pos q]
      exact h _ (by omega) (by omega)
    · rw [if_neg q, if_neg q]
  rw [e]
  exact h5
theorem mo_geo_ext {k k' : Int → Int} (h : ∀ i, 0 ≤ i → i < 80 → k' i = k i) (hk : mo_geo k) : mo_geo k' := by
  obtain ⟨h1, h2, h3⟩ := hk
  have e69 := h 69 (by omega) (by omega)
  have e67 := h 67 (by omega) (by omega)
  have e68 := h 68 (by omega) (by omega)
  refine ⟨by omega, fun c c0 c1 => ?_, fun c d c0 c1 d0 d1 => ?_⟩
  · rw [h (9 + c) (by omega) (by omega), h (29 + c) (by omega) (by omega), h (18 + c) (by omega) (by omega), e67, e68]
    exact h2 c c0 (by omega)
  · unfold mo_ap
    rw [h (9 + c) (by omega) (by omega), h (29 + c) (by omega) (by omega), h (18 + c) (by omega) (by omega), h (9 + d) (by omega) (by omega), h (29 + d) (by omega) (by omega), h (18 + d) (by omega) (by omega)]
    exact h3 c d c0 (by omega) d0 (by omega)
theorem mo_kg_ext {k k' : Int → Int} (h : ∀ i, 0 ≤ i → i < 5680 → k' i = k i) (hk : mo_kg k) : mo_kg k' := by
  obtain ⟨h1, h2, h3, h4, h5⟩ := hk
  have e69 := h 69 (by omega) (by omega)
  have m9 := h2.1
  refine ⟨mo_lw_ext (fun i a b => h i (by omega) (by omega)) h1, mo_geo_ext (fun i a b => h i a (by omega)) h2, by rw [h 67 (by omega) (by omega)]; exact h3, by rw [h 68 (by omega) (by omega)]; exact h4, fun c c0 c1 => ?_⟩
  rw [h (29 + c) (by omega) (by omega)]
  exact h5 c c0 (by omega)
end MO3
section MO4
variable {G : th_G} {Γ : th_Ga} {H H1 : Heap} {L : List (Nat × Nat)} {a : Nat}
/-- the class's relations, and the laws' texts of the reference -/
def th_RE (a : Nat) (G : th_G) (Γ : th_Ga) (H : Heap) : Prop := th_RC G Γ H ∧ mo_lw (mo_v G H a 2)
/-- and all that it keeps -/
def th_RK (a : Nat) (G : th_G) (Γ : th_Ga) (H : Heap) : Prop := th_RC G Γ H ∧ mo_kg (mo_v G H a 2)
/-- and its images and what can be undone -/
def th_RN (a : Nat) (G : th_G) (Γ : th_Ga) (H : Heap) : Prop := th_RC G Γ H ∧ mo_ok (mo_v G H a 2) (mo_v G H a 3) (mo_v G H a 4) (mo_v G H a 31) (mo_f G H a 33)
theorem th_KE (h : th_RK a G Γ H) : th_RE a G Γ H := ⟨h.1, h.2.1⟩
theorem th_NK (h : th_RN a G Γ H) : th_RK a G Γ H := ⟨h.1, h.2.1⟩
theorem th_NE (h : th_RN a G Γ H) : th_RE a G Γ H := ⟨h.1, h.2.1.1⟩
theorem th_RE_c (h1 : th_RC G Γ H1) (h : th_RE a G Γ H) (hI : th_I G Γ H1) (ha : Γ a = (46, 0)) (hF : th_F G Γ L H H1) (hL : th_in L 46 2 = false ∧ th_in L 48 0 = false) : th_RE a G Γ H1 := ⟨h1, by rw [mo_v_F (r := 48) hI hF ha rfl ro_48 hL.1 hL.2]; exact h.2⟩
theorem th_RK_c (h1 : th_RC G Γ H1) (h : th_RK a G Γ H) (hI : th_I G Γ H1) (ha : Γ a = (46, 0)) (hF : th_F G Γ L H H1) (hL : th_in L 46 2 = false ∧ th_in L 48 0 = false) : th_RK a G Γ H1 := ⟨h1, by rw [mo_v_F (r := 48) hI hF ha rfl ro_48 hL.1 hL.2]; exact h.2⟩
theorem th_RN_c (h1 : th_RC G Γ H1) (h : th_RN a G Γ H) (hI : th_I G Γ H1) (ha : Γ a = (46, 0)) (hF : th_F G Γ L H H1) (hL : (th_in L 46 2 = false ∧ th_in L 48 0 = false) ∧ (th_in L 46 3 = false ∧ th_in L 49 0 = false) ∧ (th_in L 46 4 = false ∧ th_in L 50 0 = false) ∧ (th_in L 46 31 = false ∧ th_in L 61 0 = false) ∧ th_in L 46 33 = false) : th_RN a G Γ H1 := by
  refine ⟨h1, ?_⟩
  rw [mo_v_F (r := 48) hI hF ha rfl ro_48 hL.1.1 hL.1.2, mo_v_F (r := 49) hI hF ha rfl ro_49 hL.2.1.1 hL.2.1.2, mo_v_F (r := 50) hI hF ha rfl ro_50 hL.2.2.1.1 hL.2.2.1.2, mo_v_F (r := 61) hI hF ha rfl ro_61 hL.2.2.2.1.1 hL.2.2.2.1.2, mo_f_F hF ha (by decide) hL.2.2.2.2]
  exact h.2
theorem th_RE_F (hI : th_I G Γ H1) (h : th_RE a G Γ H) (ha : Γ a = (46, 0)) (hF : th_F G Γ L H H1) (hT : th_T Γ H H1) (hL : L.all (fun q => !th_RCs.contains q) = true ∧ th_in L 46 2 = false ∧ th_in L 48 0 = false) : th_RE a G Γ H1 := th_RE_c (th_RC_F hI h.1 hF hT hL.1) h hI ha hF hL.2
theorem th_RK_F (hI : th_I G Γ H1) (h : th_RK a G Γ H) (ha : Γ a = (46, 0)) (hF : th_F G Γ L H H1) (hT : th_T Γ H H1) (hL : L.all (fun q => !th_RCs.contains q) = true ∧ th_in L 46 2 = false ∧ th_in L 48 0 = false) : th_RK a G Γ H1 := th_RK_c (th_RC_F hI h.1 hF hT hL.1) h hI ha hF hL.2
theorem th_RN_F (hI : th_I G Γ H1) (h : th_RN a G Γ H) (ha : Γ a = (46, 0)) (hF : th_F G Γ L H H1) (hT : th_T Γ H H1) (hL : L.all (fun q => !th_RCs.contains q) = true ∧ (th_in L 46 2 = false ∧ th_in L 48 0 = false) ∧ (th_in L 46 3 = false ∧ th_in L 49 0 = false) ∧ (th_in L 46 4 = false ∧ th_in L 50 0 = false) ∧ (th_in L 46 31 = false ∧ th_in L 61 0 = false) ∧ th_in L 46 33 = false) : th_RN a G Γ H1 := th_RN_c (th_RC_F hI h.1 hF hT hL.1) h hI ha hF hL.2
/-- a store into kept ahead of SIDE leaves the laws' texts as they are -/
theorem th_RE_st {b : Nat} {v : Int32} {z : Int} (hI : th_I G Γ H1) (h : th_RE a G Γ H) (ha : Γ a = (46, 0)) (hb : Γ b = (48, a)) (mb : th_sl H a (G.1.1.2 12 2) = .ref b) (hF : th_F G Γ [(48, 0)] H H1) (hst : th_St H H1 b z.toNat (.int v)) (h0 : 0 ≤ z) (h1 : z < 71) : th_RE a G Γ H1 := by
  refine ⟨th_RC_F hI h.1 hF (th_T_s hb ro_48 hst) (by decide), ?_⟩
  rw [mo_v_st ha hb (by decide) mb hst h0]
  exact mo_lw_ext (fun i i0 i1 => mo_un (by omega)) h.2
/-- a view of the reference's text, from the place B of its codes on -/
def mo_ce (G : th_G) (H : Heap) (a : Nat) (B : Int) : Int → Int := mo_tf (mo_v G H a 2) (80 + B) (mo_f G H a 23 - B)
theorem mo_ce_F (hI : th_I G Γ H1) (hF : th_F G Γ L H H1) (ha : Γ a = (46, 0)) (hL : th_in L 46 2 = false ∧ th_in L 48 0 = false ∧ th_in L 46 23 = false) (B : Int) : mo_ce G H1 a B = mo_ce G H a B := by
  unfold mo_ce
  rw [mo_v_F (r := 48) hI hF ha rfl ro_48 hL.1 hL.2.1, mo_f_F hF ha (by decide) hL.2.2]
/-- the tokens that are read -/
def mo_cr (G : th_G) (H : Heap) (a : Nat) : Int → Int := mo_tf (mo_v G H a 15) 0 (mo_f G H a 18)
theorem mo_cr_F (hI : th_I G Γ H1) (hF : th_F G Γ L H H1) (ha : Γ a = (46, 0)) (hL : th_in L 46 15 = false ∧ th_in L 55 0 = false ∧ th_in L 46 18 = false) : mo_cr G H1 a = mo_cr G H a := by
  unfold mo_cr
  rw [mo_v_F (r := 55) hI hF ha rfl ro_55 hL.1 hL.2.1, mo_f_F hF ha (by decide) hL.2.2]
theorem mo_ss_l {k : Int → Int} {c : Int} (h0 : 0 ≤ c) (hl : k (9 + c) ≠ -1) : mo_ss k (c + 1).toNat = mo_ss k c.toNat + k (29 + c) * k (29 + c) := by
  have e : (c + 1).toNat = c.toNat + 1 := by omega
  rw [e]
  show mo_ss k c.toNat + (if k (9 + (c.toNat : Int)) = -1 then 0 else k (29 + (c.toNat : Int)) * k (29 + (c.toNat : Int))) = _
  rw [Int.toNat_of_nonneg h0, if_neg hl]
theorem mo_ss_n {k : Int → Int} {c : Int} (h0 : 0 ≤ c) (hl : k (9 + c) = -1) : mo_ss k (c + 1).toNat = mo_ss k c.toNat := by
  have e : (c + 1).toNat = c.toNat + 1 := by omega
  rw [e]
  show mo_ss k c.toNat + (if k (9 + (c.toNat : Int)) = -1 then 0 else k (29 + (c.toNat : Int)) * k (29 + (c.toNat : Int))) = _
  rw [Int.toNat_of_nonneg h0, if_pos hl, Int.add_zero]
theorem ek_side0 {b : Int} (h0 : 29 ≤ b) (h1 : b ≤ 37) : th_esk b.toNat = (0, 0, 12) := by
  unfold th_esk th_any; (repeat' split) <;> first | rfl | omega
theorem mo_side (hI : th_I G Γ H) (ha : Γ a = (46, 0)) {c : Int} (h0 : 0 ≤ c) (h1 : c ≤ 8) : 0 ≤ mo_v G H a 2 (29 + c) ∧ mo_v G H a 2 (29 + c) ≤ 12 := mo_v_rg hI ha (r := 48) rfl ro_48 (by omega) (by omega) (ek_side0 (by omega) (by omega))
theorem ek_many0 {b : Int} (h0 : 69 ≤ b) (h1 : b ≤ 69) : th_esk b.toNat = (0, 0, 9) := by
  unfold th_esk th_any; (repeat' split) <;> first | rfl | omega
theorem ek_hall0 {b : Int} (h0 : 67 ≤ b) (h1 : b ≤ 68) : th_esk b.toNat = (0, 0, 12) := by
  unfold th_esk th_any; (repeat' split) <;> first | rfl | omega
theorem mo_many (hI : th_I G Γ H) (ha : Γ a = (46, 0)) : 0 ≤ mo_v G H a 2 69 ∧ mo_v G H a 2 69 ≤ 9 := mo_v_rg hI ha (r := 48) rfl ro_48 (by omega) (by decide) (ek_many0 (by omega) (by omega))
theorem mo_wide (hI : th_I G Γ H) (ha : Γ a = (46, 0)) : 0 ≤ mo_v G H a 2 67 ∧ mo_v G H a 2 67 ≤ 12 := mo_v_rg hI ha (r := 48) rfl ro_48 (by omega) (by decide) (ek_hall0 (by omega) (by omega))
theorem mo_high (hI : th_I G Γ H) (ha : Γ a = (46, 0)) : 0 ≤ mo_v G H a 2 68 ∧ mo_v G H a 2 68 ≤ 12 := mo_v_rg hI ha (r := 48) rfl ro_48 (by omega) (by decide) (ek_hall0 (by omega) (by omega))
theorem mo_ss_b (hI : th_I G Γ H) (ha : Γ a = (46, 0)) {n : Nat} (hn : n ≤ 9) : mo_ss (mo_v G H a 2) n ≤ 144 * (n : Int) := by
  induction n with
  | zero => exact Int.le_refl _
  | succ n ih =>
    have h1 := ih (by omega)
    have h2 := mo_side hI ha (c := (n : Int)) (by omega) (by omega)
    have h3 := ti_mulr (A := 12) (B := 12) h2.1 h2.2 h2.1 h2.2
    simp only [mo_ss]
    split <;> omega
end MO4
end
