set_option maxHeartbeats 4000000 in
set_option maxRecDepth 100000 in
theorem c_X12_readClause (l : Launch) (G : th_G) (Γ : th_Ga) (H0 : Heap) (hI : th_I G Γ H0) (hR : th_RC G Γ H0) (hU : dv_U Γ) (a0 : Nat) (h0 : Γ a0 = (46, 0)) (cv : Int → Int) (t : Int) (k1 : mo_rd G H0 a0 cv) (k2 : mo_f G H0 a0 19 = t ∧ 0 ≤ t ∧ t ≤ mo_f G H0 a0 18) (k3 : mo_wd G H0 a0 0) : Met l yX12_readClause (.code yX12_readClause cX12_readClause 1 (none) :: th_tb) ({ frames := 71, cells := 0, slots := 0, locals := 2165 } : Room) (th_P [.ref a0] G H0) (th_Q (fun (v : Option Value) (H1 : Heap) => v = none ∧ th_I G Γ H1 ∧ th_F G Γ [(46, 19), (46, 20), (46, 21)] H0 H1 ∧ th_RC G Γ H1 ∧ (t ≤ mo_f G H1 a0 19 ∧ mo_f G H1 a0 19 ≤ mo_f G H0 a0 18) ∧ (mo_f G H1 a0 21 = -1 → mo_f G H0 a0 21 = -1 ∧ mo_cla cv t (mo_f G H1 a0 19)) ∧ (f_X12_readClause (dv G Γ H0) (a0 : Int) = (dv G Γ H1, 0))) G) 0 0 (fun q => G.2.2 ≤ q) := by
  refine th_met RX12 (by decide) rfl (Nat.le_of_ble_eq_true rfl) ?_
  intro p e s m below meth c hC hH hr hlocks hnm ls hl
  have hx := hC.1
  have hb := hC.2.1
  have hB : th_B G Γ Γ [(46, 19), (46, 20), (46, 21)] H0 H0 [] := ⟨hI, va_S.rf, th_F_rf⟩
  have hl : lv_has ls 1 [(0, .ref a0)] := hl
  obtain ⟨F, hF0⟩ : ∃ F, F = f_X12_readClause (dv G Γ H0) ((a0 : Int)) := ⟨_, rfl⟩
  have hF := hF0.trans (f_X12_readClause.eq_1 (dv G Γ H0) ((a0 : Int)))
  refine lv_aload_n hx hb dX12_readClause_0 rfl (lv_at hl 0 rfl) ?_
  refine lv_iconst (v := 1) hx hb dX12_readClause_1 (by decide) ?_
  refine th_call (th_runV (As := [.int 1]) (rest := []) hC mf_X12_takes0 km_X12_199 im_X12_takes0 se_X12_takes0 (c_X12_takes0 l G Γ H0 hB.1 hR hU a0 h0 1 (by decide) cv t k1 ⟨by omega, by omega, by omega⟩) rfl rfl ⟨Nat.le_of_ble_eq_true rfl, Nat.le_of_ble_eq_true rfl⟩ hB.1 h0 ro_46 rfl rfl hl.1 rfl (Nat.le_of_ble_eq_true rfl) dX12_readClause_2 ⟨Nat.le_refl _, Nat.le_refl _⟩) hB.2.1 (fun v2 H2 locs hp hz hS => ?_)
  obtain ⟨x1, rfl, lx1, ux1, hI1, hf, hR, z2_0, z2_1, z2_2, z2_3⟩ := hp
  have hB := th_B_c hB hI1 hS hf (by decide)
  have fv_H2_18 : mo_f G H2 a0 18 = mo_f G H0 a0 18 := mo_f_F hf h0 (by decide) (by decide)
  have fv_H2_21 : mo_f G H2 a0 21 = mo_f G H0 a0 21 := mo_f_F hf h0 (by decide) (by decide)
  have wd_H2 := mo_wd_F hB.2.2 h0 (by decide) k3
  have cr_H2 : mo_rd G H2 a0 cv := mo_rd_F hB.1 hB.2.2 h0 (by decide) k1
  have zf2 := z2_3
  rw [tk_1] at zf2
  replace hF := hF.trans (dv_bn2 (zf2))
  refine W.eq (g2 := F0 m 5 ls [.int x1]) rfl ?_
  have tk1 := tk_1
  have jn29 : ∀ (H29 : Heap) (locs : List Loc) (ls : Array Slot) , th_B G Γ Γ [(46, 19), (46, 20), (46, 21)] H0 H29 locs → th_RC G Γ H29 → lv_has ls 1 [(0, .ref a0)] → F = f_X12_readClause_29 (dv G Γ H29) ((a0 : Int)) → (t ≤ mo_f G H29 a0 19 ∧ mo_f G H29 a0 19 ≤ mo_f G H0 a0 18) → (mo_f G H29 a0 21 = -1 → mo_f G H0 a0 21 = -1 ∧ mo_clh cv t (mo_f G H29 a0 19)) → W p l e ({ frames := 71, cells := 0, slots := 0, locals := 2165 } : Room) s m ([.ref a0] : List Value).toArray below meth c H29 locs 0 0 (MQ below (th_Q (fun (v : Option Value) (H1 : Heap) => v = none ∧ th_I G Γ H1 ∧ th_F G Γ [(46, 19), (46, 20), (46, 21)] H0 H1 ∧ th_RC G Γ H1 ∧ (t ≤ mo_f G H1 a0 19 ∧ mo_f G H1 a0 19 ≤ mo_f G H0 a0 18) ∧ (mo_f G H1 a0 21 = -1 → mo_f G H0 a0 21 = -1 ∧ mo_cla cv t (mo_f G H1 a0 19)) ∧ (f_X12_readClause (dv G Γ H0) (a0 : Int) = (dv G Γ H1, 0))) G) ([.ref a0] : List Value).toArray s 0 0 (fun q => G.2.2 ≤ q)) (F0 m 29 ls []) := by
    intro H29 locs ls hB hR hl hF g29_0 g29_1
    have wd_H29 := mo_wd_F hB.2.2 h0 (by decide) k3
    have cr_H29 : mo_rd G H29 a0 cv := mo_rd_F hB.1 hB.2.2 h0 (by decide) k1
    have fv2_18 : mo_f G H29 a0 18 = mo_f G H0 a0 18 := mo_f_F hB.2.2 h0 (by decide) (by decide)
    replace hF := hF.trans (f_X12_readClause_29.eq_1 (dv G Γ H29) ((a0 : Int)))
    refine lv_aload_n hx hb dX12_readClause_29 rfl (lv_at hl 0 rfl) ?_
    have b29 := g29_0
    have e29 := g29_1
    refine lv_iconst (v := 4) hx hb dX12_readClause_30 (by decide) ?_
    refine th_call (th_runV (As := [.int 4]) (rest := []) hC mf_X12_takes0 km_X12_199 im_X12_takes0 se_X12_takes0 (c_X12_takes0 l G Γ H29 hB.1 hR hU a0 h0 4 (by decide) cv (mo_f G H29 a0 19) cr_H29 ⟨by omega, by omega, by omega⟩) rfl rfl ⟨Nat.le_of_ble_eq_true rfl, Nat.le_of_ble_eq_true rfl⟩ hB.1 h0 ro_46 rfl rfl hl.1 rfl (Nat.le_of_ble_eq_true rfl) dX12_readClause_31 ⟨Nat.le_refl _, Nat.le_refl _⟩) hB.2.1 (fun v31 H31 locs hp hz hS => ?_)
    obtain ⟨x3, rfl, lx3, ux3, hI1, hf, hR, z31_0, z31_1, z31_2, z31_3⟩ := hp
    have hB := th_B_c hB hI1 hS hf (by decide)
    have fv_H31_18 : mo_f G H31 a0 18 = mo_f G H29 a0 18 := mo_f_F hf h0 (by decide) (by decide)
    have fv_H31_21 : mo_f G H31 a0 21 = mo_f G H29 a0 21 := mo_f_F hf h0 (by decide) (by decide)
    have wd_H31 := mo_wd_F hB.2.2 h0 (by decide) k3
    have cr_H31 : mo_rd G H31 a0 cv := mo_rd_F hB.1 hB.2.2 h0 (by decide) k1
    have zf31 := z31_3
    rw [tk_4] at zf31
    replace hF := hF.trans (dv_bn2 (zf31))
    refine W.eq (g2 := F0 m 34 ls [.int x3]) rfl ?_
    have tk4 := tk_4
    refine tr_if_eq (tgt := 42) hx hb dX12_readClause_34 (by decide) (Eq.refl _) (fun c34 => ?_) (fun c34 => ?_)
    · specialize z31_1 (by omega); clear z31_0
      replace hF := hF.trans (if_pos c34)
      exact th_vret hC hH hr hlocks hB.2.1 ⟨rfl, hB.1, hB.2.2, hR, ⟨by omega, by omega⟩, fun h9 => by obtain ⟨q6, q7⟩ := e29 (by omega); obtain ⟨q3, q4⟩ := z31_1; exact ⟨q6, mo_cla_h q7 (mo_if_n (q4 (by omega)) q3)⟩, (hF0.symm.trans hF)⟩ dX12_readClause_42
    · specialize z31_0 (by omega); clear z31_1
      replace hF := hF.trans (if_neg c34)
      refine lv_aload_n hx hb dX12_readClause_37 rfl (lv_at hl 0 rfl) ?_
      refine lv_iconst (v := 0) hx hb dX12_readClause_38 (by decide) ?_
      refine th_call (th_runV (As := [.int 0]) (rest := []) hC mf_X12_readTest km_X12_214 im_X12_readTest se_X12_readTest (c_X12_readTest_d 8 l G Γ H31 hB.1 hR hU a0 h0 0 (by decide) (by decide) 0 cv (mo_f G H31 a0 19) cr_H31 ⟨by omega, by omega, by omega⟩ wd_H31 (by have w0 := tk_0; omega)) rfl rfl ⟨Nat.le_of_ble_eq_true rfl, Nat.le_of_ble_eq_true rfl⟩ hB.1 h0 ro_46 rfl rfl hl.1 rfl (Nat.le_of_ble_eq_true rfl) dX12_readClause_39 ⟨Nat.le_refl _, Nat.le_refl _⟩) hB.2.1 (fun v39 H39 locs hp hz hS => ?_)
      obtain ⟨rfl, hI1, hf, hR, z39_0, z39_1, z39_2⟩ := hp
      have hB := th_B_c hB hI1 hS hf (by decide)
      have fv_H39_18 : mo_f G H39 a0 18 = mo_f G H31 a0 18 := mo_f_F hf h0 (by decide) (by decide)
      have wd_H39 := mo_wd_F hB.2.2 h0 (by decide) k3
      have cr_H39 : mo_rd G H39 a0 cv := mo_rd_F hB.1 hB.2.2 h0 (by decide) k1
      have zf39 := z39_2
      rw [tk_0] at zf39
      replace hF := hF.trans (dv_bn2 (zf39))
      refine W.eq (g2 := F0 m 42 ls []) rfl ?_
      have tk0 := tk_0
      exact th_vret hC hH hr hlocks hB.2.1 ⟨rfl, hB.1, hB.2.2, hR, ⟨by omega, by omega⟩, fun h9 => by obtain ⟨q1, q2⟩ := z39_1 h9; obtain ⟨q3, q4, q5⟩ := z31_0; obtain ⟨q6, q7⟩ := e29 (by omega); exact ⟨q6, mo_cla_h q7 (mo_if_y q4 q5 q2)⟩, (hF0.symm.trans hF)⟩ dX12_readClause_42
  have jn16 : ∀ (H16 : Heap) (locs : List Loc) (ls : Array Slot) , th_B G Γ Γ [(46, 19), (46, 20), (46, 21)] H0 H16 locs → th_RC G Γ H16 → lv_has ls 1 [(0, .ref a0)] → F = f_X12_readClause_16 (dv G Γ H16) ((a0 : Int)) → (mo_f G H16 a0 19 = t + 1 ∧ t + 1 ≤ mo_f G H0 a0 18) → (mo_f G H16 a0 21 = -1 ∧ mo_f G H0 a0 21 = -1 ∧ (cv t = 1 ∨ cv t = 2)) → W p l e ({ frames := 71, cells := 0, slots := 0, locals := 2165 } : Room) s m ([.ref a0] : List Value).toArray below meth c H16 locs 0 0 (MQ below (th_Q (fun (v : Option Value) (H1 : Heap) => v = none ∧ th_I G Γ H1 ∧ th_F G Γ [(46, 19), (46, 20), (46, 21)] H0 H1 ∧ th_RC G Γ H1 ∧ (t ≤ mo_f G H1 a0 19 ∧ mo_f G H1 a0 19 ≤ mo_f G H0 a0 18) ∧ (mo_f G H1 a0 21 = -1 → mo_f G H0 a0 21 = -1 ∧ mo_cla cv t (mo_f G H1 a0 19)) ∧ (f_X12_readClause (dv G Γ H0) (a0 : Int) = (dv G Γ H1, 0))) G) ([.ref a0] : List Value).toArray s 0 0 (fun q => G.2.2 ≤ q)) (F0 m 16 ls []) := by
    intro H16 locs ls hB hR hl hF g16_0 g16_1
    have wd_H16 := mo_wd_F hB.2.2 h0 (by decide) k3
    have cr_H16 : mo_rd G H16 a0 cv := mo_rd_F hB.1 hB.2.2 h0 (by decide) k1
    have fv4_18 : mo_f G H16 a0 18 = mo_f G H0 a0 18 := mo_f_F hB.2.2 h0 (by decide) (by decide)
    replace hF := hF.trans (f_X12_readClause_16.eq_1 (dv G Γ H16) ((a0 : Int)))
    refine lv_aload_n hx hb dX12_readClause_16 rfl (lv_at hl 0 rfl) ?_
    refine lv_iconst (v := 0) hx hb dX12_readClause_17 (by decide) ?_
    refine th_call (th_runV (As := [.int 0]) (rest := []) hC mf_X12_readSum km_X12_208 im_X12_readSum se_X12_readSum (c_X12_readSum_d 8 l G Γ H16 hB.1 hR hU a0 h0 0 (by decide) (by decide) 0 cv (mo_f G H16 a0 19) cr_H16 ⟨by omega, by omega, by omega⟩ wd_H16 (by have w0 := tk_0; omega)) rfl rfl ⟨Nat.le_of_ble_eq_true rfl, Nat.le_of_ble_eq_true rfl⟩ hB.1 h0 ro_46 rfl rfl hl.1 rfl (Nat.le_of_ble_eq_true rfl) dX12_readClause_18 ⟨Nat.le_refl _, Nat.le_refl _⟩) hB.2.1 (fun v18 H18 locs hp hz hS => ?_)
    obtain ⟨rfl, hI1, hf, hR, z18_0, z18_1, z18_2⟩ := hp
    have hB := th_B_c hB hI1 hS hf (by decide)
    have fv_H18_18 : mo_f G H18 a0 18 = mo_f G H16 a0 18 := mo_f_F hf h0 (by decide) (by decide)
    have wd_H18 := mo_wd_F hB.2.2 h0 (by decide) k3
    have cr_H18 : mo_rd G H18 a0 cv := mo_rd_F hB.1 hB.2.2 h0 (by decide) k1
    have zf18 := z18_2
    rw [tk_0] at zf18
    replace hF := hF.trans (dv_bn2 (zf18))
    refine W.eq (g2 := F0 m 21 ls []) rfl ?_
    have tk0 := tk_0
    refine lv_goto (tgt := 29) hx hb dX12_readClause_21 (by decide) ?_
    exact jn29 H18 locs ls hB hR (lv_sub hl [0] rfl) hF ⟨by omega, by omega⟩ (fun h9 => by obtain ⟨q1, q2⟩ := z18_1 h9; obtain ⟨q3, q4, q5⟩ := g16_1; exact ⟨q4, Or.inl ⟨q5, by rw [show mo_f G H16 a0 19 = t + 1 by omega] at q2; exact q2⟩⟩)
  refine tr_if_ne (tgt := 16) hx hb dX12_readClause_5 (by decide) (Eq.refl _) (fun c5 => ?_) (fun c5 => ?_)
  · specialize z2_0 (by omega); clear z2_1
    replace hF := hF.trans (if_pos c5)
    exact jn16 H2 locs ls hB hR (lv_sub hl [0] rfl) hF (by omega) ⟨by omega, by omega, by omega⟩
  · specialize z2_1 (by omega); clear z2_0
    replace hF := hF.trans (if_neg (not_not_intro c5))
    refine lv_aload_n hx hb dX12_readClause_8 rfl (lv_at hl 0 rfl) ?_
    refine lv_iconst (v := 2) hx hb dX12_readClause_9 (by decide) ?_
    refine th_call (th_runV (As := [.int 2]) (rest := []) hC mf_X12_takes0 km_X12_199 im_X12_takes0 se_X12_takes0 (c_X12_takes0 l G Γ H2 hB.1 hR hU a0 h0 2 (by decide) cv t cr_H2 ⟨by omega, by omega, by omega⟩) rfl rfl ⟨Nat.le_of_ble_eq_true rfl, Nat.le_of_ble_eq_true rfl⟩ hB.1 h0 ro_46 rfl rfl hl.1 rfl (Nat.le_of_ble_eq_true rfl) dX12_readClause_10 ⟨Nat.le_refl _, Nat.le_refl _⟩) hB.2.1 (fun v10 H10 locs hp hz hS => ?_)
    obtain ⟨x5, rfl, lx5, ux5, hI1, hf, hR, z10_0, z10_1, z10_2, z10_3⟩ := hp
    have hB := th_B_c hB hI1 hS hf (by decide)
    have fv_H10_18 : mo_f G H10 a0 18 = mo_f G H2 a0 18 := mo_f_F hf h0 (by decide) (by decide)
    have fv_H10_21 : mo_f G H10 a0 21 = mo_f G H2 a0 21 := mo_f_F hf h0 (by decide) (by decide)
    have wd_H10 := mo_wd_F hB.2.2 h0 (by decide) k3
    have cr_H10 : mo_rd G H10 a0 cv := mo_rd_F hB.1 hB.2.2 h0 (by decide) k1
    have zf10 := z10_3
    rw [tk_2] at zf10
    replace hF := hF.trans (dv_bn2 (zf10))
    refine W.eq (g2 := F0 m 13 ls [.int x5]) rfl ?_
    have tk2 := tk_2
    refine tr_if_eq (tgt := 24) hx hb dX12_readClause_13 (by decide) (Eq.refl _) (fun c13 => ?_) (fun c13 => ?_)
    · specialize z10_1 (by omega); clear z10_0
      replace hF := hF.trans (if_pos c13)
      refine lv_aload_n hx hb dX12_readClause_24 rfl (lv_at hl 0 rfl) ?_
      refine lv_iconst (v := 3) hx hb dX12_readClause_25 (by decide) ?_
      refine th_call (th_runV (As := [.int 3]) (rest := []) hC mf_X12_must km_X12_211 im_X12_must se_X12_must (c_X12_must l G Γ H10 hB.1 hR hU a0 h0 3 (by decide) cv (mo_f G H10 a0 19) cr_H10 ⟨by omega, by omega, by omega⟩) rfl rfl ⟨Nat.le_of_ble_eq_true rfl, Nat.le_of_ble_eq_true rfl⟩ hB.1 h0 ro_46 rfl rfl hl.1 rfl (Nat.le_of_ble_eq_true rfl) dX12_readClause_26 ⟨Nat.le_refl _, Nat.le_refl _⟩) hB.2.1 (fun v26 H26 locs hp hz hS => ?_)
      obtain ⟨rfl, hI1, hf, hR, z26_0, z26_1, z26_2⟩ := hp
      have hB := th_B_c hB hI1 hS hf (by decide)
      have fv_H26_18 : mo_f G H26 a0 18 = mo_f G H10 a0 18 := mo_f_F hf h0 (by decide) (by decide)
      have wd_H26 := mo_wd_F hB.2.2 h0 (by decide) k3
      have cr_H26 : mo_rd G H26 a0 cv := mo_rd_F hB.1 hB.2.2 h0 (by decide) k1
      have zf26 := z26_2
      rw [tk_3] at zf26
      replace hF := hF.trans (dv_bn2 (zf26))
      refine W.eq (g2 := F0 m 29 ls []) rfl ?_
      have tk3 := tk_3
      exact jn29 H26 locs ls hB hR (lv_sub hl [0] rfl) hF ⟨by omega, by omega⟩ (fun h9 => by obtain ⟨q1, q2, q3⟩ := z26_1 h9; exact ⟨by omega, Or.inr ⟨by rw [show mo_f G H10 a0 19 = t by omega] at q2; omega, by omega⟩⟩)
    · specialize z10_0 (by omega); clear z10_1
      replace hF := hF.trans (if_neg c13)
      exact jn16 H10 locs ls hB hR (lv_sub hl [0] rfl) hF (by omega) ⟨by omega, by omega, by omega⟩

set_option maxHeartbeats 4000000 in
set_option maxRecDepth 100000 in
theorem c_X12_readMore (l : Launch) (G : th_G) (Γ : th_Ga) (H0 : Heap) (hI : th_I G Γ H0) (hR : th_RC G Γ H0) (hU : dv_U Γ) (a0 : Nat) (h0 : Γ a0 = (46, 0)) (p1 : Int32) (f1 : 1 ≤ p1.toInt) (o : Int) (cv : Int → Int) (t : Int) (k1 : mo_rd G H0 a0 cv) (k2 : mo_f G H0 a0 19 = t ∧ 0 ≤ t ∧ t ≤ mo_f G H0 a0 18) (k3 : mo_wd G H0 a0 o) : Met l yX12_readMore (.code yX12_readMore cX12_readMore 2 (none) :: th_tb) ({ frames := 39, cells := 0, slots := 0, locals := 1104 } : Room) (th_P [.ref a0, .int p1] G H0) (th_Q (fun (v : Option Value) (H1 : Heap) => v = none ∧ th_I G Γ H1 ∧ th_F G Γ [(46, 19), (46, 20), (46, 21)] H0 H1 ∧ th_RC G Γ H1 ∧ (t ≤ mo_f G H1 a0 19 ∧ mo_f G H1 a0 19 ≤ mo_f G H0 a0 18) ∧ (mo_f G H1 a0 21 = -1 → mo_f G H0 a0 21 = -1 ∧ cv t = p1.toInt ∧ mo_sum o cv 8 (t + 1) (mo_f G H1 a0 19)) ∧ (f_X12_readMore (dv G Γ H0) (a0 : Int) p1.toInt = (dv G Γ H1, 0))) G) 0 0 (fun q => G.2.2 ≤ q) := by
  refine th_met RX12 (by decide) rfl (Nat.le_of_ble_eq_true rfl) ?_
  intro p e s m below meth c hC hH hr hlocks hnm ls hl
  have hx := hC.1
  have hb := hC.2.1
  have hB : th_B G Γ Γ [(46, 19), (46, 20), (46, 21)] H0 H0 [] := ⟨hI, va_S.rf, th_F_rf⟩
  have hl : lv_has ls 2 [(0, .ref a0), (1, .int p1)] := hl
  have lp1 := ti_lo p1; have up1 := ti_hi p1
  obtain ⟨F, hF0⟩ : ∃ F, F = f_X12_readMore (dv G Γ H0) ((a0 : Int)) (p1.toInt) := ⟨_, rfl⟩
  have hF := hF0.trans (f_X12_readMore.eq_1 (dv G Γ H0) ((a0 : Int)) (p1.toInt))
  refine lv_aload_n hx hb dX12_readMore_0 rfl (lv_at hl 0 rfl) ?_
  refine lv_iload_n hx hb dX12_readMore_1 rfl (lv_at hl 1 rfl) ?_
  refine th_call (th_runV (As := [.int p1]) (rest := []) hC mf_X12_must km_X12_211 im_X12_must se_X12_must (c_X12_must l G Γ H0 hB.1 hR hU a0 h0 p1 (by omega) cv t k1 ⟨by omega, by omega, by omega⟩) rfl rfl ⟨Nat.le_of_ble_eq_true rfl, Nat.le_of_ble_eq_true rfl⟩ hB.1 h0 ro_46 rfl rfl hl.1 rfl (Nat.le_of_ble_eq_true rfl) dX12_readMore_2 ⟨Nat.le_refl _, Nat.le_refl _⟩) hB.2.1 (fun v2 H2 locs hp hz hS => ?_)
  obtain ⟨rfl, hI1, hf, hR, z2_0, z2_1, z2_2⟩ := hp
  have hB := th_B_c hB hI1 hS hf (by decide)
  have fv_H2_18 : mo_f G H2 a0 18 = mo_f G H0 a0 18 := mo_f_F hf h0 (by decide) (by decide)
  have wd_H2 := mo_wd_F hB.2.2 h0 (by decide) k3
  have cr_H2 : mo_rd G H2 a0 cv := mo_rd_F hB.1 hB.2.2 h0 (by decide) k1
  replace hF := hF.trans (dv_bn2 (z2_2))
  refine W.eq (g2 := F0 m 5 ls []) rfl ?_
  refine lv_aload_n hx hb dX12_readMore_5 rfl (lv_at hl 0 rfl) ?_
  refine lv_iconst (v := 0) hx hb dX12_readMore_6 (by decide) ?_
  refine th_call (th_runV (As := [.int 0]) (rest := []) hC mf_X12_readSum km_X12_208 im_X12_readSum se_X12_readSum (c_X12_readSum_d 8 l G Γ H2 hB.1 hR hU a0 h0 0 (by decide) (by decide) o cv (mo_f G H2 a0 19) cr_H2 ⟨by omega, by omega, by omega⟩ wd_H2 (by have w0 := tk_0; omega)) rfl rfl ⟨Nat.le_of_ble_eq_true rfl, Nat.le_of_ble_eq_true rfl⟩ hB.1 h0 ro_46 rfl rfl hl.1 rfl (Nat.le_of_ble_eq_true rfl) dX12_readMore_7 ⟨Nat.le_refl _, Nat.le_refl _⟩) hB.2.1 (fun v7 H7 locs hp hz hS => ?_)
  obtain ⟨rfl, hI1, hf, hR, z7_0, z7_1, z7_2⟩ := hp
  have hB := th_B_c hB hI1 hS hf (by decide)
  have fv_H7_18 : mo_f G H7 a0 18 = mo_f G H2 a0 18 := mo_f_F hf h0 (by decide) (by decide)
  have wd_H7 := mo_wd_F hB.2.2 h0 (by decide) k3
  have cr_H7 : mo_rd G H7 a0 cv := mo_rd_F hB.1 hB.2.2 h0 (by decide) k1
  have zf7 := z7_2
  rw [tk_0] at zf7
  replace hF := hF.trans (dv_bn2 (zf7))
  refine W.eq (g2 := F0 m 10 ls []) rfl ?_
  have tk0 := tk_0
  exact th_vret hC hH hr hlocks hB.2.1 ⟨rfl, hB.1, hB.2.2, hR, ⟨by omega, by omega⟩, fun h9 => by obtain ⟨q1, q2⟩ := z7_1 h9; obtain ⟨q3, q4, q5⟩ := z2_1 q1; exact ⟨q3, q4, by rw [q5] at q2; exact q2⟩, (hF0.symm.trans hF)⟩ dX12_readMore_10

set_option maxHeartbeats 4000000 in
set_option maxRecDepth 100000 in
theorem c_X12_readOrder (l : Launch) (G : th_G) (Γ : th_Ga) (H0 : Heap) (hI : th_I G Γ H0) (hR : th_RC G Γ H0) (hU : dv_U Γ) (a0 : Nat) (h0 : Γ a0 = (46, 0)) (cv : Int → Int) (t : Int) (k1 : mo_rd G H0 a0 cv) (k2 : mo_f G H0 a0 19 = t ∧ 0 ≤ t ∧ t ≤ mo_f G H0 a0 18) (k3 : mo_wd G H0 a0 1) : Met l yX12_readOrder (.code yX12_readOrder cX12_readOrder 1 (none) :: th_tb) ({ frames := 71, cells := 0, slots := 0, locals := 2165 } : Room) (th_P [.ref a0] G H0) (th_Q (fun (v : Option Value) (H1 : Heap) => v = none ∧ th_I G Γ H1 ∧ th_F G Γ [(46, 19), (46, 20), (46, 21)] H0 H1 ∧ th_RC G Γ H1 ∧ (t ≤ mo_f G H1 a0 19 ∧ mo_f G H1 a0 19 ≤ mo_f G H0 a0 18) ∧ (mo_f G H1 a0 21 = -1 → mo_f G H0 a0 21 = -1 ∧ mo_ord cv t (mo_f G H1 a0 19)) ∧ (f_X12_readOrder (dv G Γ H0) (a0 : Int) = (dv G Γ H1, 0))) G) 0 0 (fun q => G.2.2 ≤ q) := by
  refine th_met RX12 (by decide) rfl (Nat.le_of_ble_eq_true rfl) ?_
  intro p e s m below meth c hC hH hr hlocks hnm ls hl
  have hx := hC.1
  have hb := hC.2.1
  have hB : th_B G Γ Γ [(46, 19), (46, 20), (46, 21)] H0 H0 [] := ⟨hI, va_S.rf, th_F_rf⟩
  have hl : lv_has ls 1 [(0, .ref a0)] := hl
  obtain ⟨F, hF0⟩ : ∃ F, F = f_X12_readOrder (dv G Γ H0) ((a0 : Int)) := ⟨_, rfl⟩
  have hF := hF0.trans (f_X12_readOrder.eq_1 (dv G Γ H0) ((a0 : Int)))
  refine lv_aload_n hx hb dX12_readOrder_0 rfl (lv_at hl 0 rfl) ?_
  refine lv_bipush (v := 21) hx hb dX12_readOrder_1 (by decide) ?_
  refine th_call (th_runV (As := [.int 21]) (rest := []) hC mf_X12_takes0 km_X12_199 im_X12_takes0 se_X12_takes0 (c_X12_takes0 l G Γ H0 hB.1 hR hU a0 h0 21 (by decide) cv t k1 ⟨by omega, by omega, by omega⟩) rfl rfl ⟨Nat.le_of_ble_eq_true rfl, Nat.le_of_ble_eq_true rfl⟩ hB.1 h0 ro_46 rfl rfl hl.1 rfl (Nat.le_of_ble_eq_true rfl) dX12_readOrder_3 ⟨Nat.le_refl _, Nat.le_refl _⟩) hB.2.1 (fun v3 H3 locs hp hz hS => ?_)
  obtain ⟨x1, rfl, lx1, ux1, hI1, hf, hR, z3_0, z3_1, z3_2, z3_3⟩ := hp
  have hB := th_B_c hB hI1 hS hf (by decide)
  have fv_H3_18 : mo_f G H3 a0 18 = mo_f G H0 a0 18 := mo_f_F hf h0 (by decide) (by decide)
  have fv_H3_21 : mo_f G H3 a0 21 = mo_f G H0 a0 21 := mo_f_F hf h0 (by decide) (by decide)
  have wd_H3 := mo_wd_F hB.2.2 h0 (by decide) k3
  have cr_H3 : mo_rd G H3 a0 cv := mo_rd_F hB.1 hB.2.2 h0 (by decide) k1
  have zf3 := z3_3
  rw [tk_21] at zf3
  replace hF := hF.trans (dv_bn2 (zf3))
  refine W.eq (g2 := F0 m 6 ls [.int x1]) rfl ?_
  have tk21 := tk_21
  have jn61 : ∀ (H61 : Heap) (locs : List Loc) (ls : Array Slot) , th_B G Γ Γ [(46, 19), (46, 20), (46, 21)] H0 H61 locs → th_RC G Γ H61 → lv_has ls 1 [(0, .ref a0)] → F = f_X12_readOrder_61 (dv G Γ H61) ((a0 : Int)) → (t ≤ mo_f G H61 a0 19 ∧ mo_f G H61 a0 19 ≤ mo_f G H0 a0 18) → (mo_f G H61 a0 21 = -1 → mo_f G H0 a0 21 = -1 ∧ mo_ordh cv t (mo_f G H61 a0 19)) → W p l e ({ frames := 71, cells := 0, slots := 0, locals := 2165 } : Room) s m ([.ref a0] : List Value).toArray below meth c H61 locs 0 0 (MQ below (th_Q (fun (v : Option Value) (H1 : Heap) => v = none ∧ th_I G Γ H1 ∧ th_F G Γ [(46, 19), (46, 20), (46, 21)] H0 H1 ∧ th_RC G Γ H1 ∧ (t ≤ mo_f G H1 a0 19 ∧ mo_f G H1 a0 19 ≤ mo_f G H0 a0 18) ∧ (mo_f G H1 a0 21 = -1 → mo_f G H0 a0 21 = -1 ∧ mo_ord cv t (mo_f G H1 a0 19)) ∧ (f_X12_readOrder (dv G Γ H0) (a0 : Int) = (dv G Γ H1, 0))) G) ([.ref a0] : List Value).toArray s 0 0 (fun q => G.2.2 ≤ q)) (F0 m 61 ls []) := by
    intro H61 locs ls hB hR hl hF g61_0 g61_1
    have wd_H61 := mo_wd_F hB.2.2 h0 (by decide) k3
    have cr_H61 : mo_rd G H61 a0 cv := mo_rd_F hB.1 hB.2.2 h0 (by decide) k1
    have fv2_18 : mo_f G H61 a0 18 = mo_f G H0 a0 18 := mo_f_F hB.2.2 h0 (by decide) (by decide)
    replace hF := hF.trans (f_X12_readOrder_61.eq_1 (dv G Γ H61) ((a0 : Int)))
    refine lv_aload_n hx hb dX12_readOrder_61 rfl (lv_at hl 0 rfl) ?_
    have b61 := g61_0
    have e61 := g61_1
    refine lv_bipush (v := 27) hx hb dX12_readOrder_62 (by decide) ?_
    refine th_call (th_runV (As := [.int 27]) (rest := []) hC mf_X12_takes0 km_X12_199 im_X12_takes0 se_X12_takes0 (c_X12_takes0 l G Γ H61 hB.1 hR hU a0 h0 27 (by decide) cv (mo_f G H61 a0 19) cr_H61 ⟨by omega, by omega, by omega⟩) rfl rfl ⟨Nat.le_of_ble_eq_true rfl, Nat.le_of_ble_eq_true rfl⟩ hB.1 h0 ro_46 rfl rfl hl.1 rfl (Nat.le_of_ble_eq_true rfl) dX12_readOrder_64 ⟨Nat.le_refl _, Nat.le_refl _⟩) hB.2.1 (fun v64 H64 locs hp hz hS => ?_)
    obtain ⟨x3, rfl, lx3, ux3, hI1, hf, hR, z64_0, z64_1, z64_2, z64_3⟩ := hp
    have hB := th_B_c hB hI1 hS hf (by decide)
    have fv_H64_18 : mo_f G H64 a0 18 = mo_f G H61 a0 18 := mo_f_F hf h0 (by decide) (by decide)
    have fv_H64_21 : mo_f G H64 a0 21 = mo_f G H61 a0 21 := mo_f_F hf h0 (by decide) (by decide)
    have wd_H64 := mo_wd_F hB.2.2 h0 (by decide) k3
    have cr_H64 : mo_rd G H64 a0 cv := mo_rd_F hB.1 hB.2.2 h0 (by decide) k1
    have zf64 := z64_3
    rw [tk_27] at zf64
    replace hF := hF.trans (dv_bn2 (zf64))
    refine W.eq (g2 := F0 m 67 ls [.int x3]) rfl ?_
    have tk27 := tk_27
    have jn77 : ∀ (H77 : Heap) (locs : List Loc) (ls : Array Slot) , th_B G Γ Γ [(46, 19), (46, 20), (46, 21)] H0 H77 locs → th_RC G Γ H77 → lv_has ls 1 [(0, .ref a0)] → F = f_X12_readOrder_77 (dv G Γ H77) ((a0 : Int)) → (t ≤ mo_f G H77 a0 19 ∧ mo_f G H77 a0 19 ≤ mo_f G H0 a0 18) → (mo_f G H77 a0 21 = -1 → mo_f G H0 a0 21 = -1 ∧ ∃ m, mo_ordh cv t m ∧ mo_tim cv m (mo_f G H77 a0 19)) → W p l e ({ frames := 71, cells := 0, slots := 0, locals := 2165 } : Room) s m ([.ref a0] : List Value).toArray below meth c H77 locs 0 0 (MQ below (th_Q (fun (v : Option Value) (H1 : Heap) => v = none ∧ th_I G Γ H1 ∧ th_F G Γ [(46, 19), (46, 20), (46, 21)] H0 H1 ∧ th_RC G Γ H1 ∧ (t ≤ mo_f G H1 a0 19 ∧ mo_f G H1 a0 19 ≤ mo_f G H0 a0 18) ∧ (mo_f G H1 a0 21 = -1 → mo_f G H0 a0 21 = -1 ∧ mo_ord cv t (mo_f G H1 a0 19)) ∧ (f_X12_readOrder (dv G Γ H0) (a0 : Int) = (dv G Γ H1, 0))) G) ([.ref a0] : List Value).toArray s 0 0 (fun q => G.2.2 ≤ q)) (F0 m 77 ls []) := by
      intro H77 locs ls hB hR hl hF g77_0 g77_1
      have wd_H77 := mo_wd_F hB.2.2 h0 (by decide) k3
      have cr_H77 : mo_rd G H77 a0 cv := mo_rd_F hB.1 hB.2.2 h0 (by decide) k1
      have fv4_18 : mo_f G H77 a0 18 = mo_f G H0 a0 18 := mo_f_F hB.2.2 h0 (by decide) (by decide)
      replace hF := hF.trans (f_X12_readOrder_77.eq_1 (dv G Γ H77) ((a0 : Int)))
      refine lv_aload_n hx hb dX12_readOrder_77 rfl (lv_at hl 0 rfl) ?_
      have b77 := g77_0
      have e77 := g77_1
      refine lv_iconst (v := 4) hx hb dX12_readOrder_78 (by decide) ?_
      refine th_call (th_runV (As := [.int 4]) (rest := []) hC mf_X12_takes0 km_X12_199 im_X12_takes0 se_X12_takes0 (c_X12_takes0 l G Γ H77 hB.1 hR hU a0 h0 4 (by decide) cv (mo_f G H77 a0 19) cr_H77 ⟨by omega, by omega, by omega⟩) rfl rfl ⟨Nat.le_of_ble_eq_true rfl, Nat.le_of_ble_eq_true rfl⟩ hB.1 h0 ro_46 rfl rfl hl.1 rfl (Nat.le_of_ble_eq_true rfl) dX12_readOrder_79 ⟨Nat.le_refl _, Nat.le_refl _⟩) hB.2.1 (fun v79 H79 locs hp hz hS => ?_)
      obtain ⟨x5, rfl, lx5, ux5, hI1, hf, hR, z79_0, z79_1, z79_2, z79_3⟩ := hp
      have hB := th_B_c hB hI1 hS hf (by decide)
      have fv_H79_18 : mo_f G H79 a0 18 = mo_f G H77 a0 18 := mo_f_F hf h0 (by decide) (by decide)
      have fv_H79_21 : mo_f G H79 a0 21 = mo_f G H77 a0 21 := mo_f_F hf h0 (by decide) (by decide)
      have wd_H79 := mo_wd_F hB.2.2 h0 (by decide) k3
      have cr_H79 : mo_rd G H79 a0 cv := mo_rd_F hB.1 hB.2.2 h0 (by decide) k1
      have zf79 := z79_3
      rw [tk_4] at zf79
      replace hF := hF.trans (dv_bn2 (zf79))
      refine W.eq (g2 := F0 m 82 ls [.int x5]) rfl ?_
      have tk4 := tk_4
      refine tr_if_eq (tgt := 90) hx hb dX12_readOrder_82 (by decide) (Eq.refl _) (fun c82 => ?_) (fun c82 => ?_)
      · specialize z79_1 (by omega); clear z79_0
        replace hF := hF.trans (if_pos c82)
        exact th_vret hC hH hr hlocks hB.2.1 ⟨rfl, hB.1, hB.2.2, hR, ⟨by omega, by omega⟩, fun h9 => by obtain ⟨r1, r2⟩ := z79_1; obtain ⟨q7, m9, q6, q8⟩ := e77 (by omega); exact ⟨q7, m9, q6, _, q8, mo_if_n (by have q7 := r2 (by omega); omega) r1⟩, (hF0.symm.trans hF)⟩ dX12_readOrder_90
      · specialize z79_0 (by omega); clear z79_1
        replace hF := hF.trans (if_neg c82)
        refine lv_aload_n hx hb dX12_readOrder_85 rfl (lv_at hl 0 rfl) ?_
        refine lv_iconst (v := 0) hx hb dX12_readOrder_86 (by decide) ?_
        refine th_call (th_runV (As := [.int 0]) (rest := []) hC mf_X12_readTest km_X12_214 im_X12_readTest se_X12_readTest (c_X12_readTest_d 8 l G Γ H79 hB.1 hR hU a0 h0 0 (by decide) (by decide) 1 cv (mo_f G H79 a0 19) cr_H79 ⟨by omega, by omega, by omega⟩ wd_H79 (by have w0 := tk_0; omega)) rfl rfl ⟨Nat.le_of_ble_eq_true rfl, Nat.le_of_ble_eq_true rfl⟩ hB.1 h0 ro_46 rfl rfl hl.1 rfl (Nat.le_of_ble_eq_true rfl) dX12_readOrder_87 ⟨Nat.le_refl _, Nat.le_refl _⟩) hB.2.1 (fun v87 H87 locs hp hz hS => ?_)
        obtain ⟨rfl, hI1, hf, hR, z87_0, z87_1, z87_2⟩ := hp
        have hB := th_B_c hB hI1 hS hf (by decide)
        have fv_H87_18 : mo_f G H87 a0 18 = mo_f G H79 a0 18 := mo_f_F hf h0 (by decide) (by decide)
        have wd_H87 := mo_wd_F hB.2.2 h0 (by decide) k3
        have cr_H87 : mo_rd G H87 a0 cv := mo_rd_F hB.1 hB.2.2 h0 (by decide) k1
        have zf87 := z87_2
        rw [tk_0] at zf87
        replace hF := hF.trans (dv_bn2 (zf87))
        refine W.eq (g2 := F0 m 90 ls []) rfl ?_
        have tk0 := tk_0
        exact th_vret hC hH hr hlocks hB.2.1 ⟨rfl, hB.1, hB.2.2, hR, ⟨by omega, by omega⟩, fun h9 => by obtain ⟨q1, q2⟩ := z87_1 h9; obtain ⟨q3, q4, q5⟩ := z79_0; obtain ⟨q7, m9, q6, q8⟩ := e77 (by omega); exact ⟨q7, m9, q6, _, q8, mo_if_y (by omega) q5 q2⟩, (hF0.symm.trans hF)⟩ dX12_readOrder_90
    refine tr_if_eq (tgt := 77) hx hb dX12_readOrder_67 (by decide) (Eq.refl _) (fun c67 => ?_) (fun c67 => ?_)
    · specialize z64_1 (by omega); clear z64_0
      replace hF := hF.trans (if_pos c67)
      exact jn77 H64 locs ls hB hR (lv_sub hl [0] rfl) hF ⟨by omega, by omega⟩ (fun h9 => by obtain ⟨r1, r2⟩ := z64_1; obtain ⟨q8, q9⟩ := e61 (by omega); exact ⟨q8, _, q9, mo_tim_n (by have q7 := r2 (by omega); omega) r1⟩)
    · specialize z64_0 (by omega); clear z64_1
      replace hF := hF.trans (if_neg c67)
      refine lv_aload_n hx hb dX12_readOrder_70 rfl (lv_at hl 0 rfl) ?_
      refine lv_iconst (v := 1) hx hb dX12_readOrder_71 (by decide) ?_
      refine lv_bipush (v := 20) hx hb dX12_readOrder_72 (by decide) ?_
      refine th_call (th_runV (As := [.int 1, .int 20]) (rest := []) hC mf_X12_mustNumber km_X12_220 im_X12_mustNumber se_X12_mustNumber (c_X12_mustNumber l G Γ H64 hB.1 hR hU a0 h0 1 20 cv (mo_f G H64 a0 19) cr_H64 ⟨by omega, by omega, by omega⟩) rfl rfl ⟨Nat.le_of_ble_eq_true rfl, Nat.le_of_ble_eq_true rfl⟩ hB.1 h0 ro_46 rfl rfl hl.1 rfl (Nat.le_of_ble_eq_true rfl) dX12_readOrder_74 ⟨Nat.le_refl _, Nat.le_refl _⟩) hB.2.1 (fun v74 H74 locs hp hz hS => ?_)
      obtain ⟨rfl, hI1, hf, hR, z74_0, z74_1, z74_2⟩ := hp
      have hB := th_B_c hB hI1 hS hf (by decide)
      have fv_H74_18 : mo_f G H74 a0 18 = mo_f G H64 a0 18 := mo_f_F hf h0 (by decide) (by decide)
      have wd_H74 := mo_wd_F hB.2.2 h0 (by decide) k3
      have cr_H74 : mo_rd G H74 a0 cv := mo_rd_F hB.1 hB.2.2 h0 (by decide) k1
      have zf74 := z74_2
      rw [tk_1, tk_20] at zf74
      replace hF := hF.trans (dv_bn2 (zf74))
      refine W.eq (g2 := F0 m 77 ls []) rfl ?_
      exact jn77 H74 locs ls hB hR (lv_sub hl [0] rfl) hF ⟨by omega, by omega⟩ (fun h9 => by obtain ⟨q1, q2, q3⟩ := z74_1 h9; obtain ⟨r1, r2, r3⟩ := z64_0; obtain ⟨q8, q9⟩ := e61 (by omega); exact ⟨q8, _, q9, mo_tim_y (by omega) q2 ⟨by omega, by omega⟩⟩)
  refine tr_if_eq (tgt := 29) hx hb dX12_readOrder_6 (by decide) (Eq.refl _) (fun c6 => ?_) (fun c6 => ?_)
  · specialize z3_1 (by omega); clear z3_0
    replace hF := hF.trans (if_pos c6)
    refine lv_aload_n hx hb dX12_readOrder_29 rfl (lv_at hl 0 rfl) ?_
    refine lv_bipush (v := 24) hx hb dX12_readOrder_30 (by decide) ?_
    refine th_call (th_runV (As := [.int 24]) (rest := []) hC mf_X12_takes0 km_X12_199 im_X12_takes0 se_X12_takes0 (c_X12_takes0 l G Γ H3 hB.1 hR hU a0 h0 24 (by decide) cv t cr_H3 ⟨by omega, by omega, by omega⟩) rfl rfl ⟨Nat.le_of_ble_eq_true rfl, Nat.le_of_ble_eq_true rfl⟩ hB.1 h0 ro_46 rfl rfl hl.1 rfl (Nat.le_of_ble_eq_true rfl) dX12_readOrder_32 ⟨Nat.le_refl _, Nat.le_refl _⟩) hB.2.1 (fun v32 H32 locs hp hz hS => ?_)
    obtain ⟨x6, rfl, lx6, ux6, hI1, hf, hR, z32_0, z32_1, z32_2, z32_3⟩ := hp
    have hB := th_B_c hB hI1 hS hf (by decide)
    have fv_H32_18 : mo_f G H32 a0 18 = mo_f G H3 a0 18 := mo_f_F hf h0 (by decide) (by decide)
    have fv_H32_21 : mo_f G H32 a0 21 = mo_f G H3 a0 21 := mo_f_F hf h0 (by decide) (by decide)
    have wd_H32 := mo_wd_F hB.2.2 h0 (by decide) k3
    have cr_H32 : mo_rd G H32 a0 cv := mo_rd_F hB.1 hB.2.2 h0 (by decide) k1
    have zf32 := z32_3
    rw [tk_24] at zf32
    replace hF := hF.trans (dv_bn2 (zf32))
    refine W.eq (g2 := F0 m 35 ls [.int x6]) rfl ?_
    have tk24 := tk_24
    refine tr_if_eq (tgt := 46) hx hb dX12_readOrder_35 (by decide) (Eq.refl _) (fun c35 => ?_) (fun c35 => ?_)
    · specialize z32_1 (by omega); clear z32_0
      replace hF := hF.trans (if_pos c35)
      refine lv_aload_n hx hb dX12_readOrder_46 rfl (lv_at hl 0 rfl) ?_
      refine lv_bipush (v := 25) hx hb dX12_readOrder_47 (by decide) ?_
      refine th_call (th_runV (As := [.int 25]) (rest := []) hC mf_X12_takes0 km_X12_199 im_X12_takes0 se_X12_takes0 (c_X12_takes0 l G Γ H32 hB.1 hR hU a0 h0 25 (by decide) cv t cr_H32 ⟨by omega, by omega, by omega⟩) rfl rfl ⟨Nat.le_of_ble_eq_true rfl, Nat.le_of_ble_eq_true rfl⟩ hB.1 h0 ro_46 rfl rfl hl.1 rfl (Nat.le_of_ble_eq_true rfl) dX12_readOrder_49 ⟨Nat.le_refl _, Nat.le_refl _⟩) hB.2.1 (fun v49 H49 locs hp hz hS => ?_)
      obtain ⟨x7, rfl, lx7, ux7, hI1, hf, hR, z49_0, z49_1, z49_2, z49_3⟩ := hp
      have hB := th_B_c hB hI1 hS hf (by decide)
      have fv_H49_18 : mo_f G H49 a0 18 = mo_f G H32 a0 18 := mo_f_F hf h0 (by decide) (by decide)
      have fv_H49_21 : mo_f G H49 a0 21 = mo_f G H32 a0 21 := mo_f_F hf h0 (by decide) (by decide)
      have wd_H49 := mo_wd_F hB.2.2 h0 (by decide) k3
      have cr_H49 : mo_rd G H49 a0 cv := mo_rd_F hB.1 hB.2.2 h0 (by decide) k1
      have zf49 := z49_3
      rw [tk_25] at zf49
      replace hF := hF.trans (dv_bn2 (zf49))
      refine W.eq (g2 := F0 m 52 ls [.int x7]) rfl ?_
      have tk25 := tk_25
      refine tr_if_ne (tgt := 61) hx hb dX12_readOrder_52 (by decide) (Eq.refl _) (fun c52 => ?_) (fun c52 => ?_)
      · specialize z49_0 (by omega); clear z49_1
        replace hF := hF.trans (if_pos c52)
        exact jn61 H49 locs ls hB hR (lv_sub hl [0] rfl) hF ⟨by omega, by omega⟩ (fun h9 => by obtain ⟨r1, r2, r3⟩ := z49_0; exact ⟨by omega, Or.inr (Or.inr ⟨Or.inl (by omega), by omega⟩)⟩)
      · specialize z49_1 (by omega); clear z49_0
        replace hF := hF.trans (if_neg (not_not_intro c52))
        refine lv_aload_n hx hb dX12_readOrder_55 rfl (lv_at hl 0 rfl) ?_
        refine lv_bipush (v := 26) hx hb dX12_readOrder_56 (by decide) ?_
        refine th_call (th_runV (As := [.int 26]) (rest := []) hC mf_X12_must km_X12_211 im_X12_must se_X12_must (c_X12_must l G Γ H49 hB.1 hR hU a0 h0 26 (by decide) cv (mo_f G H49 a0 19) cr_H49 ⟨by omega, by omega, by omega⟩) rfl rfl ⟨Nat.le_of_ble_eq_true rfl, Nat.le_of_ble_eq_true rfl⟩ hB.1 h0 ro_46 rfl rfl hl.1 rfl (Nat.le_of_ble_eq_true rfl) dX12_readOrder_58 ⟨Nat.le_refl _, Nat.le_refl _⟩) hB.2.1 (fun v58 H58 locs hp hz hS => ?_)
        obtain ⟨rfl, hI1, hf, hR, z58_0, z58_1, z58_2⟩ := hp
        have hB := th_B_c hB hI1 hS hf (by decide)
        have fv_H58_18 : mo_f G H58 a0 18 = mo_f G H49 a0 18 := mo_f_F hf h0 (by decide) (by decide)
        have wd_H58 := mo_wd_F hB.2.2 h0 (by decide) k3
        have cr_H58 : mo_rd G H58 a0 cv := mo_rd_F hB.1 hB.2.2 h0 (by decide) k1
        have zf58 := z58_2
        rw [tk_26] at zf58
        replace hF := hF.trans (dv_bn2 (zf58))
        refine W.eq (g2 := F0 m 61 ls []) rfl ?_
        have tk26 := tk_26
        exact jn61 H58 locs ls hB hR (lv_sub hl [0] rfl) hF ⟨by omega, by omega⟩ (fun h9 => by obtain ⟨q1, q2, q3⟩ := z58_1 h9; exact ⟨by omega, Or.inr (Or.inr ⟨Or.inr (by rw [show mo_f G H49 a0 19 = t by omega] at q2; omega), by omega⟩)⟩)
    · specialize z32_0 (by omega); clear z32_1
      replace hF := hF.trans (if_neg c35)
      refine lv_aload_n hx hb dX12_readOrder_38 rfl (lv_at hl 0 rfl) ?_
      refine lv_iconst (v := 0) hx hb dX12_readOrder_39 (by decide) ?_
      refine th_call (th_runV (As := [.int 0]) (rest := []) hC mf_X12_readSum km_X12_208 im_X12_readSum se_X12_readSum (c_X12_readSum_d 8 l G Γ H32 hB.1 hR hU a0 h0 0 (by decide) (by decide) 1 cv (mo_f G H32 a0 19) cr_H32 ⟨by omega, by omega, by omega⟩ wd_H32 (by have w0 := tk_0; omega)) rfl rfl ⟨Nat.le_of_ble_eq_true rfl, Nat.le_of_ble_eq_true rfl⟩ hB.1 h0 ro_46 rfl rfl hl.1 rfl (Nat.le_of_ble_eq_true rfl) dX12_readOrder_40 ⟨Nat.le_refl _, Nat.le_refl _⟩) hB.2.1 (fun v40 H40 locs hp hz hS => ?_)
      obtain ⟨rfl, hI1, hf, hR, z40_0, z40_1, z40_2⟩ := hp
      have hB := th_B_c hB hI1 hS hf (by decide)
      have fv_H40_18 : mo_f G H40 a0 18 = mo_f G H32 a0 18 := mo_f_F hf h0 (by decide) (by decide)
      have wd_H40 := mo_wd_F hB.2.2 h0 (by decide) k3
      have cr_H40 : mo_rd G H40 a0 cv := mo_rd_F hB.1 hB.2.2 h0 (by decide) k1
      have zf40 := z40_2
      rw [tk_0] at zf40
      replace hF := hF.trans (dv_bn2 (zf40))
      refine W.eq (g2 := F0 m 43 ls []) rfl ?_
      have tk0 := tk_0
      refine lv_goto (tgt := 61) hx hb dX12_readOrder_43 (by decide) ?_
      exact jn61 H40 locs ls hB hR (lv_sub hl [0] rfl) hF ⟨by omega, by omega⟩ (fun h9 => by obtain ⟨q7, q8⟩ := z40_1 h9; obtain ⟨r1, r2, r3⟩ := z32_0; exact ⟨by omega, Or.inr (Or.inl ⟨by omega, by rw [r3] at q8; exact q8⟩)⟩)
  · specialize z3_0 (by omega); clear z3_1
    replace hF := hF.trans (if_neg c6)
    refine lv_aload_n hx hb dX12_readOrder_9 rfl (lv_at hl 0 rfl) ?_
    refine lv_iconst (v := 0) hx hb dX12_readOrder_10 (by decide) ?_
    refine th_call (th_runV (As := [.int 0]) (rest := []) hC mf_X12_readSum km_X12_208 im_X12_readSum se_X12_readSum (c_X12_readSum_d 8 l G Γ H3 hB.1 hR hU a0 h0 0 (by decide) (by decide) 1 cv (mo_f G H3 a0 19) cr_H3 ⟨by omega, by omega, by omega⟩ wd_H3 (by have w0 := tk_0; omega)) rfl rfl ⟨Nat.le_of_ble_eq_true rfl, Nat.le_of_ble_eq_true rfl⟩ hB.1 h0 ro_46 rfl rfl hl.1 rfl (Nat.le_of_ble_eq_true rfl) dX12_readOrder_11 ⟨Nat.le_refl _, Nat.le_refl _⟩) hB.2.1 (fun v11 H11 locs hp hz hS => ?_)
    obtain ⟨rfl, hI1, hf, hR, z11_0, z11_1, z11_2⟩ := hp
    have hB := th_B_c hB hI1 hS hf (by decide)
    have fv_H11_18 : mo_f G H11 a0 18 = mo_f G H3 a0 18 := mo_f_F hf h0 (by decide) (by decide)
    have wd_H11 := mo_wd_F hB.2.2 h0 (by decide) k3
    have cr_H11 : mo_rd G H11 a0 cv := mo_rd_F hB.1 hB.2.2 h0 (by decide) k1
    have zf11 := z11_2
    rw [tk_0] at zf11
    replace hF := hF.trans (dv_bn2 (zf11))
    refine W.eq (g2 := F0 m 14 ls []) rfl ?_
    have tk0 := tk_0
    refine lv_aload_n hx hb dX12_readOrder_14 rfl (lv_at hl 0 rfl) ?_
    refine lv_bipush (v := 22) hx hb dX12_readOrder_15 (by decide) ?_
    refine th_call (th_runV (As := [.int 22]) (rest := []) hC mf_X12_readMore km_X12_217 im_X12_readMore se_X12_readMore (c_X12_readMore l G Γ H11 hB.1 hR hU a0 h0 22 (by decide) 1 cv (mo_f G H11 a0 19) cr_H11 ⟨by omega, by omega, by omega⟩ wd_H11) rfl rfl ⟨Nat.le_of_ble_eq_true rfl, Nat.le_of_ble_eq_true rfl⟩ hB.1 h0 ro_46 rfl rfl hl.1 rfl (Nat.le_of_ble_eq_true rfl) dX12_readOrder_17 ⟨Nat.le_refl _, Nat.le_refl _⟩) hB.2.1 (fun v17 H17 locs hp hz hS => ?_)
    obtain ⟨rfl, hI1, hf, hR, z17_0, z17_1, z17_2⟩ := hp
    have hB := th_B_c hB hI1 hS hf (by decide)
    have fv_H17_18 : mo_f G H17 a0 18 = mo_f G H11 a0 18 := mo_f_F hf h0 (by decide) (by decide)
    have wd_H17 := mo_wd_F hB.2.2 h0 (by decide) k3
    have cr_H17 : mo_rd G H17 a0 cv := mo_rd_F hB.1 hB.2.2 h0 (by decide) k1
    have zf17 := z17_2
    rw [tk_22] at zf17
    replace hF := hF.trans (dv_bn2 (zf17))
    refine W.eq (g2 := F0 m 20 ls []) rfl ?_
    have tk22 := tk_22
    refine lv_aload_n hx hb dX12_readOrder_20 rfl (lv_at hl 0 rfl) ?_
    refine lv_bipush (v := 23) hx hb dX12_readOrder_21 (by decide) ?_
    refine th_call (th_runV (As := [.int 23]) (rest := []) hC mf_X12_readMore km_X12_217 im_X12_readMore se_X12_readMore (c_X12_readMore l G Γ H17 hB.1 hR hU a0 h0 23 (by decide) 1 cv (mo_f G H17 a0 19) cr_H17 ⟨by omega, by omega, by omega⟩ wd_H17) rfl rfl ⟨Nat.le_of_ble_eq_true rfl, Nat.le_of_ble_eq_true rfl⟩ hB.1 h0 ro_46 rfl rfl hl.1 rfl (Nat.le_of_ble_eq_true rfl) dX12_readOrder_23 ⟨Nat.le_refl _, Nat.le_refl _⟩) hB.2.1 (fun v23 H23 locs hp hz hS => ?_)
    obtain ⟨rfl, hI1, hf, hR, z23_0, z23_1, z23_2⟩ := hp
    have hB := th_B_c hB hI1 hS hf (by decide)
    have fv_H23_18 : mo_f G H23 a0 18 = mo_f G H17 a0 18 := mo_f_F hf h0 (by decide) (by decide)
    have wd_H23 := mo_wd_F hB.2.2 h0 (by decide) k3
    have cr_H23 : mo_rd G H23 a0 cv := mo_rd_F hB.1 hB.2.2 h0 (by decide) k1
    have zf23 := z23_2
    rw [tk_23] at zf23
    replace hF := hF.trans (dv_bn2 (zf23))
    refine W.eq (g2 := F0 m 26 ls []) rfl ?_
    have tk23 := tk_23
    refine lv_goto (tgt := 61) hx hb dX12_readOrder_26 (by decide) ?_
    exact jn61 H23 locs ls hB hR (lv_sub hl [0] rfl) hF ⟨by omega, by omega⟩ (fun h9 => by obtain ⟨q1, q2, q3⟩ := z23_1 h9; obtain ⟨q4, q5, q6⟩ := z17_1 q1; obtain ⟨q7, q8⟩ := z11_1 q4; obtain ⟨r1, r2, r3⟩ := z3_0; exact ⟨r1, Or.inl ⟨by omega, _, _, by rw [r3] at q8; exact q8, by omega, q6, by omega, q3⟩⟩)

set_option maxHeartbeats 4000000 in
set_option maxRecDepth 100000 in
theorem c_X12_readOne (l : Launch) (G : th_G) (Γ : th_Ga) (H0 : Heap) (hI : th_I G Γ H0) (hR : th_RC G Γ H0) (hU : dv_U Γ) (a0 : Nat) (h0 : Γ a0 = (46, 0)) (o : Int) (cv : Int → Int) (t : Int) (k1 : mo_rd G H0 a0 cv) (k2 : mo_f G H0 a0 19 = t ∧ 0 ≤ t ∧ t ≤ mo_f G H0 a0 18) (k3 : mo_wd G H0 a0 o) : Met l yX12_readOne (.code yX12_readOne cX12_readOne 1 (none) :: th_tb) ({ frames := 72, cells := 0, slots := 0, locals := 2185 } : Room) (th_P [.ref a0] G H0) (th_Q (fun (v : Option Value) (H1 : Heap) => v = none ∧ th_I G Γ H1 ∧ th_F G Γ [(46, 19), (46, 20), (46, 21)] H0 H1 ∧ th_RC G Γ H1 ∧ (t ≤ mo_f G H1 a0 19 ∧ mo_f G H1 a0 19 ≤ mo_f G H0 a0 18) ∧ (mo_f G H1 a0 21 = -1 → mo_f G H0 a0 21 = -1 ∧ mo_clause o cv t (mo_f G H1 a0 19)) ∧ (f_X12_readOne (dv G Γ H0) (a0 : Int) = (dv G Γ H1, 0))) G) 0 0 (fun q => G.2.2 ≤ q) := by
  refine th_met RX12 (by decide) rfl (Nat.le_of_ble_eq_true rfl) ?_
  intro p e s m below meth c hC hH hr hlocks hnm ls hl
  have hx := hC.1
  have hb := hC.2.1
  have hB : th_B G Γ Γ [(46, 19), (46, 20), (46, 21)] H0 H0 [] := ⟨hI, va_S.rf, th_F_rf⟩
  have hl : lv_has ls 1 [(0, .ref a0)] := hl
  obtain ⟨F, hF0⟩ : ∃ F, F = f_X12_readOne (dv G Γ H0) ((a0 : Int)) := ⟨_, rfl⟩
  have hF := hF0.trans (f_X12_readOne.eq_1 (dv G Γ H0) ((a0 : Int)))
  refine lv_aload_n hx hb dX12_readOne_0 rfl (lv_at hl 0 rfl) ?_
  have k3u := k3
  unfold mo_wd at k3u
  refine th_getI (j := 10) hC cf_X12 hB.1 h0 ro_46 rfl rfl kf_X12_224 dX12_readOne_1 (fun x1 mx1 lx1 ux1 => ?_)
  replace hF := hF.trans (dv_bn (dv_getI h0 ro_46 (j := 10) rfl mx1 (by decide)))
  have fg2 : mo_f G H0 a0 10 = x1.toInt := mo_fat mx1
  refine tr_if_eq (tgt := 14) hx hb dX12_readOne_4 (by decide) (Eq.refl _) (fun c4 => ?_) (fun c4 => ?_)
  · replace hF := hF.trans (if_pos c4)
    refine lv_aload_n hx hb dX12_readOne_14 rfl (lv_at hl 0 rfl) ?_
    have eo : o = 0 := by omega
    have k3o := k3
    rw [eo] at k3o
    refine th_call (th_runV (As := []) (rest := []) hC mf_X12_readClause km_X12_231 im_X12_readClause se_X12_readClause (c_X12_readClause l G Γ H0 hB.1 hR hU a0 h0 cv t k1 ⟨by omega, by omega, by omega⟩ k3o) rfl rfl ⟨Nat.le_of_ble_eq_true rfl, Nat.le_of_ble_eq_true rfl⟩ hB.1 h0 ro_46 rfl rfl hl.1 rfl (Nat.le_of_ble_eq_true rfl) dX12_readOne_15 ⟨Nat.le_refl _, Nat.le_refl _⟩) hB.2.1 (fun v15 H15 locs hp hz hS => ?_)
    obtain ⟨rfl, hI1, hf, hR, z15_0, z15_1, z15_2⟩ := hp
    have hB := th_B_c hB hI1 hS hf (by decide)
    have fv_H15_10 : mo_f G H15 a0 10 = mo_f G H0 a0 10 := mo_f_F hf h0 (by decide) (by decide)
    have fv_H15_18 : mo_f G H15 a0 18 = mo_f G H0 a0 18 := mo_f_F hf h0 (by decide) (by decide)
    have wd_H15 := mo_wd_F hB.2.2 h0 (by decide) k3
    have cr_H15 : mo_rd G H15 a0 cv := mo_rd_F hB.1 hB.2.2 h0 (by decide) k1
    replace hF := hF.trans (dv_bn2 (z15_2))
    refine W.eq (g2 := F0 m 18 ls []) rfl ?_
    exact th_vret hC hH hr hlocks hB.2.1 ⟨rfl, hB.1, hB.2.2, hR, ⟨by omega, by omega⟩, fun h9 => ⟨(z15_1 h9).1, Or.inl ⟨by omega, (z15_1 h9).2⟩⟩, (hF0.symm.trans hF)⟩ dX12_readOne_18
  · replace hF := hF.trans (if_neg c4)
    refine lv_aload_n hx hb dX12_readOne_7 rfl (lv_at hl 0 rfl) ?_
    have eo : o = 1 := by omega
    have k3o := k3
    rw [eo] at k3o
    refine th_call (th_runV (As := []) (rest := []) hC mf_X12_readOrder km_X12_228 im_X12_readOrder se_X12_readOrder (c_X12_readOrder l G Γ H0 hB.1 hR hU a0 h0 cv t k1 ⟨by omega, by omega, by omega⟩ k3o) rfl rfl ⟨Nat.le_of_ble_eq_true rfl, Nat.le_of_ble_eq_true rfl⟩ hB.1 h0 ro_46 rfl rfl hl.1 rfl (Nat.le_of_ble_eq_true rfl) dX12_readOne_8 ⟨Nat.le_refl _, Nat.le_refl _⟩) hB.2.1 (fun v8 H8 locs hp hz hS => ?_)
    obtain ⟨rfl, hI1, hf, hR, z8_0, z8_1, z8_2⟩ := hp
    have hB := th_B_c hB hI1 hS hf (by decide)
    have fv_H8_10 : mo_f G H8 a0 10 = mo_f G H0 a0 10 := mo_f_F hf h0 (by decide) (by decide)
    have fv_H8_18 : mo_f G H8 a0 18 = mo_f G H0 a0 18 := mo_f_F hf h0 (by decide) (by decide)
    have wd_H8 := mo_wd_F hB.2.2 h0 (by decide) k3
    have cr_H8 : mo_rd G H8 a0 cv := mo_rd_F hB.1 hB.2.2 h0 (by decide) k1
    replace hF := hF.trans (dv_bn2 (z8_2))
    refine W.eq (g2 := F0 m 11 ls []) rfl ?_
    refine lv_goto (tgt := 18) hx hb dX12_readOne_11 (by decide) ?_
    exact th_vret hC hH hr hlocks hB.2.1 ⟨rfl, hB.1, hB.2.2, hR, ⟨by omega, by omega⟩, fun h9 => ⟨(z8_1 h9).1, Or.inr ⟨by omega, (z8_1 h9).2⟩⟩, (hF0.symm.trans hF)⟩ dX12_readOne_18
