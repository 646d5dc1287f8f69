def s_X12_readPlain (d : Nat) : Prop := ∀ (l : Launch) (G : th_G) (Γ : th_Ga) (H0 : Heap) (hI : th_I G Γ H0) (hR : th_RC G Γ H0) (hU : dv_U Γ) (a0 : Nat) (h0 : Γ a0 = (46, 0)) (p1 : Int32) (f1 : 0 ≤ p1.toInt) (g1 : p1.toInt ≤ 8) (o : Int) (cv : Int → Int) (t : Int) (k1 : mo_rd G H0 a0 cv) (k2 : mo_f G H0 a0 19 = t ∧ 0 ≤ t ∧ t ≤ mo_f G H0 a0 18) (k3 : mo_wd G H0 a0 o) (k4 : p1.toInt + (d : Int) = 8), Met l yX12_readPlain (.code yX12_readPlain cX12_readPlain 4 (none) :: th_tb) ({ frames := 44 + 3 * d, cells := 0, slots := 0, locals := 1300 + d * 100 } : Room) (th_P [.ref a0, .int p1] G H0) (th_Q (fun (v : Option Value) (H1 : Heap) => v = none ∧ th_I G Γ H1 ∧ th_F G Γ [(46, 19), (46, 20), (46, 21)] H0 H1 ∧ th_RC G Γ H1 ∧ (t ≤ mo_f G H1 a0 19 ∧ mo_f G H1 a0 19 ≤ mo_f G H0 a0 18) ∧ (mo_f G H1 a0 21 = -1 → mo_f G H0 a0 21 = -1 ∧ mo_plain o cv d t (mo_f G H1 a0 19)) ∧ (f_X12_readPlain d (dv G Γ H0) (a0 : Int) p1.toInt = (dv G Γ H1, 0))) G) 0 0 (fun q => G.2.2 ≤ q)

def s_X12_readBoth (d : Nat) : Prop := ∀ (l : Launch) (G : th_G) (Γ : th_Ga) (H0 : Heap) (hI : th_I G Γ H0) (hR : th_RC G Γ H0) (hU : dv_U Γ) (a0 : Nat) (h0 : Γ a0 = (46, 0)) (p1 : Int32) (f1 : 0 ≤ p1.toInt) (g1 : p1.toInt ≤ 8) (o : Int) (cv : Int → Int) (t : Int) (k1 : mo_rd G H0 a0 cv) (k2 : mo_f G H0 a0 19 = t ∧ 0 ≤ t ∧ t ≤ mo_f G H0 a0 18) (k3 : mo_wd G H0 a0 o) (k4 : p1.toInt + (d : Int) = 8), Met l yX12_readBoth (.code yX12_readBoth cX12_readBoth 2 (none) :: th_tb) ({ frames := 45 + 3 * d, cells := 0, slots := 0, locals := 1323 + d * 100 } : Room) (th_P [.ref a0, .int p1] G H0) (th_Q (fun (v : Option Value) (H1 : Heap) => v = none ∧ th_I G Γ H1 ∧ th_F G Γ [(46, 19), (46, 20), (46, 21)] H0 H1 ∧ th_RC G Γ H1 ∧ (t ≤ mo_f G H1 a0 19 ∧ mo_f G H1 a0 19 ≤ mo_f G H0 a0 18) ∧ (mo_f G H1 a0 21 = -1 → mo_f G H0 a0 21 = -1 ∧ mo_both o cv d t (mo_f G H1 a0 19)) ∧ (f_X12_readBoth d (dv G Γ H0) (a0 : Int) p1.toInt = (dv G Γ H1, 0))) G) 0 0 (fun q => G.2.2 ≤ q)

def s_X12_readTest (d : Nat) : Prop := ∀ (l : Launch) (G : th_G) (Γ : th_Ga) (H0 : Heap) (hI : th_I G Γ H0) (hR : th_RC G Γ H0) (hU : dv_U Γ) (a0 : Nat) (h0 : Γ a0 = (46, 0)) (p1 : Int32) (f1 : 0 ≤ p1.toInt) (g1 : p1.toInt ≤ 8) (o : Int) (cv : Int → Int) (t : Int) (k1 : mo_rd G H0 a0 cv) (k2 : mo_f G H0 a0 19 = t ∧ 0 ≤ t ∧ t ≤ mo_f G H0 a0 18) (k3 : mo_wd G H0 a0 o) (k4 : p1.toInt + (d : Int) = 8), Met l yX12_readTest (.code yX12_readTest cX12_readTest 2 (none) :: th_tb) ({ frames := 46 + 3 * d, cells := 0, slots := 0, locals := 1344 + d * 100 } : Room) (th_P [.ref a0, .int p1] G H0) (th_Q (fun (v : Option Value) (H1 : Heap) => v = none ∧ th_I G Γ H1 ∧ th_F G Γ [(46, 19), (46, 20), (46, 21)] H0 H1 ∧ th_RC G Γ H1 ∧ (t ≤ mo_f G H1 a0 19 ∧ mo_f G H1 a0 19 ≤ mo_f G H0 a0 18) ∧ (mo_f G H1 a0 21 = -1 → mo_f G H0 a0 21 = -1 ∧ mo_test o cv d t (mo_f G H1 a0 19)) ∧ (f_X12_readTest d (dv G Γ H0) (a0 : Int) p1.toInt = (dv G Γ H1, 0))) G) 0 0 (fun q => G.2.2 ≤ q)

set_option maxHeartbeats 4000000 in
set_option maxRecDepth 100000 in
theorem c_X12_readPlain_s (d : Nat) (ihd : ∀ d', d = d' + 1 → s_X12_readTest d') : s_X12_readPlain d := by
  intro l G Γ H0 hI hR hU a0 h0 p1 f1 g1 o cv t k1 k2 k3 k4
  refine th_met RX12 (by decide) rfl (Nat.le_of_ble_eq_true rfl) ?_
  intro p e s m below meth c hC hH hr hlocks hnm ls hl
  have hx := hC.1
  have hb := hC.2.1
  have hB : th_B G Γ Γ [(46, 19), (46, 20), (46, 21)] H0 H0 [] := ⟨hI, va_S.rf, th_F_rf⟩
  have hl : lv_has ls 4 [(0, .ref a0), (1, .int p1)] := hl
  have lp1 := ti_lo p1; have up1 := ti_hi p1
  obtain ⟨F, hF0⟩ : ∃ F, F = f_X12_readPlain d (dv G Γ H0) ((a0 : Int)) (p1.toInt) := ⟨_, rfl⟩
  have hF := hF0.trans ((f_X12_readPlain_d d (dv G Γ H0) ((a0 : Int)) (p1.toInt)).trans (f_X12_readPlain_B.eq_1 d (dv_pre (fun _ _ _ => dv_z) f_X12_readTest d) (dv G Γ H0) ((a0 : Int)) (p1.toInt)))
  refine lv_iconst (v := 1) hx hb dX12_readPlain_0 (by decide) ?_
  refine lv_istore_n (lv' := [(2, .int 1), (0, .ref a0), (1, .int p1)]) hx hb dX12_readPlain_1 rfl hl (by decide) rfl (fun ls hl => ?_)
  have lp2 : ∀ (n2 : Nat) (H2 : Heap) (locs : List Loc) (ls : Array Slot) (j2_2 : Int32), th_B G Γ Γ [(46, 19), (46, 20), (46, 21)] H0 H2 locs → th_RC G Γ H2 → lv_has ls 4 [(0, .ref a0), (1, .int p1), (2, .int j2_2)] → F = dv_lp (f_X12_readPlain_2b d (dv_pre (fun _ _ _ => dv_z) f_X12_readTest d)) (dv G Γ H2, (a0 : Int), p1.toInt, j2_2.toInt) → 0 ≤ j2_2.toInt → j2_2.toInt ≤ 1 → (∃ m : Int, mo_f G H2 a0 19 = m ∧ t ≤ m ∧ m ≤ mo_f G H0 a0 18 ∧ mo_npre cv (mo_pos o cv d) t m ∧ (j2_2.toInt = 0 → mo_f G H0 a0 21 = -1 → cv m ≠ 7)) → mo_f G H2 a0 21 = mo_f G H0 a0 21 → 2 * (mo_f G H0 a0 18 - mo_f G H2 a0 19) + j2_2.toInt + 1 ≤ (n2 : Int) → W p l e ({ frames := 44 + 3 * d, cells := 0, slots := 0, locals := 1300 + d * 100 } : Room) s m ([.ref a0, .int p1] : List Value).toArray below meth c H2 locs 0 0 (MQ below (th_Q (fun (v : Option Value) (H1 : Heap) => v = none ∧ th_I G Γ H1 ∧ th_F G Γ [(46, 19), (46, 20), (46, 21)] H0 H1 ∧ th_RC G Γ H1 ∧ (t ≤ mo_f G H1 a0 19 ∧ mo_f G H1 a0 19 ≤ mo_f G H0 a0 18) ∧ (mo_f G H1 a0 21 = -1 → mo_f G H0 a0 21 = -1 ∧ mo_plain o cv d t (mo_f G H1 a0 19)) ∧ (f_X12_readPlain d (dv G Γ H0) (a0 : Int) p1.toInt = (dv G Γ H1, 0))) G) ([.ref a0, .int p1] : List Value).toArray s 0 0 (fun q => G.2.2 ≤ q)) (F0 m 2 ls []) := by
    intro n2
    induction n2 with
    | zero => intro H2 locs ls j2_2 hB hR hl hF g2_0 g2_1 g2_2 g2_3 hm2; exact absurd hm2 (by have := mo_lpr g2_2; omega)
    | succ n2 ih2 =>
      intro H2 locs ls j2_2 hB hR hl hF g2_0 g2_1 g2_2 g2_3 hm2
      have lj2_2 := ti_lo j2_2; have uj2_2 := ti_hi j2_2
      have wd_H2 := mo_wd_F hB.2.2 h0 (by decide) k3
      have cr_H2 : mo_rd G H2 a0 cv := mo_rd_F hB.1 hB.2.2 h0 (by decide) k1
      have fv1_18 : mo_f G H2 a0 18 = mo_f G H0 a0 18 := mo_f_F hB.2.2 h0 (by decide) (by decide)
      have vw_H2_15 : mo_v G H2 a0 15 = mo_v G H0 a0 15 := mo_v_F (r := 55) hB.1 hB.2.2 h0 rfl ro_55 (by decide) (by decide)
      have hm2 : 2 * (mo_f G H0 a0 18 - mo_f G H2 a0 19) + j2_2.toInt + 1 ≤ (n2 : Int) + 1 := by omega
      replace hF := hF.trans (dv_lp_eq)
      replace hF := hF.trans (congrArg (dv_k (f_X12_readPlain_2b d (dv_pre (fun _ _ _ => dv_z) f_X12_readTest d))) (f_X12_readPlain_2c.eq_1 d (dv_pre (fun _ _ _ => dv_z) f_X12_readTest d) (dv G Γ H2) ((a0 : Int)) (p1.toInt) (j2_2.toInt)))
      refine lv_iload_n hx hb dX12_readPlain_2 rfl (lv_at hl 2 rfl) ?_
      obtain ⟨m2, a2, b2, c2, n2, e2⟩ := g2_2
      refine tr_if_eq (tgt := 16) hx hb dX12_readPlain_3 (by decide) (Eq.refl _) (fun c3 => ?_) (fun c3 => ?_)
      · replace hF := hF.trans (congrArg (dv_k (f_X12_readPlain_2b d (dv_pre (fun _ _ _ => dv_z) f_X12_readTest d))) (if_pos c3))
        refine lv_aload_n hx hb dX12_readPlain_16 rfl (lv_at hl 0 rfl) ?_
        refine th_call (th_runV (As := []) (rest := []) hC mf_X12_fine km_X12_192 im_X12_fine se_X12_fine (c_X12_fine l G Γ H2 hB.1 hU a0 h0) rfl rfl ⟨by dsimp only; omega, by dsimp only; omega⟩ hB.1 h0 ro_46 rfl rfl hl.1 rfl (Nat.le_of_ble_eq_true rfl) dX12_readPlain_17 ⟨Nat.le_refl _, Nat.le_refl _⟩) hB.2.1 (fun v17 H17 locs hp hz hS => ?_)
        obtain ⟨x2, rfl, lx2, ux2, q17_0, q17_1, q17_2, rfl⟩ := hp
        have hB := th_B_s hB hS
        replace hF := hF.trans (congrArg (dv_k (f_X12_readPlain_2b d (dv_pre (fun _ _ _ => dv_z) f_X12_readTest d))) (dv_bn2 (q17_2)))
        refine W.eq (g2 := F0 m 20 ls [.int x2]) rfl ?_
        refine tr_if_ne (tgt := 24) hx hb dX12_readPlain_20 (by decide) (Eq.refl _) (fun c20 => ?_) (fun c20 => ?_)
        · specialize q17_0 (by omega); clear q17_1
          replace hF := hF.trans (congrArg (dv_k (f_X12_readPlain_2b d (dv_pre (fun _ _ _ => dv_z) f_X12_readTest d))) (if_pos c20))
          refine lv_aload_n hx hb dX12_readPlain_24 rfl (lv_at hl 0 rfl) ?_
          refine th_getO (j := 15) (r2 := 55) hC cf_X12 hB.1 h0 ro_46 rfl rfl kf_X12_54 dX12_readPlain_25 (fun b3 mb3 hb3 => ?_)
          refine lv_aload_n hx hb dX12_readPlain_28 rfl (lv_at hl 0 rfl) ?_
          refine th_getI (j := 19) hC cf_X12 hB.1 h0 ro_46 rfl rfl kf_X12_196 dX12_readPlain_29 (fun x4 mx4 lx4 ux4 => ?_)
          replace hF := hF.trans (congrArg (dv_k (f_X12_readPlain_2b d (dv_pre (fun _ _ _ => dv_z) f_X12_readTest d))) (dv_bn (dv_getI h0 ro_46 (j := 19) rfl mx4 (by decide))))
          have fg5 : mo_f G H2 a0 19 = x4.toInt := mo_fat mx4
          refine th_ialdF hC hB.1 hb3 ro_55 rfl (Eq.refl _) (by omega) (by omega) rfl dX12_readPlain_32 (fun x6 mx6 lx6 ux6 => ?_)
          replace hF := hF.trans (congrArg (dv_k (f_X12_readPlain_2b d (dv_pre (fun _ _ _ => dv_z) f_X12_readTest d))) (dv_bn (dv_aldI hB.1 hU hb3 ow_55 (z := x4.toInt) mx6 (by omega))))
          have vgx6 : mo_v G H0 a0 15 x4.toInt = x6.toInt := by rw [← (mo_v_F (r := 55) hB.1 hB.2.2 h0 rfl ro_55 (by decide) (by decide) : mo_v G H2 a0 15 = _)]; rw [show (x4.toInt : Int) = x4.toInt by omega]; exact mo_vat mb3 mx6 (by omega)
          have rc32 : cv m2 = x6.toInt := by have q9 := mo_rd_at k1 vgx6 (by omega) (by omega); rw [← q9]; congr 1; omega
          refine lv_istore_n (lv' := [(3, .int x6), (0, .ref a0), (1, .int p1), (2, .int j2_2)]) hx hb dX12_readPlain_33 rfl hl (by decide) rfl (fun ls hl => ?_)
          refine lv_iload_n hx hb dX12_readPlain_34 rfl (lv_at hl 0 rfl) ?_
          refine lv_bipush (v := 40) hx hb dX12_readPlain_35 (by decide) ?_
          refine th_call (th_runS (As := [.int 40]) (rest := [.int x6]) hC mf_X12_sign km_X12_240 st_X12_sign (c_X12_sign l G Γ H2 hB.1 hU 40 (by decide) (by decide)) rfl rfl ⟨by dsimp only; omega, by dsimp only; omega⟩ rfl hl.1 rfl (Nat.le_of_ble_eq_true rfl) dX12_readPlain_37 ⟨Nat.le_refl _, Nat.le_refl _⟩) hB.2.1 (fun v37 H37 locs hp hz hS => ?_)
          obtain ⟨x7, rfl, lx7, ux7, q37_0, q37_1, rfl⟩ := hp
          have hB := th_B_s hB hS
          have w37_0 := tk_40
          have zf37 := q37_1
          rw [tk_40] at zf37
          replace hF := hF.trans (congrArg (dv_k (f_X12_readPlain_2b d (dv_pre (fun _ _ _ => dv_z) f_X12_readTest d))) (dv_bn2 (zf37)))
          refine W.eq (g2 := F0 m 40 ls [.int x7, .int x6]) rfl ?_
          refine tr_icmp_ne (tgt := 90) hx hb dX12_readPlain_40 (by decide) (Eq.refl _) (Eq.refl _) (fun c40 => ?_) (fun c40 => ?_)
          · replace hF := hF.trans (congrArg (dv_k (f_X12_readPlain_2b d (dv_pre (fun _ _ _ => dv_z) f_X12_readTest d))) (if_pos c40))
            refine lv_aload_n hx hb dX12_readPlain_90 rfl (lv_at hl 1 rfl) ?_
            refine lv_iload_n hx hb dX12_readPlain_91 rfl (lv_at hl 2 rfl) ?_
            refine th_call (th_runV (As := [.int p1]) (rest := []) hC mf_X12_readSum km_X12_208 im_X12_readSum se_X12_readSum (c_X12_readSum_d d l G Γ H2 hB.1 hR hU a0 h0 p1 (by omega) (by omega) o cv m2 cr_H2 ⟨by omega, by omega, by omega⟩ wd_H2 (by omega)) rfl rfl ⟨by dsimp only; omega, by dsimp only; omega⟩ hB.1 h0 ro_46 rfl rfl hl.1 rfl (Nat.le_of_ble_eq_true rfl) dX12_readPlain_92 ⟨Nat.le_refl _, Nat.le_refl _⟩) hB.2.1 (fun v92 H92 locs hp hz hS => ?_)
            obtain ⟨rfl, hI1, hf, hR, z92_0, z92_1, z92_2⟩ := hp
            have hB := th_B_c hB hI1 hS hf (by decide)
            have fv_H92_18 : mo_f G H92 a0 18 = mo_f G H2 a0 18 := mo_f_F hf h0 (by decide) (by decide)
            have vv_H92_15 : mo_v G H92 a0 15 = mo_v G H2 a0 15 := mo_v_F (r := 55) hB.1 hf h0 rfl ro_55 (by decide) (by decide)
            have wd_H92 := mo_wd_F hB.2.2 h0 (by decide) k3
            have cr_H92 : mo_rd G H92 a0 cv := mo_rd_F hB.1 hB.2.2 h0 (by decide) k1
            replace hF := hF.trans (congrArg (dv_k (f_X12_readPlain_2b d (dv_pre (fun _ _ _ => dv_z) f_X12_readTest d))) (dv_bn2 (z92_2)))
            refine W.eq (g2 := F0 m 95 ls []) rfl ?_
            refine lv_aload_n hx hb dX12_readPlain_95 rfl (lv_at hl 1 rfl) ?_
            refine lv_bipush (v := 60) hx hb dX12_readPlain_96 (by decide) ?_
            refine th_call (th_runS (As := [.int 60]) (rest := [.ref a0]) hC mf_X12_sign km_X12_240 st_X12_sign (c_X12_sign l G Γ H92 hB.1 hU 60 (by decide) (by decide)) rfl rfl ⟨by dsimp only; omega, by dsimp only; omega⟩ rfl hl.1 rfl (Nat.le_of_ble_eq_true rfl) dX12_readPlain_98 ⟨Nat.le_refl _, Nat.le_refl _⟩) hB.2.1 (fun v98 H98 locs hp hz hS => ?_)
            obtain ⟨x8, rfl, lx8, ux8, q98_0, q98_1, rfl⟩ := hp
            have hB := th_B_s hB hS
            have w98_0 := tk_60
            have zf98 := q98_1
            rw [tk_60] at zf98
            replace hF := hF.trans (congrArg (dv_k (f_X12_readPlain_2b d (dv_pre (fun _ _ _ => dv_z) f_X12_readTest d))) (dv_bn2 (zf98)))
            refine W.eq (g2 := F0 m 101 ls [.int x8, .ref a0]) rfl ?_
            refine th_call (th_runV (As := [.int x8]) (rest := []) hC mf_X12_takes0 km_X12_199 im_X12_takes0 se_X12_takes0 (c_X12_takes0 l G Γ H92 hB.1 hR hU a0 h0 x8 (by omega) cv (mo_f G H92 a0 19) cr_H92 ⟨by omega, by omega, by omega⟩) rfl rfl ⟨by dsimp only; omega, by dsimp only; omega⟩ hB.1 h0 ro_46 rfl rfl hl.1 rfl (Nat.le_of_ble_eq_true rfl) dX12_readPlain_101 ⟨Nat.le_refl _, Nat.le_refl _⟩) hB.2.1 (fun v101 H101 locs hp hz hS => ?_)
            obtain ⟨x9, rfl, lx9, ux9, hI1, hf, hR, z101_0, z101_1, z101_2, z101_3⟩ := hp
            have hB := th_B_c hB hI1 hS hf (by decide)
            have fv_H101_18 : mo_f G H101 a0 18 = mo_f G H92 a0 18 := mo_f_F hf h0 (by decide) (by decide)
            have fv_H101_21 : mo_f G H101 a0 21 = mo_f G H92 a0 21 := mo_f_F hf h0 (by decide) (by decide)
            have vv_H101_15 : mo_v G H101 a0 15 = mo_v G H92 a0 15 := mo_v_F (r := 55) hB.1 hf h0 rfl ro_55 (by decide) (by decide)
            have wd_H101 := mo_wd_F hB.2.2 h0 (by decide) k3
            have cr_H101 : mo_rd G H101 a0 cv := mo_rd_F hB.1 hB.2.2 h0 (by decide) k1
            replace hF := hF.trans (congrArg (dv_k (f_X12_readPlain_2b d (dv_pre (fun _ _ _ => dv_z) f_X12_readTest d))) (dv_bn2 (z101_3)))
            refine W.eq (g2 := F0 m 104 ls [.int x9]) rfl ?_
            refine tr_if_ne (tgt := 128) hx hb dX12_readPlain_104 (by decide) (Eq.refl _) (fun c104 => ?_) (fun c104 => ?_)
            · specialize z101_0 (by omega); clear z101_1
              replace hF := hF.trans (congrArg (dv_k (f_X12_readPlain_2b d (dv_pre (fun _ _ _ => dv_z) f_X12_readTest d))) (if_pos c104))
              refine lv_aload_n hx hb dX12_readPlain_128 rfl (lv_at hl 1 rfl) ?_
              refine lv_iload_n hx hb dX12_readPlain_129 rfl (lv_at hl 2 rfl) ?_
              refine th_call (th_runV (As := [.int p1]) (rest := []) hC mf_X12_readSum km_X12_208 im_X12_readSum se_X12_readSum (c_X12_readSum_d d l G Γ H101 hB.1 hR hU a0 h0 p1 (by omega) (by omega) o cv (mo_f G H101 a0 19) cr_H101 ⟨by omega, by omega, by omega⟩ wd_H101 (by omega)) rfl rfl ⟨by dsimp only; omega, by dsimp only; omega⟩ hB.1 h0 ro_46 rfl rfl hl.1 rfl (Nat.le_of_ble_eq_true rfl) dX12_readPlain_130 ⟨Nat.le_refl _, Nat.le_refl _⟩) hB.2.1 (fun v130 H130 locs hp hz hS => ?_)
              obtain ⟨rfl, hI1, hf, hR, z130_0, z130_1, z130_2⟩ := hp
              have hB := th_B_c hB hI1 hS hf (by decide)
              have fv_H130_18 : mo_f G H130 a0 18 = mo_f G H101 a0 18 := mo_f_F hf h0 (by decide) (by decide)
              have vv_H130_15 : mo_v G H130 a0 15 = mo_v G H101 a0 15 := mo_v_F (r := 55) hB.1 hf h0 rfl ro_55 (by decide) (by decide)
              have wd_H130 := mo_wd_F hB.2.2 h0 (by decide) k3
              have cr_H130 : mo_rd G H130 a0 cv := mo_rd_F hB.1 hB.2.2 h0 (by decide) k1
              replace hF := hF.trans (congrArg (dv_k (f_X12_readPlain_2b d (dv_pre (fun _ _ _ => dv_z) f_X12_readTest d))) (dv_bn2 (z130_2)))
              refine W.eq (g2 := F0 m 133 ls []) rfl ?_
              replace hF := hF.trans (dv_kr)
              exact th_vret hC hH hr hlocks hB.2.1 ⟨rfl, hB.1, hB.2.2, hR, ⟨by omega, by omega⟩, fun h9 => by obtain ⟨q1, q2⟩ := z130_1 h9; obtain ⟨q6, q7, q8⟩ := z101_0; obtain ⟨q4, q5⟩ := z92_1 (by omega); rw [q8] at q2; exact ⟨by omega, n2 _ (mo_nots_0 (by omega) (mo_pos_c ⟨_, q5, by omega, q2⟩))⟩, (hF0.symm.trans hF)⟩ dX12_readPlain_133
            · specialize z101_1 (by omega); clear z101_0
              replace hF := hF.trans (congrArg (dv_k (f_X12_readPlain_2b d (dv_pre (fun _ _ _ => dv_z) f_X12_readTest d))) (if_neg (not_not_intro c104)))
              refine lv_aload_n hx hb dX12_readPlain_107 rfl (lv_at hl 1 rfl) ?_
              refine lv_bipush (v := 62) hx hb dX12_readPlain_108 (by decide) ?_
              refine th_call (th_runS (As := [.int 62]) (rest := [.ref a0]) hC mf_X12_sign km_X12_240 st_X12_sign (c_X12_sign l G Γ H101 hB.1 hU 62 (by decide) (by decide)) rfl rfl ⟨by dsimp only; omega, by dsimp only; omega⟩ rfl hl.1 rfl (Nat.le_of_ble_eq_true rfl) dX12_readPlain_110 ⟨Nat.le_refl _, Nat.le_refl _⟩) hB.2.1 (fun v110 H110 locs hp hz hS => ?_)
              obtain ⟨x10, rfl, lx10, ux10, q110_0, q110_1, rfl⟩ := hp
              have hB := th_B_s hB hS
              have w110_0 := tk_62
              have zf110 := q110_1
              rw [tk_62] at zf110
              replace hF := hF.trans (congrArg (dv_k (f_X12_readPlain_2b d (dv_pre (fun _ _ _ => dv_z) f_X12_readTest d))) (dv_bn2 (zf110)))
              refine W.eq (g2 := F0 m 113 ls [.int x10, .ref a0]) rfl ?_
              refine th_call (th_runV (As := [.int x10]) (rest := []) hC mf_X12_takes0 km_X12_199 im_X12_takes0 se_X12_takes0 (c_X12_takes0 l G Γ H101 hB.1 hR hU a0 h0 x10 (by omega) cv (mo_f G H92 a0 19) cr_H101 ⟨by omega, by omega, by omega⟩) rfl rfl ⟨by dsimp only; omega, by dsimp only; omega⟩ hB.1 h0 ro_46 rfl rfl hl.1 rfl (Nat.le_of_ble_eq_true rfl) dX12_readPlain_113 ⟨Nat.le_refl _, Nat.le_refl _⟩) hB.2.1 (fun v113 H113 locs hp hz hS => ?_)
              obtain ⟨x11, rfl, lx11, ux11, hI1, hf, hR, z113_0, z113_1, z113_2, z113_3⟩ := hp
              have hB := th_B_c hB hI1 hS hf (by decide)
              have fv_H113_18 : mo_f G H113 a0 18 = mo_f G H101 a0 18 := mo_f_F hf h0 (by decide) (by decide)
              have fv_H113_21 : mo_f G H113 a0 21 = mo_f G H101 a0 21 := mo_f_F hf h0 (by decide) (by decide)
              have vv_H113_15 : mo_v G H113 a0 15 = mo_v G H101 a0 15 := mo_v_F (r := 55) hB.1 hf h0 rfl ro_55 (by decide) (by decide)
              have wd_H113 := mo_wd_F hB.2.2 h0 (by decide) k3
              have cr_H113 : mo_rd G H113 a0 cv := mo_rd_F hB.1 hB.2.2 h0 (by decide) k1
              replace hF := hF.trans (congrArg (dv_k (f_X12_readPlain_2b d (dv_pre (fun _ _ _ => dv_z) f_X12_readTest d))) (dv_bn2 (z113_3)))
              refine W.eq (g2 := F0 m 116 ls [.int x11]) rfl ?_
              refine tr_if_ne (tgt := 128) hx hb dX12_readPlain_116 (by decide) (Eq.refl _) (fun c116 => ?_) (fun c116 => ?_)
              · specialize z113_0 (by omega); clear z113_1
                replace hF := hF.trans (congrArg (dv_k (f_X12_readPlain_2b d (dv_pre (fun _ _ _ => dv_z) f_X12_readTest d))) (if_pos c116))
                refine lv_aload_n hx hb dX12_readPlain_128 rfl (lv_at hl 1 rfl) ?_
                refine lv_iload_n hx hb dX12_readPlain_129 rfl (lv_at hl 2 rfl) ?_
                refine th_call (th_runV (As := [.int p1]) (rest := []) hC mf_X12_readSum km_X12_208 im_X12_readSum se_X12_readSum (c_X12_readSum_d d l G Γ H113 hB.1 hR hU a0 h0 p1 (by omega) (by omega) o cv (mo_f G H113 a0 19) cr_H113 ⟨by omega, by omega, by omega⟩ wd_H113 (by omega)) rfl rfl ⟨by dsimp only; omega, by dsimp only; omega⟩ hB.1 h0 ro_46 rfl rfl hl.1 rfl (Nat.le_of_ble_eq_true rfl) dX12_readPlain_130 ⟨Nat.le_refl _, Nat.le_refl _⟩) hB.2.1 (fun v130 H130 locs hp hz hS => ?_)
                obtain ⟨rfl, hI1, hf, hR, z130_0, z130_1, z130_2⟩ := hp
                have hB := th_B_c hB hI1 hS hf (by decide)
                have fv_H130_18 : mo_f G H130 a0 18 = mo_f G H113 a0 18 := mo_f_F hf h0 (by decide) (by decide)
                have vv_H130_15 : mo_v G H130 a0 15 = mo_v G H113 a0 15 := mo_v_F (r := 55) hB.1 hf h0 rfl ro_55 (by decide) (by decide)
                have wd_H130 := mo_wd_F hB.2.2 h0 (by decide) k3
                have cr_H130 : mo_rd G H130 a0 cv := mo_rd_F hB.1 hB.2.2 h0 (by decide) k1
                replace hF := hF.trans (congrArg (dv_k (f_X12_readPlain_2b d (dv_pre (fun _ _ _ => dv_z) f_X12_readTest d))) (dv_bn2 (z130_2)))
                refine W.eq (g2 := F0 m 133 ls []) rfl ?_
                replace hF := hF.trans (dv_kr)
                exact th_vret hC hH hr hlocks hB.2.1 ⟨rfl, hB.1, hB.2.2, hR, ⟨by omega, by omega⟩, fun h9 => by obtain ⟨q1, q2⟩ := z130_1 h9; obtain ⟨q6, q7, q8⟩ := z113_0; obtain ⟨q4, q5⟩ := z92_1 (by omega); rw [q8] at q2; exact ⟨by omega, n2 _ (mo_nots_0 (by omega) (mo_pos_c ⟨_, q5, by omega, q2⟩))⟩, (hF0.symm.trans hF)⟩ dX12_readPlain_133
              · specialize z113_1 (by omega); clear z113_0
                replace hF := hF.trans (congrArg (dv_k (f_X12_readPlain_2b d (dv_pre (fun _ _ _ => dv_z) f_X12_readTest d))) (if_neg (not_not_intro c116)))
                refine lv_aload_n hx hb dX12_readPlain_119 rfl (lv_at hl 1 rfl) ?_
                refine lv_bipush (v := 61) hx hb dX12_readPlain_120 (by decide) ?_
                refine th_call (th_runS (As := [.int 61]) (rest := [.ref a0]) hC mf_X12_sign km_X12_240 st_X12_sign (c_X12_sign l G Γ H113 hB.1 hU 61 (by decide) (by decide)) rfl rfl ⟨by dsimp only; omega, by dsimp only; omega⟩ rfl hl.1 rfl (Nat.le_of_ble_eq_true rfl) dX12_readPlain_122 ⟨Nat.le_refl _, Nat.le_refl _⟩) hB.2.1 (fun v122 H122 locs hp hz hS => ?_)
                obtain ⟨x12, rfl, lx12, ux12, q122_0, q122_1, rfl⟩ := hp
                have hB := th_B_s hB hS
                have w122_0 := tk_61
                have zf122 := q122_1
                rw [tk_61] at zf122
                replace hF := hF.trans (congrArg (dv_k (f_X12_readPlain_2b d (dv_pre (fun _ _ _ => dv_z) f_X12_readTest d))) (dv_bn2 (zf122)))
                refine W.eq (g2 := F0 m 125 ls [.int x12, .ref a0]) rfl ?_
                refine th_call (th_runV (As := [.int x12]) (rest := []) hC mf_X12_must km_X12_211 im_X12_must se_X12_must (c_X12_must l G Γ H113 hB.1 hR hU a0 h0 x12 (by omega) cv (mo_f G H92 a0 19) cr_H113 ⟨by omega, by omega, by omega⟩) rfl rfl ⟨by dsimp only; omega, by dsimp only; omega⟩ hB.1 h0 ro_46 rfl rfl hl.1 rfl (Nat.le_of_ble_eq_true rfl) dX12_readPlain_125 ⟨Nat.le_refl _, Nat.le_refl _⟩) hB.2.1 (fun v125 H125 locs hp hz hS => ?_)
                obtain ⟨rfl, hI1, hf, hR, z125_0, z125_1, z125_2⟩ := hp
                have hB := th_B_c hB hI1 hS hf (by decide)
                have fv_H125_18 : mo_f G H125 a0 18 = mo_f G H113 a0 18 := mo_f_F hf h0 (by decide) (by decide)
                have vv_H125_15 : mo_v G H125 a0 15 = mo_v G H113 a0 15 := mo_v_F (r := 55) hB.1 hf h0 rfl ro_55 (by decide) (by decide)
                have wd_H125 := mo_wd_F hB.2.2 h0 (by decide) k3
                have cr_H125 : mo_rd G H125 a0 cv := mo_rd_F hB.1 hB.2.2 h0 (by decide) k1
                replace hF := hF.trans (congrArg (dv_k (f_X12_readPlain_2b d (dv_pre (fun _ _ _ => dv_z) f_X12_readTest d))) (dv_bn2 (z125_2)))
                refine W.eq (g2 := F0 m 128 ls []) rfl ?_
                refine lv_aload_n hx hb dX12_readPlain_128 rfl (lv_at hl 1 rfl) ?_
                refine lv_iload_n hx hb dX12_readPlain_129 rfl (lv_at hl 2 rfl) ?_
                refine th_call (th_runV (As := [.int p1]) (rest := []) hC mf_X12_readSum km_X12_208 im_X12_readSum se_X12_readSum (c_X12_readSum_d d l G Γ H125 hB.1 hR hU a0 h0 p1 (by omega) (by omega) o cv (mo_f G H125 a0 19) cr_H125 ⟨by omega, by omega, by omega⟩ wd_H125 (by omega)) rfl rfl ⟨by dsimp only; omega, by dsimp only; omega⟩ hB.1 h0 ro_46 rfl rfl hl.1 rfl (Nat.le_of_ble_eq_true rfl) dX12_readPlain_130 ⟨Nat.le_refl _, Nat.le_refl _⟩) hB.2.1 (fun v130 H130 locs hp hz hS => ?_)
                obtain ⟨rfl, hI1, hf, hR, z130_0, z130_1, z130_2⟩ := hp
                have hB := th_B_c hB hI1 hS hf (by decide)
                have fv_H130_18 : mo_f G H130 a0 18 = mo_f G H125 a0 18 := mo_f_F hf h0 (by decide) (by decide)
                have vv_H130_15 : mo_v G H130 a0 15 = mo_v G H125 a0 15 := mo_v_F (r := 55) hB.1 hf h0 rfl ro_55 (by decide) (by decide)
                have wd_H130 := mo_wd_F hB.2.2 h0 (by decide) k3
                have cr_H130 : mo_rd G H130 a0 cv := mo_rd_F hB.1 hB.2.2 h0 (by decide) k1
                replace hF := hF.trans (congrArg (dv_k (f_X12_readPlain_2b d (dv_pre (fun _ _ _ => dv_z) f_X12_readTest d))) (dv_bn2 (z130_2)))
                refine W.eq (g2 := F0 m 133 ls []) rfl ?_
                replace hF := hF.trans (dv_kr)
                exact th_vret hC hH hr hlocks hB.2.1 ⟨rfl, hB.1, hB.2.2, hR, ⟨by omega, by omega⟩, fun h9 => by obtain ⟨q1, q2⟩ := z130_1 h9; obtain ⟨q6, q7, q8⟩ := z125_1 q1; obtain ⟨q4, q5⟩ := z92_1 (by omega); rw [q8] at q2; exact ⟨by omega, n2 _ (mo_nots_0 (by omega) (mo_pos_c ⟨_, q5, by omega, q2⟩))⟩, (hF0.symm.trans hF)⟩ dX12_readPlain_133
          · replace hF := hF.trans (congrArg (dv_k (f_X12_readPlain_2b d (dv_pre (fun _ _ _ => dv_z) f_X12_readTest d))) (if_neg (not_not_intro c40)))
            refine lv_iload_n hx hb dX12_readPlain_43 rfl (lv_at hl 2 rfl) ?_
            refine lv_bipush (v := 8) hx hb dX12_readPlain_44 (by decide) ?_
            have jn53 : ∀ (H53 : Heap) (locs : List Loc) (ls : Array Slot) , th_B G Γ Γ [(46, 19), (46, 20), (46, 21)] H0 H53 locs → th_RC G Γ H53 → lv_has ls 4 [(0, .ref a0), (1, .int p1)] → F = dv_k (f_X12_readPlain_2b d (dv_pre (fun _ _ _ => dv_z) f_X12_readTest d)) (f_X12_readPlain_53 d (dv_pre (fun _ _ _ => dv_z) f_X12_readTest d) (dv G Γ H53) ((a0 : Int)) (p1.toInt)) → mo_f G H53 a0 19 = m2 → (mo_f G H53 a0 21 = -1 → p1.toInt ≠ 8) → th_sl H53 a0 (G.1.2 12 19) = .int x4 → W p l e ({ frames := 44 + 3 * d, cells := 0, slots := 0, locals := 1300 + d * 100 } : Room) s m ([.ref a0, .int p1] : List Value).toArray below meth c H53 locs 0 0 (MQ below (th_Q (fun (v : Option Value) (H1 : Heap) => v = none ∧ th_I G Γ H1 ∧ th_F G Γ [(46, 19), (46, 20), (46, 21)] H0 H1 ∧ th_RC G Γ H1 ∧ (t ≤ mo_f G H1 a0 19 ∧ mo_f G H1 a0 19 ≤ mo_f G H0 a0 18) ∧ (mo_f G H1 a0 21 = -1 → mo_f G H0 a0 21 = -1 ∧ mo_plain o cv d t (mo_f G H1 a0 19)) ∧ (f_X12_readPlain d (dv G Γ H0) (a0 : Int) p1.toInt = (dv G Γ H1, 0))) G) ([.ref a0, .int p1] : List Value).toArray s 0 0 (fun q => G.2.2 ≤ q)) (F0 m 53 ls []) := by
              intro H53 locs ls hB hR hl hF g53_0 g53_1 g53_2
              have wd_H53 := mo_wd_F hB.2.2 h0 (by decide) k3
              have cr_H53 : mo_rd G H53 a0 cv := mo_rd_F hB.1 hB.2.2 h0 (by decide) k1
              have fv13_18 : mo_f G H53 a0 18 = mo_f G H0 a0 18 := mo_f_F hB.2.2 h0 (by decide) (by decide)
              have vw_H53_15 : mo_v G H53 a0 15 = mo_v G H0 a0 15 := mo_v_F (r := 55) hB.1 hB.2.2 h0 rfl ro_55 (by decide) (by decide)
              replace hF := hF.trans (congrArg (dv_k (f_X12_readPlain_2b d (dv_pre (fun _ _ _ => dv_z) f_X12_readTest d))) (f_X12_readPlain_53.eq_1 d (dv_pre (fun _ _ _ => dv_z) f_X12_readTest d) (dv G Γ H53) ((a0 : Int)) (p1.toInt)))
              refine lv_aload_n hx hb dX12_readPlain_53 rfl (lv_at hl 0 rfl) ?_
              refine th_call (th_runV (As := []) (rest := []) hC mf_X12_fine km_X12_192 im_X12_fine se_X12_fine (c_X12_fine l G Γ H53 hB.1 hU a0 h0) rfl rfl ⟨by dsimp only; omega, by dsimp only; omega⟩ hB.1 h0 ro_46 rfl rfl hl.1 rfl (Nat.le_of_ble_eq_true rfl) dX12_readPlain_54 ⟨Nat.le_refl _, Nat.le_refl _⟩) hB.2.1 (fun v54 H54 locs hp hz hS => ?_)
              obtain ⟨x14, rfl, lx14, ux14, q54_0, q54_1, q54_2, rfl⟩ := hp
              have hB := th_B_s hB hS
              replace hF := hF.trans (congrArg (dv_k (f_X12_readPlain_2b d (dv_pre (fun _ _ _ => dv_z) f_X12_readTest d))) (dv_bn2 (q54_2)))
              refine W.eq (g2 := F0 m 57 ls [.int x14]) rfl ?_
              refine tr_if_ne (tgt := 61) hx hb dX12_readPlain_57 (by decide) (Eq.refl _) (fun c57 => ?_) (fun c57 => ?_)
              · specialize q54_0 (by omega); clear q54_1
                replace hF := hF.trans (congrArg (dv_k (f_X12_readPlain_2b d (dv_pre (fun _ _ _ => dv_z) f_X12_readTest d))) (if_pos c57))
                refine lv_aload_n hx hb dX12_readPlain_61 rfl (lv_at hl 0 rfl) ?_
                refine lv_dup hx hb dX12_readPlain_62 rfl ?_
                refine th_getK hC cf_X12 hB.1 h0 ro_46 rfl (j := 19) (by decide) g53_2 kf_X12_196 dX12_readPlain_63 ?_
                replace hF := hF.trans (congrArg (dv_k (f_X12_readPlain_2b d (dv_pre (fun _ _ _ => dv_z) f_X12_readTest d))) (dv_bn (dv_getI h0 ro_46 (j := 19) rfl g53_2 (by decide))))
                have fg15 : mo_f G H53 a0 19 = x4.toInt := mo_fat g53_2
                have nz63 := mo_rd_nz k1 (show cv m2 ≠ 0 by omega)
                have t18 := mo_f_rg hI h0 (j := 18) rfl
                refine lv_iconst (v := 1) hx hb dX12_readPlain_66 (by decide) ?_
                refine tr_iadd hx hb dX12_readPlain_67 (Eq.refl _) tk_1 (by omega) (by omega) (fun x16 ex16 => ?_)
                replace hF := hF.trans (congrArg (dv_k (f_X12_readPlain_2b d (dv_pre (fun _ _ _ => dv_z) f_X12_readTest d))) (dv_bn (ex16.symm)))
                refine th_put hC cf_X12 hB h0 (Or.inl h0) ro_46 rfl (j := 19) rfl (th_sI (by omega) (by omega)) (by decide) rfl rfl rfl kf_X12_196 dX12_readPlain_68 (fun H68 locs hB hf hst68 => ?_)
                have hR := th_RC_F hB.1 hR hf (th_T_s h0 ro_46 hst68) (by decide)
                have fv_H68_18 : mo_f G H68 a0 18 = mo_f G H53 a0 18 := mo_f_F hf h0 (by decide) (by decide)
                have fv_H68_21 : mo_f G H68 a0 21 = mo_f G H53 a0 21 := mo_f_F hf h0 (by decide) (by decide)
                have vv_H68_15 : mo_v G H68 a0 15 = mo_v G H53 a0 15 := mo_v_F (r := 55) hB.1 hf h0 rfl ro_55 (by decide) (by decide)
                have wd_H68 := mo_wd_F hB.2.2 h0 (by decide) k3
                have cr_H68 : mo_rd G H68 a0 cv := mo_rd_F hB.1 hB.2.2 h0 (by decide) k1
                replace hF := hF.trans (congrArg (dv_k (f_X12_readPlain_2b d (dv_pre (fun _ _ _ => dv_z) f_X12_readTest d))) (dv_bn (dv_putI hB.1 h0 ro_46 (j := 19) rfl (th_apart hC cf_X12) hst68 (Eq.refl _) (by decide))))
                have fp68 : mo_f G H68 a0 19 = x16.toInt := mo_f_St hst68
                refine lv_aload_n hx hb dX12_readPlain_71 rfl (lv_at hl 0 rfl) ?_
                refine lv_iload_n hx hb dX12_readPlain_72 rfl (lv_at hl 1 rfl) ?_
                obtain ⟨d', hd'⟩ : ∃ d', d = d' + 1 := ⟨d - 1, by omega⟩
                refine lv_iconst (v := 1) hx hb dX12_readPlain_73 (by decide) ?_
                refine tr_iadd hx hb dX12_readPlain_74 (Eq.refl _) tk_1 (by omega) (by omega) (fun x17 ex17 => ?_)
                replace hF := hF.trans (congrArg (dv_k (f_X12_readPlain_2b d (dv_pre (fun _ _ _ => dv_z) f_X12_readTest d))) (dv_bn (ex17.symm)))
                refine th_call (th_runV (As := [.int x17]) (rest := []) hC mf_X12_readTest km_X12_214 im_X12_readTest se_X12_readTest (ihd d' hd' l G Γ H68 hB.1 hR hU a0 h0 x17 (by omega) (by omega) o cv (m2 + 1) cr_H68 ⟨by omega, by omega, by omega⟩ wd_H68 (by omega)) rfl rfl ⟨by dsimp only; omega, by dsimp only; omega⟩ hB.1 h0 ro_46 rfl rfl hl.1 rfl (Nat.le_of_ble_eq_true rfl) dX12_readPlain_75 ⟨Nat.le_refl _, Nat.le_refl _⟩) hB.2.1 (fun v75 H75 locs hp hz hS => ?_)
                obtain ⟨rfl, hI1, hf, hR, z75_0, z75_1, z75_2⟩ := hp
                have hB := th_B_c hB hI1 hS hf (by decide)
                have fv_H75_18 : mo_f G H75 a0 18 = mo_f G H68 a0 18 := mo_f_F hf h0 (by decide) (by decide)
                have vv_H75_15 : mo_v G H75 a0 15 = mo_v G H68 a0 15 := mo_v_F (r := 55) hB.1 hf h0 rfl ro_55 (by decide) (by decide)
                have wd_H75 := mo_wd_F hB.2.2 h0 (by decide) k3
                have cr_H75 : mo_rd G H75 a0 cv := mo_rd_F hB.1 hB.2.2 h0 (by decide) k1
                have zf75 := z75_2
                rw [← dv_pre_s (z := (fun _ _ _ => dv_z)) (f := f_X12_readTest) hd'] at zf75
                replace hF := hF.trans (congrArg (dv_k (f_X12_readPlain_2b d (dv_pre (fun _ _ _ => dv_z) f_X12_readTest d))) (dv_bn2 (zf75)))
                refine W.eq (g2 := F0 m 78 ls []) rfl ?_
                refine lv_aload_n hx hb dX12_readPlain_78 rfl (lv_at hl 0 rfl) ?_
                refine lv_bipush (v := 41) hx hb dX12_readPlain_79 (by decide) ?_
                refine th_call (th_runS (As := [.int 41]) (rest := [.ref a0]) hC mf_X12_sign km_X12_240 st_X12_sign (c_X12_sign l G Γ H75 hB.1 hU 41 (by decide) (by decide)) rfl rfl ⟨by dsimp only; omega, by dsimp only; omega⟩ rfl hl.1 rfl (Nat.le_of_ble_eq_true rfl) dX12_readPlain_81 ⟨Nat.le_refl _, Nat.le_refl _⟩) hB.2.1 (fun v81 H81 locs hp hz hS => ?_)
                obtain ⟨x18, rfl, lx18, ux18, q81_0, q81_1, rfl⟩ := hp
                have hB := th_B_s hB hS
                have w81_0 := tk_41
                have zf81 := q81_1
                rw [tk_41] at zf81
                replace hF := hF.trans (congrArg (dv_k (f_X12_readPlain_2b d (dv_pre (fun _ _ _ => dv_z) f_X12_readTest d))) (dv_bn2 (zf81)))
                refine W.eq (g2 := F0 m 84 ls [.int x18, .ref a0]) rfl ?_
                refine th_call (th_runV (As := [.int x18]) (rest := []) hC mf_X12_must km_X12_211 im_X12_must se_X12_must (c_X12_must l G Γ H75 hB.1 hR hU a0 h0 x18 (by omega) cv (mo_f G H75 a0 19) cr_H75 ⟨by omega, by omega, by omega⟩) rfl rfl ⟨by dsimp only; omega, by dsimp only; omega⟩ hB.1 h0 ro_46 rfl rfl hl.1 rfl (Nat.le_of_ble_eq_true rfl) dX12_readPlain_84 ⟨Nat.le_refl _, Nat.le_refl _⟩) hB.2.1 (fun v84 H84 locs hp hz hS => ?_)
                obtain ⟨rfl, hI1, hf, hR, z84_0, z84_1, z84_2⟩ := hp
                have hB := th_B_c hB hI1 hS hf (by decide)
                have fv_H84_18 : mo_f G H84 a0 18 = mo_f G H75 a0 18 := mo_f_F hf h0 (by decide) (by decide)
                have vv_H84_15 : mo_v G H84 a0 15 = mo_v G H75 a0 15 := mo_v_F (r := 55) hB.1 hf h0 rfl ro_55 (by decide) (by decide)
                have wd_H84 := mo_wd_F hB.2.2 h0 (by decide) k3
                have cr_H84 : mo_rd G H84 a0 cv := mo_rd_F hB.1 hB.2.2 h0 (by decide) k1
                replace hF := hF.trans (congrArg (dv_k (f_X12_readPlain_2b d (dv_pre (fun _ _ _ => dv_z) f_X12_readTest d))) (dv_bn2 (z84_2)))
                refine W.eq (g2 := F0 m 87 ls []) rfl ?_
                refine lv_goto (tgt := 133) hx hb dX12_readPlain_87 (by decide) ?_
                replace hF := hF.trans (dv_kr)
                exact th_vret hC hH hr hlocks hB.2.1 ⟨rfl, hB.1, hB.2.2, hR, ⟨by omega, by omega⟩, fun h9 => by obtain ⟨q1, q2, q3⟩ := z84_1 h9; obtain ⟨q4, q5⟩ := z75_1 q1; exact ⟨by omega, n2 _ (mo_nots_0 (by omega) (by rw [hd', q3]; exact mo_pos_b (by omega) q5 (by omega)))⟩, (hF0.symm.trans hF)⟩ dX12_readPlain_133
              · specialize q54_1 (by omega); clear q54_0
                replace hF := hF.trans (congrArg (dv_k (f_X12_readPlain_2b d (dv_pre (fun _ _ _ => dv_z) f_X12_readTest d))) (if_neg (not_not_intro c57)))
                replace hF := hF.trans (dv_kr)
                exact th_vret hC hH hr hlocks hB.2.1 ⟨rfl, hB.1, hB.2.2, hR, ⟨by omega, by omega⟩, fun h9 => absurd h9 (by omega), (hF0.symm.trans hF)⟩ dX12_readPlain_60
            refine tr_icmp_ne (tgt := 53) hx hb dX12_readPlain_46 (by decide) (Eq.refl _) tk_8 (fun c46 => ?_) (fun c46 => ?_)
            · replace hF := hF.trans (congrArg (dv_k (f_X12_readPlain_2b d (dv_pre (fun _ _ _ => dv_z) f_X12_readTest d))) (if_pos c46))
              exact jn53 H2 locs ls hB hR (lv_sub hl [1, 2] rfl) hF (by omega) (by omega) mx4
            · replace hF := hF.trans (congrArg (dv_k (f_X12_readPlain_2b d (dv_pre (fun _ _ _ => dv_z) f_X12_readTest d))) (if_neg (not_not_intro c46)))
              refine lv_aload_n hx hb dX12_readPlain_49 rfl (lv_at hl 1 rfl) ?_
              refine th_call (th_runV (As := []) (rest := []) hC mf_X12_faults km_X12_202 im_X12_faults se_X12_faults (c_X12_faults l G Γ H2 hB.1 hR hU a0 h0) rfl rfl ⟨by dsimp only; omega, by dsimp only; omega⟩ hB.1 h0 ro_46 rfl rfl hl.1 rfl (Nat.le_of_ble_eq_true rfl) dX12_readPlain_50 ⟨Nat.le_refl _, Nat.le_refl _⟩) hB.2.1 (fun v50 H50 locs hp hz hS => ?_)
              obtain ⟨rfl, hI1, hf, hR, z50_0, z50_1⟩ := hp
              have hB := th_B_c hB hI1 hS hf (by decide)
              have mm19 := (th_F_o hf h0 ro_46 (j := 19) (by decide) (by decide)).trans mx4
              have fv_H50_18 : mo_f G H50 a0 18 = mo_f G H2 a0 18 := mo_f_F hf h0 (by decide) (by decide)
              have fv_H50_19 : mo_f G H50 a0 19 = mo_f G H2 a0 19 := mo_f_F hf h0 (by decide) (by decide)
              have vv_H50_15 : mo_v G H50 a0 15 = mo_v G H2 a0 15 := mo_v_F (r := 55) hB.1 hf h0 rfl ro_55 (by decide) (by decide)
              have wd_H50 := mo_wd_F hB.2.2 h0 (by decide) k3
              have cr_H50 : mo_rd G H50 a0 cv := mo_rd_F hB.1 hB.2.2 h0 (by decide) k1
              replace hF := hF.trans (congrArg (dv_k (f_X12_readPlain_2b d (dv_pre (fun _ _ _ => dv_z) f_X12_readTest d))) (dv_bn2 (z50_1)))
              refine W.eq (g2 := F0 m 53 ls []) rfl ?_
              exact jn53 H50 locs ls hB hR (lv_sub hl [1, 2] rfl) hF (by omega) (by omega) mm19
        · specialize q17_1 (by omega); clear q17_0
          replace hF := hF.trans (congrArg (dv_k (f_X12_readPlain_2b d (dv_pre (fun _ _ _ => dv_z) f_X12_readTest d))) (if_neg (not_not_intro c20)))
          replace hF := hF.trans (dv_kr)
          exact th_vret hC hH hr hlocks hB.2.1 ⟨rfl, hB.1, hB.2.2, hR, ⟨by omega, by omega⟩, fun h9 => absurd h9 (by omega), (hF0.symm.trans hF)⟩ dX12_readPlain_23
      · replace hF := hF.trans (congrArg (dv_k (f_X12_readPlain_2b d (dv_pre (fun _ _ _ => dv_z) f_X12_readTest d))) (if_neg c3))
        refine lv_aload_n hx hb dX12_readPlain_6 rfl (lv_at hl 0 rfl) ?_
        refine lv_bipush (v := 7) hx hb dX12_readPlain_7 (by decide) ?_
        refine th_call (th_runV (As := [.int 7]) (rest := []) hC mf_X12_takes0 km_X12_199 im_X12_takes0 se_X12_takes0 (c_X12_takes0 l G Γ H2 hB.1 hR hU a0 h0 7 (by decide) cv m2 cr_H2 ⟨by omega, by omega, by omega⟩) rfl rfl ⟨by dsimp only; omega, by dsimp only; omega⟩ hB.1 h0 ro_46 rfl rfl hl.1 rfl (Nat.le_of_ble_eq_true rfl) dX12_readPlain_9 ⟨Nat.le_refl _, Nat.le_refl _⟩) hB.2.1 (fun v9 H9 locs hp hz hS => ?_)
        obtain ⟨x20, rfl, lx20, ux20, hI1, hf, hR, z9_0, z9_1, z9_2, z9_3⟩ := hp
        have hB := th_B_c hB hI1 hS hf (by decide)
        have fv_H9_18 : mo_f G H9 a0 18 = mo_f G H2 a0 18 := mo_f_F hf h0 (by decide) (by decide)
        have fv_H9_21 : mo_f G H9 a0 21 = mo_f G H2 a0 21 := mo_f_F hf h0 (by decide) (by decide)
        have vv_H9_15 : mo_v G H9 a0 15 = mo_v G H2 a0 15 := mo_v_F (r := 55) hB.1 hf h0 rfl ro_55 (by decide) (by decide)
        have wd_H9 := mo_wd_F hB.2.2 h0 (by decide) k3
        have cr_H9 : mo_rd G H9 a0 cv := mo_rd_F hB.1 hB.2.2 h0 (by decide) k1
        have zf9 := z9_3
        rw [tk_7] at zf9
        replace hF := hF.trans (congrArg (dv_k (f_X12_readPlain_2b d (dv_pre (fun _ _ _ => dv_z) f_X12_readTest d))) (dv_bn2 (zf9)))
        refine W.eq (g2 := F0 m 12 ls [.int x20]) rfl ?_
        have tk7 := tk_7
        refine lv_istore_n (lv' := [(2, .int x20), (0, .ref a0), (1, .int p1)]) hx hb dX12_readPlain_12 rfl hl (by decide) rfl (fun ls hl => ?_)
        refine lv_goto (tgt := 2) hx hb dX12_readPlain_13 (by decide) ?_
        replace hF := hF.trans (dv_kl)
        exact ih2 H9 locs ls x20 hB hR (lv_sub hl [1, 2, 0] rfl) hF (by omega) (by omega) (by rcases (show x20.toInt = 1 ∨ x20.toInt = 0 by omega) with q9 | q9; exact ⟨m2 + 1, by omega, by omega, by omega, mo_npre_s n2 (by omega), fun h9 => absurd h9 (by omega)⟩; exact ⟨m2, by omega, by omega, by omega, n2, fun _ h8 => by omega⟩) (by omega) (by omega)
  exact lp2 (2 * (mo_f G H0 a0 18 - mo_f G H0 a0 19) + (1) + 1).toNat H0 [] ls 1 hB hR (lv_sub hl [1, 2, 0] rfl) (by rw [tk_1]; exact hF) (by decide) (by decide) ⟨t, by omega, by omega, by omega, mo_npre_0, fun h9 => absurd h9 (by decide)⟩ (by have w0 := tk_1; omega) (by have w0 := tk_1; omega)

set_option maxHeartbeats 4000000 in
set_option maxRecDepth 100000 in
theorem c_X12_readBoth_s (d : Nat) (ihp : s_X12_readPlain d) : s_X12_readBoth d := by
  intro l G Γ H0 hI hR hU a0 h0 p1 f1 g1 o cv t k1 k2 k3 k4
  refine th_met RX12 (by decide) rfl (Nat.le_of_ble_eq_true rfl) ?_
  intro p e s m below meth c hC hH hr hlocks hnm ls hl
  have hx := hC.1
  have hb := hC.2.1
  have hB : th_B G Γ Γ [(46, 19), (46, 20), (46, 21)] H0 H0 [] := ⟨hI, va_S.rf, th_F_rf⟩
  have hl : lv_has ls 2 [(0, .ref a0), (1, .int p1)] := hl
  have lp1 := ti_lo p1; have up1 := ti_hi p1
  obtain ⟨F, hF0⟩ : ∃ F, F = f_X12_readBoth d (dv G Γ H0) ((a0 : Int)) (p1.toInt) := ⟨_, rfl⟩
  have hF := hF0.trans ((f_X12_readBoth_d d (dv G Γ H0) ((a0 : Int)) (p1.toInt)).trans (f_X12_readBoth_B.eq_1 d (f_X12_readPlain d) (dv G Γ H0) ((a0 : Int)) (p1.toInt)))
  refine lv_aload_n hx hb dX12_readBoth_0 rfl (lv_at hl 0 rfl) ?_
  refine lv_iload_n hx hb dX12_readBoth_1 rfl (lv_at hl 1 rfl) ?_
  refine th_call (th_runV (As := [.int p1]) (rest := []) hC mf_X12_readPlain km_X12_237 im_X12_readPlain se_X12_readPlain (ihp l G Γ H0 hB.1 hR hU a0 h0 p1 (by omega) (by omega) o cv t k1 ⟨by omega, by omega, by omega⟩ k3 (by omega)) rfl rfl ⟨by dsimp only; omega, by dsimp only; omega⟩ hB.1 h0 ro_46 rfl rfl hl.1 rfl (Nat.le_of_ble_eq_true rfl) dX12_readBoth_2 ⟨Nat.le_refl _, Nat.le_refl _⟩) hB.2.1 (fun v2 H2 locs hp hz hS => ?_)
  obtain ⟨rfl, hI1, hf, hR, z2_0, z2_1, z2_2⟩ := hp
  have hB := th_B_c hB hI1 hS hf (by decide)
  have fv_H2_18 : mo_f G H2 a0 18 = mo_f G H0 a0 18 := mo_f_F hf h0 (by decide) (by decide)
  have vv_H2_15 : mo_v G H2 a0 15 = mo_v G H0 a0 15 := mo_v_F (r := 55) hB.1 hf h0 rfl ro_55 (by decide) (by decide)
  have wd_H2 := mo_wd_F hB.2.2 h0 (by decide) k3
  have cr_H2 : mo_rd G H2 a0 cv := mo_rd_F hB.1 hB.2.2 h0 (by decide) k1
  replace hF := hF.trans (dv_bn2 (z2_2))
  refine W.eq (g2 := F0 m 5 ls []) rfl ?_
  have lp5 : ∀ (n5 : Nat) (H5 : Heap) (locs : List Loc) (ls : Array Slot) , th_B G Γ Γ [(46, 19), (46, 20), (46, 21)] H0 H5 locs → th_RC G Γ H5 → lv_has ls 2 [(0, .ref a0), (1, .int p1)] → F = dv_lp (f_X12_readBoth_5b d (f_X12_readPlain d)) (dv G Γ H5, (a0 : Int), p1.toInt) → (∃ m : Int, mo_f G H5 a0 19 = m ∧ t ≤ m ∧ m ≤ mo_f G H0 a0 18 ∧ (mo_f G H5 a0 21 = -1 → mo_f G H0 a0 21 = -1 ∧ mo_pre cv (mo_plain o cv d) (mo_is 6) t m)) → mo_f G H0 a0 18 - mo_f G H5 a0 19 + 1 ≤ (n5 : Int) → W p l e ({ frames := 45 + 3 * d, cells := 0, slots := 0, locals := 1323 + d * 100 } : Room) s m ([.ref a0, .int p1] : List Value).toArray below meth c H5 locs 0 0 (MQ below (th_Q (fun (v : Option Value) (H1 : Heap) => v = none ∧ th_I G Γ H1 ∧ th_F G Γ [(46, 19), (46, 20), (46, 21)] H0 H1 ∧ th_RC G Γ H1 ∧ (t ≤ mo_f G H1 a0 19 ∧ mo_f G H1 a0 19 ≤ mo_f G H0 a0 18) ∧ (mo_f G H1 a0 21 = -1 → mo_f G H0 a0 21 = -1 ∧ mo_both o cv d t (mo_f G H1 a0 19)) ∧ (f_X12_readBoth d (dv G Γ H0) (a0 : Int) p1.toInt = (dv G Γ H1, 0))) G) ([.ref a0, .int p1] : List Value).toArray s 0 0 (fun q => G.2.2 ≤ q)) (F0 m 5 ls []) := by
    intro n5
    induction n5 with
    | zero => intro H5 locs ls hB hR hl hF g5_0 hm5; exact absurd hm5 (by have := mo_lpr g5_0; omega)
    | succ n5 ih5 =>
      intro H5 locs ls hB hR hl hF g5_0 hm5
      have wd_H5 := mo_wd_F hB.2.2 h0 (by decide) k3
      have cr_H5 : mo_rd G H5 a0 cv := mo_rd_F hB.1 hB.2.2 h0 (by decide) k1
      have fv1_18 : mo_f G H5 a0 18 = mo_f G H0 a0 18 := mo_f_F hB.2.2 h0 (by decide) (by decide)
      have vw_H5_15 : mo_v G H5 a0 15 = mo_v G H0 a0 15 := mo_v_F (r := 55) hB.1 hB.2.2 h0 rfl ro_55 (by decide) (by decide)
      have hm5 : mo_f G H0 a0 18 - mo_f G H5 a0 19 + 1 ≤ (n5 : Int) + 1 := by omega
      replace hF := hF.trans (dv_lp_eq)
      replace hF := hF.trans (congrArg (dv_k (f_X12_readBoth_5b d (f_X12_readPlain d))) (f_X12_readBoth_5c.eq_1 d (f_X12_readPlain d) (dv G Γ H5) ((a0 : Int)) (p1.toInt)))
      refine lv_aload_n hx hb dX12_readBoth_5 rfl (lv_at hl 0 rfl) ?_
      obtain ⟨m5, a5, b5, c5, e5⟩ := g5_0
      refine lv_bipush (v := 6) hx hb dX12_readBoth_6 (by decide) ?_
      refine th_call (th_runV (As := [.int 6]) (rest := []) hC mf_X12_takes0 km_X12_199 im_X12_takes0 se_X12_takes0 (c_X12_takes0 l G Γ H5 hB.1 hR hU a0 h0 6 (by decide) cv m5 cr_H5 ⟨by omega, by omega, by omega⟩) rfl rfl ⟨by dsimp only; omega, by dsimp only; omega⟩ hB.1 h0 ro_46 rfl rfl hl.1 rfl (Nat.le_of_ble_eq_true rfl) dX12_readBoth_8 ⟨Nat.le_refl _, Nat.le_refl _⟩) hB.2.1 (fun v8 H8 locs hp hz hS => ?_)
      obtain ⟨x2, rfl, lx2, ux2, hI1, hf, hR, z8_0, z8_1, z8_2, z8_3⟩ := hp
      have hB := th_B_c hB hI1 hS hf (by decide)
      have fv_H8_18 : mo_f G H8 a0 18 = mo_f G H5 a0 18 := mo_f_F hf h0 (by decide) (by decide)
      have fv_H8_21 : mo_f G H8 a0 21 = mo_f G H5 a0 21 := mo_f_F hf h0 (by decide) (by decide)
      have vv_H8_15 : mo_v G H8 a0 15 = mo_v G H5 a0 15 := mo_v_F (r := 55) hB.1 hf h0 rfl ro_55 (by decide) (by decide)
      have wd_H8 := mo_wd_F hB.2.2 h0 (by decide) k3
      have cr_H8 : mo_rd G H8 a0 cv := mo_rd_F hB.1 hB.2.2 h0 (by decide) k1
      have zf8 := z8_3
      rw [tk_6] at zf8
      replace hF := hF.trans (congrArg (dv_k (f_X12_readBoth_5b d (f_X12_readPlain d))) (dv_bn2 (zf8)))
      refine W.eq (g2 := F0 m 11 ls [.int x2]) rfl ?_
      have tkw := tk_6
      refine tr_if_eq (tgt := 22) hx hb dX12_readBoth_11 (by decide) (Eq.refl _) (fun c11 => ?_) (fun c11 => ?_)
      · specialize z8_1 (by omega); clear z8_0
        replace hF := hF.trans (congrArg (dv_k (f_X12_readBoth_5b d (f_X12_readPlain d))) (if_pos c11))
        replace hF := hF.trans (dv_kr)
        exact th_vret hC hH hr hlocks hB.2.1 ⟨rfl, hB.1, hB.2.2, hR, ⟨by omega, by omega⟩, fun h9 => by obtain ⟨q1, q2⟩ := e5 (by omega); exact ⟨q1, by rw [show mo_f G H8 a0 19 = m5 by omega]; exact mo_pre_e q2 (show ¬ (cv m5 = 6) by omega)⟩, (hF0.symm.trans hF)⟩ dX12_readBoth_22
      · specialize z8_0 (by omega); clear z8_1
        replace hF := hF.trans (congrArg (dv_k (f_X12_readBoth_5b d (f_X12_readPlain d))) (if_neg c11))
        refine lv_aload_n hx hb dX12_readBoth_14 rfl (lv_at hl 0 rfl) ?_
        refine lv_iload_n hx hb dX12_readBoth_15 rfl (lv_at hl 1 rfl) ?_
        refine th_call (th_runV (As := [.int p1]) (rest := []) hC mf_X12_readPlain km_X12_237 im_X12_readPlain se_X12_readPlain (ihp l G Γ H8 hB.1 hR hU a0 h0 p1 (by omega) (by omega) o cv (m5 + 1) cr_H8 ⟨by omega, by omega, by omega⟩ wd_H8 (by omega)) rfl rfl ⟨by dsimp only; omega, by dsimp only; omega⟩ hB.1 h0 ro_46 rfl rfl hl.1 rfl (Nat.le_of_ble_eq_true rfl) dX12_readBoth_16 ⟨Nat.le_refl _, Nat.le_refl _⟩) hB.2.1 (fun v16 H16 locs hp hz hS => ?_)
        obtain ⟨rfl, hI1, hf, hR, z16_0, z16_1, z16_2⟩ := hp
        have hB := th_B_c hB hI1 hS hf (by decide)
        have fv_H16_18 : mo_f G H16 a0 18 = mo_f G H8 a0 18 := mo_f_F hf h0 (by decide) (by decide)
        have vv_H16_15 : mo_v G H16 a0 15 = mo_v G H8 a0 15 := mo_v_F (r := 55) hB.1 hf h0 rfl ro_55 (by decide) (by decide)
        have wd_H16 := mo_wd_F hB.2.2 h0 (by decide) k3
        have cr_H16 : mo_rd G H16 a0 cv := mo_rd_F hB.1 hB.2.2 h0 (by decide) k1
        replace hF := hF.trans (congrArg (dv_k (f_X12_readBoth_5b d (f_X12_readPlain d))) (dv_bn2 (z16_2)))
        refine W.eq (g2 := F0 m 19 ls []) rfl ?_
        refine lv_goto (tgt := 5) hx hb dX12_readBoth_19 (by decide) ?_
        replace hF := hF.trans (dv_kl)
        exact ih5 H16 locs ls hB hR (lv_sub hl [0, 1] rfl) hF ⟨_, rfl, by omega, by omega, fun h9 => by obtain ⟨q3, q4⟩ := z16_1 h9; obtain ⟨q1, q2⟩ := e5 (by omega); exact ⟨q1, mo_pre_s q2 (show cv m5 = 6 by omega) q4⟩⟩ (by omega)
  exact lp5 (mo_f G H0 a0 18 - mo_f G H2 a0 19 + 1).toNat H2 locs ls hB hR (lv_sub hl [0, 1] rfl) hF ⟨_, rfl, by omega, by omega, fun h9 => ⟨(z2_1 h9).1, mo_pre_0 (z2_1 h9).2⟩⟩ (by omega)

set_option maxHeartbeats 4000000 in
set_option maxRecDepth 100000 in
theorem c_X12_readTest_s (d : Nat) (ihp : s_X12_readBoth d) : s_X12_readTest d := by
  intro l G Γ H0 hI hR hU a0 h0 p1 f1 g1 o cv t k1 k2 k3 k4
  refine th_met RX12 (by decide) rfl (Nat.le_of_ble_eq_true rfl) ?_
  intro p e s m below meth c hC hH hr hlocks hnm ls hl
  have hx := hC.1
  have hb := hC.2.1
  have hB : th_B G Γ Γ [(46, 19), (46, 20), (46, 21)] H0 H0 [] := ⟨hI, va_S.rf, th_F_rf⟩
  have hl : lv_has ls 2 [(0, .ref a0), (1, .int p1)] := hl
  have lp1 := ti_lo p1; have up1 := ti_hi p1
  obtain ⟨F, hF0⟩ : ∃ F, F = f_X12_readTest d (dv G Γ H0) ((a0 : Int)) (p1.toInt) := ⟨_, rfl⟩
  have hF := hF0.trans ((f_X12_readTest_d d (dv G Γ H0) ((a0 : Int)) (p1.toInt)).trans (f_X12_readTest_B.eq_1 d (f_X12_readBoth d) (dv G Γ H0) ((a0 : Int)) (p1.toInt)))
  refine lv_aload_n hx hb dX12_readTest_0 rfl (lv_at hl 0 rfl) ?_
  refine lv_iload_n hx hb dX12_readTest_1 rfl (lv_at hl 1 rfl) ?_
  refine th_call (th_runV (As := [.int p1]) (rest := []) hC mf_X12_readBoth km_X12_234 im_X12_readBoth se_X12_readBoth (ihp l G Γ H0 hB.1 hR hU a0 h0 p1 (by omega) (by omega) o cv t k1 ⟨by omega, by omega, by omega⟩ k3 (by omega)) rfl rfl ⟨by dsimp only; omega, by dsimp only; omega⟩ hB.1 h0 ro_46 rfl rfl hl.1 rfl (Nat.le_of_ble_eq_true rfl) dX12_readTest_2 ⟨Nat.le_refl _, Nat.le_refl _⟩) hB.2.1 (fun v2 H2 locs hp hz hS => ?_)
  obtain ⟨rfl, hI1, hf, hR, z2_0, z2_1, z2_2⟩ := hp
  have hB := th_B_c hB hI1 hS hf (by decide)
  have fv_H2_18 : mo_f G H2 a0 18 = mo_f G H0 a0 18 := mo_f_F hf h0 (by decide) (by decide)
  have vv_H2_15 : mo_v G H2 a0 15 = mo_v G H0 a0 15 := mo_v_F (r := 55) hB.1 hf h0 rfl ro_55 (by decide) (by decide)
  have wd_H2 := mo_wd_F hB.2.2 h0 (by decide) k3
  have cr_H2 : mo_rd G H2 a0 cv := mo_rd_F hB.1 hB.2.2 h0 (by decide) k1
  replace hF := hF.trans (dv_bn2 (z2_2))
  refine W.eq (g2 := F0 m 5 ls []) rfl ?_
  have lp5 : ∀ (n5 : Nat) (H5 : Heap) (locs : List Loc) (ls : Array Slot) , th_B G Γ Γ [(46, 19), (46, 20), (46, 21)] H0 H5 locs → th_RC G Γ H5 → lv_has ls 2 [(0, .ref a0), (1, .int p1)] → F = dv_lp (f_X12_readTest_5b d (f_X12_readBoth d)) (dv G Γ H5, (a0 : Int), p1.toInt) → (∃ m : Int, mo_f G H5 a0 19 = m ∧ t ≤ m ∧ m ≤ mo_f G H0 a0 18 ∧ (mo_f G H5 a0 21 = -1 → mo_f G H0 a0 21 = -1 ∧ mo_pre cv (mo_both o cv d) (mo_is 5) t m)) → mo_f G H0 a0 18 - mo_f G H5 a0 19 + 1 ≤ (n5 : Int) → W p l e ({ frames := 46 + 3 * d, cells := 0, slots := 0, locals := 1344 + d * 100 } : Room) s m ([.ref a0, .int p1] : List Value).toArray below meth c H5 locs 0 0 (MQ below (th_Q (fun (v : Option Value) (H1 : Heap) => v = none ∧ th_I G Γ H1 ∧ th_F G Γ [(46, 19), (46, 20), (46, 21)] H0 H1 ∧ th_RC G Γ H1 ∧ (t ≤ mo_f G H1 a0 19 ∧ mo_f G H1 a0 19 ≤ mo_f G H0 a0 18) ∧ (mo_f G H1 a0 21 = -1 → mo_f G H0 a0 21 = -1 ∧ mo_test o cv d t (mo_f G H1 a0 19)) ∧ (f_X12_readTest d (dv G Γ H0) (a0 : Int) p1.toInt = (dv G Γ H1, 0))) G) ([.ref a0, .int p1] : List Value).toArray s 0 0 (fun q => G.2.2 ≤ q)) (F0 m 5 ls []) := by
    intro n5
    induction n5 with
    | zero => intro H5 locs ls hB hR hl hF g5_0 hm5; exact absurd hm5 (by have := mo_lpr g5_0; omega)
    | succ n5 ih5 =>
      intro H5 locs ls hB hR hl hF g5_0 hm5
      have wd_H5 := mo_wd_F hB.2.2 h0 (by decide) k3
      have cr_H5 : mo_rd G H5 a0 cv := mo_rd_F hB.1 hB.2.2 h0 (by decide) k1
      have fv1_18 : mo_f G H5 a0 18 = mo_f G H0 a0 18 := mo_f_F hB.2.2 h0 (by decide) (by decide)
      have vw_H5_15 : mo_v G H5 a0 15 = mo_v G H0 a0 15 := mo_v_F (r := 55) hB.1 hB.2.2 h0 rfl ro_55 (by decide) (by decide)
      have hm5 : mo_f G H0 a0 18 - mo_f G H5 a0 19 + 1 ≤ (n5 : Int) + 1 := by omega
      replace hF := hF.trans (dv_lp_eq)
      replace hF := hF.trans (congrArg (dv_k (f_X12_readTest_5b d (f_X12_readBoth d))) (f_X12_readTest_5c.eq_1 d (f_X12_readBoth d) (dv G Γ H5) ((a0 : Int)) (p1.toInt)))
      refine lv_aload_n hx hb dX12_readTest_5 rfl (lv_at hl 0 rfl) ?_
      obtain ⟨m5, a5, b5, c5, e5⟩ := g5_0
      refine lv_iconst (v := 5) hx hb dX12_readTest_6 (by decide) ?_
      refine th_call (th_runV (As := [.int 5]) (rest := []) hC mf_X12_takes0 km_X12_199 im_X12_takes0 se_X12_takes0 (c_X12_takes0 l G Γ H5 hB.1 hR hU a0 h0 5 (by decide) cv m5 cr_H5 ⟨by omega, by omega, by omega⟩) rfl rfl ⟨by dsimp only; omega, by dsimp only; omega⟩ hB.1 h0 ro_46 rfl rfl hl.1 rfl (Nat.le_of_ble_eq_true rfl) dX12_readTest_7 ⟨Nat.le_refl _, Nat.le_refl _⟩) hB.2.1 (fun v7 H7 locs hp hz hS => ?_)
      obtain ⟨x2, rfl, lx2, ux2, hI1, hf, hR, z7_0, z7_1, z7_2, z7_3⟩ := hp
      have hB := th_B_c hB hI1 hS hf (by decide)
      have fv_H7_18 : mo_f G H7 a0 18 = mo_f G H5 a0 18 := mo_f_F hf h0 (by decide) (by decide)
      have fv_H7_21 : mo_f G H7 a0 21 = mo_f G H5 a0 21 := mo_f_F hf h0 (by decide) (by decide)
      have vv_H7_15 : mo_v G H7 a0 15 = mo_v G H5 a0 15 := mo_v_F (r := 55) hB.1 hf h0 rfl ro_55 (by decide) (by decide)
      have wd_H7 := mo_wd_F hB.2.2 h0 (by decide) k3
      have cr_H7 : mo_rd G H7 a0 cv := mo_rd_F hB.1 hB.2.2 h0 (by decide) k1
      have zf7 := z7_3
      rw [tk_5] at zf7
      replace hF := hF.trans (congrArg (dv_k (f_X12_readTest_5b d (f_X12_readBoth d))) (dv_bn2 (zf7)))
      refine W.eq (g2 := F0 m 10 ls [.int x2]) rfl ?_
      have tkw := tk_5
      refine tr_if_eq (tgt := 21) hx hb dX12_readTest_10 (by decide) (Eq.refl _) (fun c10 => ?_) (fun c10 => ?_)
      · specialize z7_1 (by omega); clear z7_0
        replace hF := hF.trans (congrArg (dv_k (f_X12_readTest_5b d (f_X12_readBoth d))) (if_pos c10))
        replace hF := hF.trans (dv_kr)
        exact th_vret hC hH hr hlocks hB.2.1 ⟨rfl, hB.1, hB.2.2, hR, ⟨by omega, by omega⟩, fun h9 => by obtain ⟨q1, q2⟩ := e5 (by omega); exact ⟨q1, by rw [show mo_f G H7 a0 19 = m5 by omega]; exact mo_pre_e q2 (show ¬ (cv m5 = 5) by omega)⟩, (hF0.symm.trans hF)⟩ dX12_readTest_21
      · specialize z7_0 (by omega); clear z7_1
        replace hF := hF.trans (congrArg (dv_k (f_X12_readTest_5b d (f_X12_readBoth d))) (if_neg c10))
        refine lv_aload_n hx hb dX12_readTest_13 rfl (lv_at hl 0 rfl) ?_
        refine lv_iload_n hx hb dX12_readTest_14 rfl (lv_at hl 1 rfl) ?_
        refine th_call (th_runV (As := [.int p1]) (rest := []) hC mf_X12_readBoth km_X12_234 im_X12_readBoth se_X12_readBoth (ihp l G Γ H7 hB.1 hR hU a0 h0 p1 (by omega) (by omega) o cv (m5 + 1) cr_H7 ⟨by omega, by omega, by omega⟩ wd_H7 (by omega)) rfl rfl ⟨by dsimp only; omega, by dsimp only; omega⟩ hB.1 h0 ro_46 rfl rfl hl.1 rfl (Nat.le_of_ble_eq_true rfl) dX12_readTest_15 ⟨Nat.le_refl _, Nat.le_refl _⟩) hB.2.1 (fun v15 H15 locs hp hz hS => ?_)
        obtain ⟨rfl, hI1, hf, hR, z15_0, z15_1, z15_2⟩ := hp
        have hB := th_B_c hB hI1 hS hf (by decide)
        have fv_H15_18 : mo_f G H15 a0 18 = mo_f G H7 a0 18 := mo_f_F hf h0 (by decide) (by decide)
        have vv_H15_15 : mo_v G H15 a0 15 = mo_v G H7 a0 15 := mo_v_F (r := 55) hB.1 hf h0 rfl ro_55 (by decide) (by decide)
        have wd_H15 := mo_wd_F hB.2.2 h0 (by decide) k3
        have cr_H15 : mo_rd G H15 a0 cv := mo_rd_F hB.1 hB.2.2 h0 (by decide) k1
        replace hF := hF.trans (congrArg (dv_k (f_X12_readTest_5b d (f_X12_readBoth d))) (dv_bn2 (z15_2)))
        refine W.eq (g2 := F0 m 18 ls []) rfl ?_
        refine lv_goto (tgt := 5) hx hb dX12_readTest_18 (by decide) ?_
        replace hF := hF.trans (dv_kl)
        exact ih5 H15 locs ls hB hR (lv_sub hl [0, 1] rfl) hF ⟨_, rfl, by omega, by omega, fun h9 => by obtain ⟨q3, q4⟩ := z15_1 h9; obtain ⟨q1, q2⟩ := e5 (by omega); exact ⟨q1, mo_pre_s q2 (show cv m5 = 5 by omega) q4⟩⟩ (by omega)
  exact lp5 (mo_f G H0 a0 18 - mo_f G H2 a0 19 + 1).toNat H2 locs ls hB hR (lv_sub hl [0, 1] rfl) hF ⟨_, rfl, by omega, by omega, fun h9 => ⟨(z2_1 h9).1, mo_pre_0 (z2_1 h9).2⟩⟩ (by omega)

theorem c_X12_readTest_d (d : Nat) : s_X12_readTest d := by
  induction d with
  | zero => exact (c_X12_readTest_s 0 (c_X12_readBoth_s 0 (c_X12_readPlain_s 0 (fun d' h => absurd h (by omega)))))
  | succ d ih => exact (c_X12_readTest_s (d + 1) (c_X12_readBoth_s (d + 1) (c_X12_readPlain_s (d + 1) (fun d' h => by cases h; exact ih))))
theorem c_X12_readPlain_d (d : Nat) : s_X12_readPlain d := c_X12_readPlain_s d (fun d' _ => c_X12_readTest_d d')
theorem c_X12_readBoth_d (d : Nat) : s_X12_readBoth d := c_X12_readBoth_s d (c_X12_readPlain_d d)
