def s_X12_readPart (d : Nat) : Prop := ∀ (l : Launch) (G : th_G) (Γ : th_Ga) (H0 : Heap) (hI : th_I G Γ H0) (hR : th_RC G Γ H0) (hU : dv_U Γ) (a0 : Nat) (h0 : Γ a0 = (46, 0)) (p1 : Int32) (f1 : 0 ≤ p1.toInt) (g1 : p1.toInt ≤ 8) (o : Int) (cv : Int → Int) (t : Int) (k1 : mo_rd G H0 a0 cv) (k2 : mo_f G H0 a0 19 = t ∧ 0 ≤ t ∧ t ≤ mo_f G H0 a0 18) (k3 : mo_wd G H0 a0 o) (k4 : p1.toInt + (d : Int) = 8), Met l yX12_readPart (.code yX12_readPart cX12_readPart 3 (none) :: th_tb) ({ frames := 12 + 3 * d, cells := 0, slots := 0, locals := 400 + d * 80 } : Room) (th_P [.ref a0, .int p1] G H0) (th_Q (fun (v : Option Value) (H1 : Heap) => v = none ∧ th_I G Γ H1 ∧ th_F G Γ [(46, 19), (46, 20), (46, 21)] H0 H1 ∧ th_RC G Γ H1 ∧ (t ≤ mo_f G H1 a0 19 ∧ mo_f G H1 a0 19 ≤ mo_f G H0 a0 18) ∧ (mo_f G H1 a0 21 = -1 → mo_f G H0 a0 21 = -1 ∧ mo_part o cv d t (mo_f G H1 a0 19)) ∧ (f_X12_readPart d (dv G Γ H0) (a0 : Int) p1.toInt = (dv G Γ H1, 0))) G) 0 0 (fun q => G.2.2 ≤ q)

def s_X12_readTerm (d : Nat) : Prop := ∀ (l : Launch) (G : th_G) (Γ : th_Ga) (H0 : Heap) (hI : th_I G Γ H0) (hR : th_RC G Γ H0) (hU : dv_U Γ) (a0 : Nat) (h0 : Γ a0 = (46, 0)) (p1 : Int32) (f1 : 0 ≤ p1.toInt) (g1 : p1.toInt ≤ 8) (o : Int) (cv : Int → Int) (t : Int) (k1 : mo_rd G H0 a0 cv) (k2 : mo_f G H0 a0 19 = t ∧ 0 ≤ t ∧ t ≤ mo_f G H0 a0 18) (k3 : mo_wd G H0 a0 o) (k4 : p1.toInt + (d : Int) = 8), Met l yX12_readTerm (.code yX12_readTerm cX12_readTerm 2 (none) :: th_tb) ({ frames := 13 + 3 * d, cells := 0, slots := 0, locals := 422 + d * 80 } : Room) (th_P [.ref a0, .int p1] G H0) (th_Q (fun (v : Option Value) (H1 : Heap) => v = none ∧ th_I G Γ H1 ∧ th_F G Γ [(46, 19), (46, 20), (46, 21)] H0 H1 ∧ th_RC G Γ H1 ∧ (t ≤ mo_f G H1 a0 19 ∧ mo_f G H1 a0 19 ≤ mo_f G H0 a0 18) ∧ (mo_f G H1 a0 21 = -1 → mo_f G H0 a0 21 = -1 ∧ mo_term o cv d t (mo_f G H1 a0 19)) ∧ (f_X12_readTerm d (dv G Γ H0) (a0 : Int) p1.toInt = (dv G Γ H1, 0))) G) 0 0 (fun q => G.2.2 ≤ q)

def s_X12_readSum (d : Nat) : Prop := ∀ (l : Launch) (G : th_G) (Γ : th_Ga) (H0 : Heap) (hI : th_I G Γ H0) (hR : th_RC G Γ H0) (hU : dv_U Γ) (a0 : Nat) (h0 : Γ a0 = (46, 0)) (p1 : Int32) (f1 : 0 ≤ p1.toInt) (g1 : p1.toInt ≤ 8) (o : Int) (cv : Int → Int) (t : Int) (k1 : mo_rd G H0 a0 cv) (k2 : mo_f G H0 a0 19 = t ∧ 0 ≤ t ∧ t ≤ mo_f G H0 a0 18) (k3 : mo_wd G H0 a0 o) (k4 : p1.toInt + (d : Int) = 8), Met l yX12_readSum (.code yX12_readSum cX12_readSum 2 (none) :: th_tb) ({ frames := 14 + 3 * d, cells := 0, slots := 0, locals := 443 + d * 80 } : Room) (th_P [.ref a0, .int p1] G H0) (th_Q (fun (v : Option Value) (H1 : Heap) => v = none ∧ th_I G Γ H1 ∧ th_F G Γ [(46, 19), (46, 20), (46, 21)] H0 H1 ∧ th_RC G Γ H1 ∧ (t ≤ mo_f G H1 a0 19 ∧ mo_f G H1 a0 19 ≤ mo_f G H0 a0 18) ∧ (mo_f G H1 a0 21 = -1 → mo_f G H0 a0 21 = -1 ∧ mo_sum o cv d t (mo_f G H1 a0 19)) ∧ (f_X12_readSum d (dv G Γ H0) (a0 : Int) p1.toInt = (dv G Γ H1, 0))) G) 0 0 (fun q => G.2.2 ≤ q)

set_option maxHeartbeats 4000000 in
set_option maxRecDepth 100000 in
theorem c_X12_readPart_s (d : Nat) (ihd : ∀ d', d = d' + 1 → s_X12_readSum d') : s_X12_readPart d := by
  intro l G Γ H0 hI hR hU a0 h0 p1 f1 g1 o cv t k1 k2 k3 k4
  refine th_met RX12 (by decide) rfl (Nat.le_of_ble_eq_true rfl) ?_
  intro p e s m below meth c hC hH hr hlocks hnm ls hl
  have hx := hC.1
  have hb := hC.2.1
  have hB : th_B G Γ Γ [(46, 19), (46, 20), (46, 21)] H0 H0 [] := ⟨hI, va_S.rf, th_F_rf⟩
  have hl : lv_has ls 3 [(0, .ref a0), (1, .int p1)] := hl
  have lp1 := ti_lo p1; have up1 := ti_hi p1
  obtain ⟨F, hF0⟩ : ∃ F, F = f_X12_readPart d (dv G Γ H0) ((a0 : Int)) (p1.toInt) := ⟨_, rfl⟩
  have hF := hF0.trans ((f_X12_readPart_d d (dv G Γ H0) ((a0 : Int)) (p1.toInt)).trans (f_X12_readPart_B.eq_1 d (dv_pre (fun _ _ _ => dv_z) f_X12_readSum d) (dv G Γ H0) ((a0 : Int)) (p1.toInt)))
  refine lv_aload_n hx hb dX12_readPart_0 rfl (lv_at hl 0 rfl) ?_
  have k3u := k3
  unfold mo_wd at k3u
  refine th_call (th_runV (As := []) (rest := []) hC mf_X12_fine km_X12_192 im_X12_fine se_X12_fine (c_X12_fine l G Γ H0 hB.1 hU a0 h0) rfl rfl ⟨by dsimp only; omega, by dsimp only; omega⟩ hB.1 h0 ro_46 rfl rfl hl.1 rfl (Nat.le_of_ble_eq_true rfl) dX12_readPart_1 ⟨Nat.le_refl _, Nat.le_refl _⟩) hB.2.1 (fun v1 H1 locs hp hz hS => ?_)
  obtain ⟨x1, rfl, lx1, ux1, q1_0, q1_1, q1_2, rfl⟩ := hp
  have hB := th_B_s hB hS
  replace hF := hF.trans (dv_bn2 (q1_2))
  refine W.eq (g2 := F0 m 4 ls [.int x1]) rfl ?_
  refine tr_if_ne (tgt := 8) hx hb dX12_readPart_4 (by decide) (Eq.refl _) (fun c4 => ?_) (fun c4 => ?_)
  · specialize q1_0 (by omega); clear q1_1
    replace hF := hF.trans (if_pos c4)
    refine lv_aload_n hx hb dX12_readPart_8 rfl (lv_at hl 0 rfl) ?_
    refine th_getO (j := 15) (r2 := 55) hC cf_X12 hB.1 h0 ro_46 rfl rfl kf_X12_54 dX12_readPart_9 (fun b2 mb2 hb2 => ?_)
    refine lv_aload_n hx hb dX12_readPart_12 rfl (lv_at hl 0 rfl) ?_
    refine th_getI (j := 19) hC cf_X12 hB.1 h0 ro_46 rfl rfl kf_X12_196 dX12_readPart_13 (fun x3 mx3 lx3 ux3 => ?_)
    replace hF := hF.trans (dv_bn (dv_getI h0 ro_46 (j := 19) rfl mx3 (by decide)))
    have fg4 : mo_f G H0 a0 19 = x3.toInt := mo_fat mx3
    refine th_ialdF hC hB.1 hb2 ro_55 rfl (Eq.refl _) (by omega) (by omega) rfl dX12_readPart_16 (fun x5 mx5 lx5 ux5 => ?_)
    replace hF := hF.trans (dv_bn (dv_aldI hB.1 hU hb2 ow_55 (z := x3.toInt) mx5 (by omega)))
    have vgx5 : mo_v G H0 a0 15 x3.toInt = x5.toInt := by rw [show (x3.toInt : Int) = x3.toInt by omega]; exact mo_vat mb2 mx5 (by omega)
    have rc16 : cv t = x5.toInt := by have q9 := mo_rd_at k1 vgx5 (by omega) (by omega); rw [← q9]; congr 1; omega
    refine lv_istore_n (lv' := [(2, .int x5), (0, .ref a0), (1, .int p1)]) hx hb dX12_readPart_17 rfl hl (by decide) rfl (fun ls hl => ?_)
    refine lv_iload_n hx hb dX12_readPart_18 rfl (lv_at hl 0 rfl) ?_
    refine lv_bipush (v := 91) hx hb dX12_readPart_19 (by decide) ?_
    refine th_call (th_runS (As := [.int 91]) (rest := [.int x5]) hC mf_X12_sign km_X12_240 st_X12_sign (c_X12_sign l G Γ H0 hB.1 hU 91 (by decide) (by decide)) rfl rfl ⟨by dsimp only; omega, by dsimp only; omega⟩ rfl hl.1 rfl (Nat.le_of_ble_eq_true rfl) dX12_readPart_21 ⟨Nat.le_refl _, Nat.le_refl _⟩) hB.2.1 (fun v21 H21 locs hp hz hS => ?_)
    obtain ⟨x6, rfl, lx6, ux6, q21_0, q21_1, rfl⟩ := hp
    have hB := th_B_s hB hS
    have w21_0 := tk_91
    have zf21 := q21_1
    rw [tk_91] at zf21
    replace hF := hF.trans (dv_bn2 (zf21))
    refine W.eq (g2 := F0 m 24 ls [.int x6, .int x5]) rfl ?_
    refine tr_icmp_ne (tgt := 74) hx hb dX12_readPart_24 (by decide) (Eq.refl _) (Eq.refl _) (fun c24 => ?_) (fun c24 => ?_)
    · replace hF := hF.trans (if_pos c24)
      refine lv_iload_n hx hb dX12_readPart_74 rfl (lv_at hl 0 rfl) ?_
      refine lv_bipush (v := 50) hx hb dX12_readPart_75 (by decide) ?_
      have jn111 : ∀ (locs : List Loc) (ls : Array Slot) , th_B G Γ Γ [(46, 19), (46, 20), (46, 21)] H0 H0 locs → lv_has ls 3 [(2, .int x5), (0, .ref a0)] → F = f_X12_readPart_111 d (dv_pre (fun _ _ _ => dv_z) f_X12_readSum d) (dv G Γ H0) (x5.toInt) ((a0 : Int)) → x5.toInt = 50 ∨ (mo_f G H0 a0 8 ≤ x5.toInt ∧ x5.toInt ≤ mo_f G H0 a0 9) → W p l e ({ frames := 12 + 3 * d, cells := 0, slots := 0, locals := 400 + d * 80 } : Room) s m ([.ref a0, .int p1] : List Value).toArray below meth c H0 locs 0 0 (MQ below (th_Q (fun (v : Option Value) (H1 : Heap) => v = none ∧ th_I G Γ H1 ∧ th_F G Γ [(46, 19), (46, 20), (46, 21)] H0 H1 ∧ th_RC G Γ H1 ∧ (t ≤ mo_f G H1 a0 19 ∧ mo_f G H1 a0 19 ≤ mo_f G H0 a0 18) ∧ (mo_f G H1 a0 21 = -1 → mo_f G H0 a0 21 = -1 ∧ mo_part o cv d t (mo_f G H1 a0 19)) ∧ (f_X12_readPart d (dv G Γ H0) (a0 : Int) p1.toInt = (dv G Γ H1, 0))) G) ([.ref a0, .int p1] : List Value).toArray s 0 0 (fun q => G.2.2 ≤ q)) (F0 m 111 ls []) := by
        intro locs ls hB hl hF g111_0
        replace hF := hF.trans (f_X12_readPart_111.eq_1 d (dv_pre (fun _ _ _ => dv_z) f_X12_readSum d) (dv G Γ H0) (x5.toInt) ((a0 : Int)))
        refine lv_aload_n hx hb dX12_readPart_111 rfl (lv_at hl 1 rfl) ?_
        refine th_call (th_runV (As := []) (rest := []) hC mf_X12_leaf km_X12_256 im_X12_leaf se_X12_leaf (c_X12_leaf l G Γ H0 hB.1 hR hU a0 h0 cv t k1 ⟨by omega, by omega, by omega⟩ (by omega)) rfl rfl ⟨by dsimp only; omega, by dsimp only; omega⟩ hB.1 h0 ro_46 rfl rfl hl.1 rfl (Nat.le_of_ble_eq_true rfl) dX12_readPart_112 ⟨Nat.le_refl _, Nat.le_refl _⟩) hB.2.1 (fun v112 H112 locs hp hz hS => ?_)
        obtain ⟨rfl, hI1, hf, hR, z112_0, z112_1, z112_2⟩ := hp
        have hB := th_B_c hB hI1 hS hf (by decide)
        have fv_H112_8 : mo_f G H112 a0 8 = mo_f G H0 a0 8 := mo_f_F hf h0 (by decide) (by decide)
        have fv_H112_9 : mo_f G H112 a0 9 = mo_f G H0 a0 9 := mo_f_F hf h0 (by decide) (by decide)
        have fv_H112_10 : mo_f G H112 a0 10 = mo_f G H0 a0 10 := mo_f_F hf h0 (by decide) (by decide)
        have fv_H112_18 : mo_f G H112 a0 18 = mo_f G H0 a0 18 := mo_f_F hf h0 (by decide) (by decide)
        have vv_H112_15 : mo_v G H112 a0 15 = mo_v G H0 a0 15 := mo_v_F (r := 55) hB.1 hf h0 rfl ro_55 (by decide) (by decide)
        have wd_H112 := mo_wd_F hB.2.2 h0 (by decide) k3
        have cr_H112 : mo_rd G H112 a0 cv := mo_rd_F hB.1 hB.2.2 h0 (by decide) k1
        replace hF := hF.trans (dv_bn2 (z112_2))
        refine W.eq (g2 := F0 m 115 ls []) rfl ?_
        refine lv_aload_n hx hb dX12_readPart_115 rfl (lv_at hl 1 rfl) ?_
        refine th_getI (j := 10) hC cf_X12 hB.1 h0 ro_46 rfl rfl kf_X12_224 dX12_readPart_116 (fun x7 mx7 lx7 ux7 => ?_)
        replace hF := hF.trans (dv_bn (dv_getI h0 ro_46 (j := 10) rfl mx7 (by decide)))
        have fg8 : mo_f G H112 a0 10 = x7.toInt := mo_fat mx7
        refine tr_if_eq (tgt := 148) hx hb dX12_readPart_119 (by decide) (Eq.refl _) (fun c119 => ?_) (fun c119 => ?_)
        · replace hF := hF.trans (if_pos c119)
          exact th_vret hC hH hr hlocks hB.2.1 ⟨rfl, hB.1, hB.2.2, hR, ⟨by omega, by omega⟩, fun h9 => by obtain ⟨q4, q5⟩ := z112_1 h9; exact ⟨by omega, mo_part_l (by unfold mo_leaf; omega)⟩, (hF0.symm.trans hF)⟩ dX12_readPart_148
        · replace hF := hF.trans (if_neg c119)
          refine lv_iload_n hx hb dX12_readPart_122 rfl (lv_at hl 0 rfl) ?_
          refine lv_bipush (v := 14) hx hb dX12_readPart_123 (by decide) ?_
          have jn134 : ∀ (locs : List Loc) (ls : Array Slot) , th_B G Γ Γ [(46, 19), (46, 20), (46, 21)] H0 H112 locs → lv_has ls 3 [(0, .ref a0)] → F = f_X12_readPart_134 d (dv_pre (fun _ _ _ => dv_z) f_X12_readSum d) (dv G Γ H112) ((a0 : Int)) → cv t = 14 ∨ cv t = 20 → W p l e ({ frames := 12 + 3 * d, cells := 0, slots := 0, locals := 400 + d * 80 } : Room) s m ([.ref a0, .int p1] : List Value).toArray below meth c H112 locs 0 0 (MQ below (th_Q (fun (v : Option Value) (H1 : Heap) => v = none ∧ th_I G Γ H1 ∧ th_F G Γ [(46, 19), (46, 20), (46, 21)] H0 H1 ∧ th_RC G Γ H1 ∧ (t ≤ mo_f G H1 a0 19 ∧ mo_f G H1 a0 19 ≤ mo_f G H0 a0 18) ∧ (mo_f G H1 a0 21 = -1 → mo_f G H0 a0 21 = -1 ∧ mo_part o cv d t (mo_f G H1 a0 19)) ∧ (f_X12_readPart d (dv G Γ H0) (a0 : Int) p1.toInt = (dv G Γ H1, 0))) G) ([.ref a0, .int p1] : List Value).toArray s 0 0 (fun q => G.2.2 ≤ q)) (F0 m 134 ls []) := by
            intro locs ls hB hl hF g134_0
            replace hF := hF.trans (f_X12_readPart_134.eq_1 d (dv_pre (fun _ _ _ => dv_z) f_X12_readSum d) (dv G Γ H112) ((a0 : Int)))
            refine lv_aload_n hx hb dX12_readPart_134 rfl (lv_at hl 0 rfl) ?_
            refine lv_iconst (v := 0) hx hb dX12_readPart_135 (by decide) ?_
            refine lv_bipush (v := 8) hx hb dX12_readPart_136 (by decide) ?_
            refine th_call (th_runV (As := [.int 0, .int 8]) (rest := []) hC mf_X12_mustNumber km_X12_220 im_X12_mustNumber se_X12_mustNumber (c_X12_mustNumber l G Γ H112 hB.1 hR hU a0 h0 0 8 cv (mo_f G H112 a0 19) cr_H112 ⟨by omega, by omega, by omega⟩) rfl rfl ⟨by dsimp only; omega, by dsimp only; omega⟩ hB.1 h0 ro_46 rfl rfl hl.1 rfl (Nat.le_of_ble_eq_true rfl) dX12_readPart_138 ⟨Nat.le_refl _, Nat.le_refl _⟩) hB.2.1 (fun v138 H138 locs hp hz hS => ?_)
            obtain ⟨rfl, hI1, hf, hR, z138_0, z138_1, z138_2⟩ := hp
            have hB := th_B_c hB hI1 hS hf (by decide)
            have fv_H138_8 : mo_f G H138 a0 8 = mo_f G H112 a0 8 := mo_f_F hf h0 (by decide) (by decide)
            have fv_H138_9 : mo_f G H138 a0 9 = mo_f G H112 a0 9 := mo_f_F hf h0 (by decide) (by decide)
            have fv_H138_10 : mo_f G H138 a0 10 = mo_f G H112 a0 10 := mo_f_F hf h0 (by decide) (by decide)
            have fv_H138_18 : mo_f G H138 a0 18 = mo_f G H112 a0 18 := mo_f_F hf h0 (by decide) (by decide)
            have vv_H138_15 : mo_v G H138 a0 15 = mo_v G H112 a0 15 := mo_v_F (r := 55) hB.1 hf h0 rfl ro_55 (by decide) (by decide)
            have wd_H138 := mo_wd_F hB.2.2 h0 (by decide) k3
            have cr_H138 : mo_rd G H138 a0 cv := mo_rd_F hB.1 hB.2.2 h0 (by decide) k1
            have zf138 := z138_2
            rw [tk_0, tk_8] at zf138
            replace hF := hF.trans (dv_bn2 (zf138))
            refine W.eq (g2 := F0 m 141 ls []) rfl ?_
            refine lv_goto (tgt := 148) hx hb dX12_readPart_141 (by decide) ?_
            exact th_vret hC hH hr hlocks hB.2.1 ⟨rfl, hB.1, hB.2.2, hR, ⟨by omega, by omega⟩, fun h9 => by obtain ⟨q1, q2, q3⟩ := z138_1 h9; obtain ⟨q4, q5⟩ := z112_1 q1; rw [q5] at q2; exact ⟨by omega, mo_part_l (by unfold mo_leaf; omega)⟩, (hF0.symm.trans hF)⟩ dX12_readPart_148
          refine tr_icmp_eq (tgt := 134) hx hb dX12_readPart_125 (by decide) (Eq.refl _) tk_14 (fun c125 => ?_) (fun c125 => ?_)
          · replace hF := hF.trans (if_pos c125)
            exact jn134 locs ls hB (lv_sub hl [1] rfl) hF (by omega)
          · replace hF := hF.trans (if_neg c125)
            refine lv_iload_n hx hb dX12_readPart_128 rfl (lv_at hl 0 rfl) ?_
            refine lv_bipush (v := 20) hx hb dX12_readPart_129 (by decide) ?_
            refine tr_icmp_ne (tgt := 148) hx hb dX12_readPart_131 (by decide) (Eq.refl _) tk_20 (fun c131 => ?_) (fun c131 => ?_)
            · replace hF := hF.trans (if_pos c131)
              exact th_vret hC hH hr hlocks hB.2.1 ⟨rfl, hB.1, hB.2.2, hR, ⟨by omega, by omega⟩, fun h9 => by obtain ⟨q4, q5⟩ := z112_1 h9; exact ⟨by omega, mo_part_l (by unfold mo_leaf; omega)⟩, (hF0.symm.trans hF)⟩ dX12_readPart_148
            · replace hF := hF.trans (if_neg (not_not_intro c131))
              exact jn134 locs ls hB (lv_sub hl [1] rfl) hF (by omega)
      have jn95 : ∀ (locs : List Loc) (ls : Array Slot) , th_B G Γ Γ [(46, 19), (46, 20), (46, 21)] H0 H0 locs → lv_has ls 3 [(2, .int x5), (0, .ref a0)] → F = f_X12_readPart_95 d (dv_pre (fun _ _ _ => dv_z) f_X12_readSum d) (dv G Γ H0) (x5.toInt) ((a0 : Int)) → W p l e ({ frames := 12 + 3 * d, cells := 0, slots := 0, locals := 400 + d * 80 } : Room) s m ([.ref a0, .int p1] : List Value).toArray below meth c H0 locs 0 0 (MQ below (th_Q (fun (v : Option Value) (H1 : Heap) => v = none ∧ th_I G Γ H1 ∧ th_F G Γ [(46, 19), (46, 20), (46, 21)] H0 H1 ∧ th_RC G Γ H1 ∧ (t ≤ mo_f G H1 a0 19 ∧ mo_f G H1 a0 19 ≤ mo_f G H0 a0 18) ∧ (mo_f G H1 a0 21 = -1 → mo_f G H0 a0 21 = -1 ∧ mo_part o cv d t (mo_f G H1 a0 19)) ∧ (f_X12_readPart d (dv G Γ H0) (a0 : Int) p1.toInt = (dv G Γ H1, 0))) G) ([.ref a0, .int p1] : List Value).toArray s 0 0 (fun q => G.2.2 ≤ q)) (F0 m 95 ls []) := by
        intro locs ls hB hl hF
        replace hF := hF.trans (f_X12_readPart_95.eq_1 d (dv_pre (fun _ _ _ => dv_z) f_X12_readSum d) (dv G Γ H0) (x5.toInt) ((a0 : Int)))
        refine lv_iload_n hx hb dX12_readPart_95 rfl (lv_at hl 0 rfl) ?_
        refine lv_aload_n hx hb dX12_readPart_96 rfl (lv_at hl 1 rfl) ?_
        refine th_getI (j := 8) hC cf_X12 hB.1 h0 ro_46 rfl rfl kf_X12_250 dX12_readPart_97 (fun x9 mx9 lx9 ux9 => ?_)
        replace hF := hF.trans (dv_bn (dv_getI h0 ro_46 (j := 8) rfl mx9 (by decide)))
        have fg10 : mo_f G H0 a0 8 = x9.toInt := mo_fat mx9
        have jn144 : ∀ (locs : List Loc) (ls : Array Slot) , th_B G Γ Γ [(46, 19), (46, 20), (46, 21)] H0 H0 locs → lv_has ls 3 [(0, .ref a0)] → F = f_X12_readPart_144 d (dv_pre (fun _ _ _ => dv_z) f_X12_readSum d) (dv G Γ H0) ((a0 : Int)) → W p l e ({ frames := 12 + 3 * d, cells := 0, slots := 0, locals := 400 + d * 80 } : Room) s m ([.ref a0, .int p1] : List Value).toArray below meth c H0 locs 0 0 (MQ below (th_Q (fun (v : Option Value) (H1 : Heap) => v = none ∧ th_I G Γ H1 ∧ th_F G Γ [(46, 19), (46, 20), (46, 21)] H0 H1 ∧ th_RC G Γ H1 ∧ (t ≤ mo_f G H1 a0 19 ∧ mo_f G H1 a0 19 ≤ mo_f G H0 a0 18) ∧ (mo_f G H1 a0 21 = -1 → mo_f G H0 a0 21 = -1 ∧ mo_part o cv d t (mo_f G H1 a0 19)) ∧ (f_X12_readPart d (dv G Γ H0) (a0 : Int) p1.toInt = (dv G Γ H1, 0))) G) ([.ref a0, .int p1] : List Value).toArray s 0 0 (fun q => G.2.2 ≤ q)) (F0 m 144 ls []) := by
          intro locs ls hB hl hF
          replace hF := hF.trans (f_X12_readPart_144.eq_1 d (dv_pre (fun _ _ _ => dv_z) f_X12_readSum d) (dv G Γ H0) ((a0 : Int)))
          refine lv_aload_n hx hb dX12_readPart_144 rfl (lv_at hl 0 rfl) ?_
          refine th_call (th_runV (As := []) (rest := []) hC mf_X12_faults km_X12_202 im_X12_faults se_X12_faults (c_X12_faults l G Γ H0 hB.1 hR hU a0 h0) rfl rfl ⟨by dsimp only; omega, by dsimp only; omega⟩ hB.1 h0 ro_46 rfl rfl hl.1 rfl (Nat.le_of_ble_eq_true rfl) dX12_readPart_145 ⟨Nat.le_refl _, Nat.le_refl _⟩) hB.2.1 (fun v145 H145 locs hp hz hS => ?_)
          obtain ⟨rfl, hI1, hf, hR, z145_0, z145_1⟩ := hp
          have hB := th_B_c hB hI1 hS hf (by decide)
          have mm11 := (th_F_o hf h0 ro_46 (j := 19) (by decide) (by decide)).trans mx3
          have fv_H145_8 : mo_f G H145 a0 8 = mo_f G H0 a0 8 := mo_f_F hf h0 (by decide) (by decide)
          have fv_H145_9 : mo_f G H145 a0 9 = mo_f G H0 a0 9 := mo_f_F hf h0 (by decide) (by decide)
          have fv_H145_10 : mo_f G H145 a0 10 = mo_f G H0 a0 10 := mo_f_F hf h0 (by decide) (by decide)
          have fv_H145_18 : mo_f G H145 a0 18 = mo_f G H0 a0 18 := mo_f_F hf h0 (by decide) (by decide)
          have fv_H145_19 : mo_f G H145 a0 19 = mo_f G H0 a0 19 := mo_f_F hf h0 (by decide) (by decide)
          have vv_H145_15 : mo_v G H145 a0 15 = mo_v G H0 a0 15 := mo_v_F (r := 55) hB.1 hf h0 rfl ro_55 (by decide) (by decide)
          have wd_H145 := mo_wd_F hB.2.2 h0 (by decide) k3
          have cr_H145 : mo_rd G H145 a0 cv := mo_rd_F hB.1 hB.2.2 h0 (by decide) k1
          replace hF := hF.trans (dv_bn2 (z145_1))
          refine W.eq (g2 := F0 m 148 ls []) rfl ?_
          exact th_vret hC hH hr hlocks hB.2.1 ⟨rfl, hB.1, hB.2.2, hR, ⟨by omega, by omega⟩, fun h9 => absurd h9 z145_0, (hF0.symm.trans hF)⟩ dX12_readPart_148
        refine tr_icmp_lt (tgt := 144) hx hb dX12_readPart_100 (by decide) (Eq.refl _) (Eq.refl _) (fun c100 => ?_) (fun c100 => ?_)
        · replace hF := hF.trans (if_pos c100)
          exact jn144 locs ls hB (lv_sub hl [1] rfl) hF
        · replace hF := hF.trans (if_neg (Int.not_lt.mpr c100))
          refine lv_iload_n hx hb dX12_readPart_103 rfl (lv_at hl 0 rfl) ?_
          refine lv_aload_n hx hb dX12_readPart_104 rfl (lv_at hl 1 rfl) ?_
          refine th_getI (j := 9) hC cf_X12 hB.1 h0 ro_46 rfl rfl kf_X12_253 dX12_readPart_105 (fun x12 mx12 lx12 ux12 => ?_)
          replace hF := hF.trans (dv_bn (dv_getI h0 ro_46 (j := 9) rfl mx12 (by decide)))
          have fg13 : mo_f G H0 a0 9 = x12.toInt := mo_fat mx12
          refine tr_icmp_gt (tgt := 144) hx hb dX12_readPart_108 (by decide) (Eq.refl _) (Eq.refl _) (fun c108 => ?_) (fun c108 => ?_)
          · replace hF := hF.trans (if_pos c108)
            exact jn144 locs ls hB (lv_sub hl [1] rfl) hF
          · replace hF := hF.trans (if_neg (Int.not_lt.mpr c108))
            exact jn111 locs ls hB (lv_sub hl [0, 1] rfl) hF (by omega)
      refine tr_icmp_ne (tgt := 95) hx hb dX12_readPart_77 (by decide) (Eq.refl _) tk_50 (fun c77 => ?_) (fun c77 => ?_)
      · replace hF := hF.trans (if_pos c77)
        exact jn95 locs ls hB (lv_sub hl [0, 1] rfl) hF
      · replace hF := hF.trans (if_neg (not_not_intro c77))
        refine lv_aload_n hx hb dX12_readPart_80 rfl (lv_at hl 1 rfl) ?_
        refine th_getO (j := 16) (r2 := 56) hC cf_X12 hB.1 h0 ro_46 rfl rfl kf_X12_57 dX12_readPart_81 (fun b14 mb14 hb14 => ?_)
        refine lv_aload_n hx hb dX12_readPart_84 rfl (lv_at hl 1 rfl) ?_
        refine th_getK hC cf_X12 hB.1 h0 ro_46 rfl (j := 19) (by decide) mx3 kf_X12_196 dX12_readPart_85 ?_
        replace hF := hF.trans (dv_bn (dv_getI h0 ro_46 (j := 19) rfl mx3 (by decide)))
        have fg15 : mo_f G H0 a0 19 = x3.toInt := mo_fat mx3
        refine th_ialdF hC hB.1 hb14 ro_56 rfl (Eq.refl _) (by omega) (by omega) rfl dX12_readPart_88 (fun x16 mx16 lx16 ux16 => ?_)
        replace hF := hF.trans (dv_bn (dv_aldI hB.1 hU hb14 ow_56 (z := x3.toInt) mx16 (by omega)))
        refine lv_sipush (v := 1000) hx hb dX12_readPart_89 (by decide) ?_
        refine tr_icmp_le (tgt := 111) hx hb dX12_readPart_92 (by decide) (Eq.refl _) tk_1000 (fun c92 => ?_) (fun c92 => ?_)
        · replace hF := hF.trans (if_pos c92)
          exact jn111 locs ls hB (lv_sub hl [0, 1] rfl) hF (by omega)
        · replace hF := hF.trans (if_neg (Int.not_le.mpr c92))
          exact jn95 locs ls hB (lv_sub hl [0, 1] rfl) hF
    · replace hF := hF.trans (if_neg (not_not_intro c24))
      refine lv_iload_n hx hb dX12_readPart_27 rfl (lv_at hl 2 rfl) ?_
      refine lv_bipush (v := 8) hx hb dX12_readPart_28 (by decide) ?_
      have jn37 : ∀ (H37 : Heap) (locs : List Loc) (ls : Array Slot) , th_B G Γ Γ [(46, 19), (46, 20), (46, 21)] H0 H37 locs → th_RC G Γ H37 → lv_has ls 3 [(0, .ref a0), (1, .int p1)] → F = f_X12_readPart_37 d (dv_pre (fun _ _ _ => dv_z) f_X12_readSum d) (dv G Γ H37) ((a0 : Int)) (p1.toInt) → mo_f G H37 a0 19 = t → (mo_f G H37 a0 21 = -1 → p1.toInt ≠ 8) → th_sl H37 a0 (G.1.2 12 19) = .int x3 → W p l e ({ frames := 12 + 3 * d, cells := 0, slots := 0, locals := 400 + d * 80 } : Room) s m ([.ref a0, .int p1] : List Value).toArray below meth c H37 locs 0 0 (MQ below (th_Q (fun (v : Option Value) (H1 : Heap) => v = none ∧ th_I G Γ H1 ∧ th_F G Γ [(46, 19), (46, 20), (46, 21)] H0 H1 ∧ th_RC G Γ H1 ∧ (t ≤ mo_f G H1 a0 19 ∧ mo_f G H1 a0 19 ≤ mo_f G H0 a0 18) ∧ (mo_f G H1 a0 21 = -1 → mo_f G H0 a0 21 = -1 ∧ mo_part o cv d t (mo_f G H1 a0 19)) ∧ (f_X12_readPart d (dv G Γ H0) (a0 : Int) p1.toInt = (dv G Γ H1, 0))) G) ([.ref a0, .int p1] : List Value).toArray s 0 0 (fun q => G.2.2 ≤ q)) (F0 m 37 ls []) := by
        intro H37 locs ls hB hR hl hF g37_0 g37_1 g37_2
        have wd_H37 := mo_wd_F hB.2.2 h0 (by decide) k3
        have cr_H37 : mo_rd G H37 a0 cv := mo_rd_F hB.1 hB.2.2 h0 (by decide) k1
        have fv17_8 : mo_f G H37 a0 8 = mo_f G H0 a0 8 := mo_f_F hB.2.2 h0 (by decide) (by decide)
        have fv18_9 : mo_f G H37 a0 9 = mo_f G H0 a0 9 := mo_f_F hB.2.2 h0 (by decide) (by decide)
        have fv19_10 : mo_f G H37 a0 10 = mo_f G H0 a0 10 := mo_f_F hB.2.2 h0 (by decide) (by decide)
        have fv20_18 : mo_f G H37 a0 18 = mo_f G H0 a0 18 := mo_f_F hB.2.2 h0 (by decide) (by decide)
        have vw_H37_15 : mo_v G H37 a0 15 = mo_v G H0 a0 15 := mo_v_F (r := 55) hB.1 hB.2.2 h0 rfl ro_55 (by decide) (by decide)
        replace hF := hF.trans (f_X12_readPart_37.eq_1 d (dv_pre (fun _ _ _ => dv_z) f_X12_readSum d) (dv G Γ H37) ((a0 : Int)) (p1.toInt))
        refine lv_aload_n hx hb dX12_readPart_37 rfl (lv_at hl 0 rfl) ?_
        refine th_call (th_runV (As := []) (rest := []) hC mf_X12_fine km_X12_192 im_X12_fine se_X12_fine (c_X12_fine l G Γ H37 hB.1 hU a0 h0) rfl rfl ⟨by dsimp only; omega, by dsimp only; omega⟩ hB.1 h0 ro_46 rfl rfl hl.1 rfl (Nat.le_of_ble_eq_true rfl) dX12_readPart_38 ⟨Nat.le_refl _, Nat.le_refl _⟩) hB.2.1 (fun v38 H38 locs hp hz hS => ?_)
        obtain ⟨x21, rfl, lx21, ux21, q38_0, q38_1, q38_2, rfl⟩ := hp
        have hB := th_B_s hB hS
        replace hF := hF.trans (dv_bn2 (q38_2))
        refine W.eq (g2 := F0 m 41 ls [.int x21]) rfl ?_
        refine tr_if_ne (tgt := 45) hx hb dX12_readPart_41 (by decide) (Eq.refl _) (fun c41 => ?_) (fun c41 => ?_)
        · specialize q38_0 (by omega); clear q38_1
          replace hF := hF.trans (if_pos c41)
          refine lv_aload_n hx hb dX12_readPart_45 rfl (lv_at hl 0 rfl) ?_
          refine lv_dup hx hb dX12_readPart_46 rfl ?_
          refine th_getK hC cf_X12 hB.1 h0 ro_46 rfl (j := 19) (by decide) g37_2 kf_X12_196 dX12_readPart_47 ?_
          replace hF := hF.trans (dv_bn (dv_getI h0 ro_46 (j := 19) rfl g37_2 (by decide)))
          have fg22 : mo_f G H37 a0 19 = x3.toInt := mo_fat g37_2
          have nz47 := mo_rd_nz k1 (show cv t ≠ 0 by omega)
          have t18 := mo_f_rg hI h0 (j := 18) rfl
          refine lv_iconst (v := 1) hx hb dX12_readPart_50 (by decide) ?_
          refine tr_iadd hx hb dX12_readPart_51 (Eq.refl _) tk_1 (by omega) (by omega) (fun x23 ex23 => ?_)
          replace hF := hF.trans (dv_bn (ex23.symm))
          refine th_put hC cf_X12 hB h0 (Or.inl h0) ro_46 rfl (j := 19) rfl (th_sI (by omega) (by omega)) (by decide) rfl rfl rfl kf_X12_196 dX12_readPart_52 (fun H52 locs hB hf hst52 => ?_)
          have hR := th_RC_F hB.1 hR hf (th_T_s h0 ro_46 hst52) (by decide)
          have fv_H52_8 : mo_f G H52 a0 8 = mo_f G H37 a0 8 := mo_f_F hf h0 (by decide) (by decide)
          have fv_H52_9 : mo_f G H52 a0 9 = mo_f G H37 a0 9 := mo_f_F hf h0 (by decide) (by decide)
          have fv_H52_10 : mo_f G H52 a0 10 = mo_f G H37 a0 10 := mo_f_F hf h0 (by decide) (by decide)
          have fv_H52_18 : mo_f G H52 a0 18 = mo_f G H37 a0 18 := mo_f_F hf h0 (by decide) (by decide)
          have fv_H52_21 : mo_f G H52 a0 21 = mo_f G H37 a0 21 := mo_f_F hf h0 (by decide) (by decide)
          have vv_H52_15 : mo_v G H52 a0 15 = mo_v G H37 a0 15 := mo_v_F (r := 55) hB.1 hf h0 rfl ro_55 (by decide) (by decide)
          have wd_H52 := mo_wd_F hB.2.2 h0 (by decide) k3
          have cr_H52 : mo_rd G H52 a0 cv := mo_rd_F hB.1 hB.2.2 h0 (by decide) k1
          replace hF := hF.trans (dv_bn (dv_putI hB.1 h0 ro_46 (j := 19) rfl (th_apart hC cf_X12) hst52 (Eq.refl _) (by decide)))
          have fp52 : mo_f G H52 a0 19 = x23.toInt := mo_f_St hst52
          refine lv_aload_n hx hb dX12_readPart_55 rfl (lv_at hl 0 rfl) ?_
          refine lv_iload_n hx hb dX12_readPart_56 rfl (lv_at hl 1 rfl) ?_
          obtain ⟨d', hd'⟩ : ∃ d', d = d' + 1 := ⟨d - 1, by omega⟩
          refine lv_iconst (v := 1) hx hb dX12_readPart_57 (by decide) ?_
          refine tr_iadd hx hb dX12_readPart_58 (Eq.refl _) tk_1 (by omega) (by omega) (fun x24 ex24 => ?_)
          replace hF := hF.trans (dv_bn (ex24.symm))
          refine th_call (th_runV (As := [.int x24]) (rest := []) hC mf_X12_readSum km_X12_208 im_X12_readSum se_X12_readSum (ihd d' hd' l G Γ H52 hB.1 hR hU a0 h0 x24 (by omega) (by omega) o cv (t + 1) cr_H52 ⟨by omega, by omega, by omega⟩ wd_H52 (by omega)) rfl rfl ⟨by dsimp only; omega, by dsimp only; omega⟩ hB.1 h0 ro_46 rfl rfl hl.1 rfl (Nat.le_of_ble_eq_true rfl) dX12_readPart_59 ⟨Nat.le_refl _, Nat.le_refl _⟩) hB.2.1 (fun v59 H59 locs hp hz hS => ?_)
          obtain ⟨rfl, hI1, hf, hR, z59_0, z59_1, z59_2⟩ := hp
          have hB := th_B_c hB hI1 hS hf (by decide)
          have fv_H59_8 : mo_f G H59 a0 8 = mo_f G H52 a0 8 := mo_f_F hf h0 (by decide) (by decide)
          have fv_H59_9 : mo_f G H59 a0 9 = mo_f G H52 a0 9 := mo_f_F hf h0 (by decide) (by decide)
          have fv_H59_10 : mo_f G H59 a0 10 = mo_f G H52 a0 10 := mo_f_F hf h0 (by decide) (by decide)
          have fv_H59_18 : mo_f G H59 a0 18 = mo_f G H52 a0 18 := mo_f_F hf h0 (by decide) (by decide)
          have vv_H59_15 : mo_v G H59 a0 15 = mo_v G H52 a0 15 := mo_v_F (r := 55) hB.1 hf h0 rfl ro_55 (by decide) (by decide)
          have wd_H59 := mo_wd_F hB.2.2 h0 (by decide) k3
          have cr_H59 : mo_rd G H59 a0 cv := mo_rd_F hB.1 hB.2.2 h0 (by decide) k1
          have zf59 := z59_2
          rw [← dv_pre_s (z := (fun _ _ _ => dv_z)) (f := f_X12_readSum) hd'] at zf59
          replace hF := hF.trans (dv_bn2 (zf59))
          refine W.eq (g2 := F0 m 62 ls []) rfl ?_
          refine lv_aload_n hx hb dX12_readPart_62 rfl (lv_at hl 0 rfl) ?_
          refine lv_bipush (v := 93) hx hb dX12_readPart_63 (by decide) ?_
          refine th_call (th_runS (As := [.int 93]) (rest := [.ref a0]) hC mf_X12_sign km_X12_240 st_X12_sign (c_X12_sign l G Γ H59 hB.1 hU 93 (by decide) (by decide)) rfl rfl ⟨by dsimp only; omega, by dsimp only; omega⟩ rfl hl.1 rfl (Nat.le_of_ble_eq_true rfl) dX12_readPart_65 ⟨Nat.le_refl _, Nat.le_refl _⟩) hB.2.1 (fun v65 H65 locs hp hz hS => ?_)
          obtain ⟨x25, rfl, lx25, ux25, q65_0, q65_1, rfl⟩ := hp
          have hB := th_B_s hB hS
          have w65_0 := tk_93
          have zf65 := q65_1
          rw [tk_93] at zf65
          replace hF := hF.trans (dv_bn2 (zf65))
          refine W.eq (g2 := F0 m 68 ls [.int x25, .ref a0]) rfl ?_
          refine th_call (th_runV (As := [.int x25]) (rest := []) hC mf_X12_must km_X12_211 im_X12_must se_X12_must (c_X12_must l G Γ H59 hB.1 hR hU a0 h0 x25 (by omega) cv (mo_f G H59 a0 19) cr_H59 ⟨by omega, by omega, by omega⟩) rfl rfl ⟨by dsimp only; omega, by dsimp only; omega⟩ hB.1 h0 ro_46 rfl rfl hl.1 rfl (Nat.le_of_ble_eq_true rfl) dX12_readPart_68 ⟨Nat.le_refl _, Nat.le_refl _⟩) hB.2.1 (fun v68 H68 locs hp hz hS => ?_)
          obtain ⟨rfl, hI1, hf, hR, z68_0, z68_1, z68_2⟩ := hp
          have hB := th_B_c hB hI1 hS hf (by decide)
          have fv_H68_8 : mo_f G H68 a0 8 = mo_f G H59 a0 8 := mo_f_F hf h0 (by decide) (by decide)
          have fv_H68_9 : mo_f G H68 a0 9 = mo_f G H59 a0 9 := mo_f_F hf h0 (by decide) (by decide)
          have fv_H68_10 : mo_f G H68 a0 10 = mo_f G H59 a0 10 := mo_f_F hf h0 (by decide) (by decide)
          have fv_H68_18 : mo_f G H68 a0 18 = mo_f G H59 a0 18 := mo_f_F hf h0 (by decide) (by decide)
          have vv_H68_15 : mo_v G H68 a0 15 = mo_v G H59 a0 15 := mo_v_F (r := 55) hB.1 hf h0 rfl ro_55 (by decide) (by decide)
          have wd_H68 := mo_wd_F hB.2.2 h0 (by decide) k3
          have cr_H68 : mo_rd G H68 a0 cv := mo_rd_F hB.1 hB.2.2 h0 (by decide) k1
          replace hF := hF.trans (dv_bn2 (z68_2))
          refine W.eq (g2 := F0 m 71 ls []) rfl ?_
          refine lv_goto (tgt := 148) hx hb dX12_readPart_71 (by decide) ?_
          exact th_vret hC hH hr hlocks hB.2.1 ⟨rfl, hB.1, hB.2.2, hR, ⟨by omega, by omega⟩, fun h9 => by obtain ⟨q1, q2, q3⟩ := z68_1 h9; obtain ⟨q4, q5⟩ := z59_1 q1; exact ⟨by omega, by rw [hd', q3]; exact mo_part_b (by omega) q5 (by omega)⟩, (hF0.symm.trans hF)⟩ dX12_readPart_148
        · specialize q38_1 (by omega); clear q38_0
          replace hF := hF.trans (if_neg (not_not_intro c41))
          exact th_vret hC hH hr hlocks hB.2.1 ⟨rfl, hB.1, hB.2.2, hR, ⟨by omega, by omega⟩, fun h9 => absurd h9 (by omega), (hF0.symm.trans hF)⟩ dX12_readPart_44
      refine tr_icmp_ne (tgt := 37) hx hb dX12_readPart_30 (by decide) (Eq.refl _) tk_8 (fun c30 => ?_) (fun c30 => ?_)
      · replace hF := hF.trans (if_pos c30)
        exact jn37 H0 locs ls hB hR (lv_sub hl [1, 2] rfl) hF (by omega) (by omega) mx3
      · replace hF := hF.trans (if_neg (not_not_intro c30))
        refine lv_aload_n hx hb dX12_readPart_33 rfl (lv_at hl 1 rfl) ?_
        refine th_call (th_runV (As := []) (rest := []) hC mf_X12_faults km_X12_202 im_X12_faults se_X12_faults (c_X12_faults l G Γ H0 hB.1 hR hU a0 h0) rfl rfl ⟨by dsimp only; omega, by dsimp only; omega⟩ hB.1 h0 ro_46 rfl rfl hl.1 rfl (Nat.le_of_ble_eq_true rfl) dX12_readPart_34 ⟨Nat.le_refl _, Nat.le_refl _⟩) hB.2.1 (fun v34 H34 locs hp hz hS => ?_)
        obtain ⟨rfl, hI1, hf, hR, z34_0, z34_1⟩ := hp
        have hB := th_B_c hB hI1 hS hf (by decide)
        have mm26 := (th_F_o hf h0 ro_46 (j := 19) (by decide) (by decide)).trans mx3
        have fv_H34_8 : mo_f G H34 a0 8 = mo_f G H0 a0 8 := mo_f_F hf h0 (by decide) (by decide)
        have fv_H34_9 : mo_f G H34 a0 9 = mo_f G H0 a0 9 := mo_f_F hf h0 (by decide) (by decide)
        have fv_H34_10 : mo_f G H34 a0 10 = mo_f G H0 a0 10 := mo_f_F hf h0 (by decide) (by decide)
        have fv_H34_18 : mo_f G H34 a0 18 = mo_f G H0 a0 18 := mo_f_F hf h0 (by decide) (by decide)
        have fv_H34_19 : mo_f G H34 a0 19 = mo_f G H0 a0 19 := mo_f_F hf h0 (by decide) (by decide)
        have vv_H34_15 : mo_v G H34 a0 15 = mo_v G H0 a0 15 := mo_v_F (r := 55) hB.1 hf h0 rfl ro_55 (by decide) (by decide)
        have wd_H34 := mo_wd_F hB.2.2 h0 (by decide) k3
        have cr_H34 : mo_rd G H34 a0 cv := mo_rd_F hB.1 hB.2.2 h0 (by decide) k1
        replace hF := hF.trans (dv_bn2 (z34_1))
        refine W.eq (g2 := F0 m 37 ls []) rfl ?_
        exact jn37 H34 locs ls hB hR (lv_sub hl [1, 2] rfl) hF (by omega) (by omega) mm26
  · specialize q1_1 (by omega); clear q1_0
    replace hF := hF.trans (if_neg (not_not_intro c4))
    exact th_vret hC hH hr hlocks hB.2.1 ⟨rfl, hB.1, hB.2.2, hR, ⟨by omega, by omega⟩, fun h9 => absurd h9 (by omega), (hF0.symm.trans hF)⟩ dX12_readPart_7

set_option maxHeartbeats 4000000 in
set_option maxRecDepth 100000 in
theorem c_X12_readTerm_s (d : Nat) (ihp : s_X12_readPart d) : s_X12_readTerm d := by
  intro l G Γ H0 hI hR hU a0 h0 p1 f1 g1 o cv t k1 k2 k3 k4
  refine th_met RX12 (by decide) rfl (Nat.le_of_ble_eq_true rfl) ?_
  intro p e s m below meth c hC hH hr hlocks hnm ls hl
  have hx := hC.1
  have hb := hC.2.1
  have hB : th_B G Γ Γ [(46, 19), (46, 20), (46, 21)] H0 H0 [] := ⟨hI, va_S.rf, th_F_rf⟩
  have hl : lv_has ls 2 [(0, .ref a0), (1, .int p1)] := hl
  have lp1 := ti_lo p1; have up1 := ti_hi p1
  obtain ⟨F, hF0⟩ : ∃ F, F = f_X12_readTerm d (dv G Γ H0) ((a0 : Int)) (p1.toInt) := ⟨_, rfl⟩
  have hF := hF0.trans ((f_X12_readTerm_d d (dv G Γ H0) ((a0 : Int)) (p1.toInt)).trans (f_X12_readTerm_B.eq_1 d (f_X12_readPart d) (dv G Γ H0) ((a0 : Int)) (p1.toInt)))
  refine lv_aload_n hx hb dX12_readTerm_0 rfl (lv_at hl 0 rfl) ?_
  refine lv_iload_n hx hb dX12_readTerm_1 rfl (lv_at hl 1 rfl) ?_
  refine th_call (th_runV (As := [.int p1]) (rest := []) hC mf_X12_readPart km_X12_247 im_X12_readPart se_X12_readPart (ihp l G Γ H0 hB.1 hR hU a0 h0 p1 (by omega) (by omega) o cv t k1 ⟨by omega, by omega, by omega⟩ k3 (by omega)) rfl rfl ⟨by dsimp only; omega, by dsimp only; omega⟩ hB.1 h0 ro_46 rfl rfl hl.1 rfl (Nat.le_of_ble_eq_true rfl) dX12_readTerm_2 ⟨Nat.le_refl _, Nat.le_refl _⟩) hB.2.1 (fun v2 H2 locs hp hz hS => ?_)
  obtain ⟨rfl, hI1, hf, hR, z2_0, z2_1, z2_2⟩ := hp
  have hB := th_B_c hB hI1 hS hf (by decide)
  have fv_H2_18 : mo_f G H2 a0 18 = mo_f G H0 a0 18 := mo_f_F hf h0 (by decide) (by decide)
  have vv_H2_15 : mo_v G H2 a0 15 = mo_v G H0 a0 15 := mo_v_F (r := 55) hB.1 hf h0 rfl ro_55 (by decide) (by decide)
  have wd_H2 := mo_wd_F hB.2.2 h0 (by decide) k3
  have cr_H2 : mo_rd G H2 a0 cv := mo_rd_F hB.1 hB.2.2 h0 (by decide) k1
  replace hF := hF.trans (dv_bn2 (z2_2))
  refine W.eq (g2 := F0 m 5 ls []) rfl ?_
  have lp5 : ∀ (n5 : Nat) (H5 : Heap) (locs : List Loc) (ls : Array Slot) , th_B G Γ Γ [(46, 19), (46, 20), (46, 21)] H0 H5 locs → th_RC G Γ H5 → lv_has ls 2 [(0, .ref a0), (1, .int p1)] → F = dv_lp (f_X12_readTerm_5b d (f_X12_readPart d)) (dv G Γ H5, (a0 : Int), p1.toInt) → (∃ m : Int, mo_f G H5 a0 19 = m ∧ t ≤ m ∧ m ≤ mo_f G H0 a0 18 ∧ (mo_f G H5 a0 21 = -1 → mo_f G H0 a0 21 = -1 ∧ mo_pre cv (mo_part o cv d) mo_mul t m)) → mo_f G H0 a0 18 - mo_f G H5 a0 19 + 1 ≤ (n5 : Int) → W p l e ({ frames := 13 + 3 * d, cells := 0, slots := 0, locals := 422 + d * 80 } : Room) s m ([.ref a0, .int p1] : List Value).toArray below meth c H5 locs 0 0 (MQ below (th_Q (fun (v : Option Value) (H1 : Heap) => v = none ∧ th_I G Γ H1 ∧ th_F G Γ [(46, 19), (46, 20), (46, 21)] H0 H1 ∧ th_RC G Γ H1 ∧ (t ≤ mo_f G H1 a0 19 ∧ mo_f G H1 a0 19 ≤ mo_f G H0 a0 18) ∧ (mo_f G H1 a0 21 = -1 → mo_f G H0 a0 21 = -1 ∧ mo_term o cv d t (mo_f G H1 a0 19)) ∧ (f_X12_readTerm d (dv G Γ H0) (a0 : Int) p1.toInt = (dv G Γ H1, 0))) G) ([.ref a0, .int p1] : List Value).toArray s 0 0 (fun q => G.2.2 ≤ q)) (F0 m 5 ls []) := by
    intro n5
    induction n5 with
    | zero => intro H5 locs ls hB hR hl hF g5_0 hm5; exact absurd hm5 (by have := mo_lpr g5_0; omega)
    | succ n5 ih5 =>
      intro H5 locs ls hB hR hl hF g5_0 hm5
      have wd_H5 := mo_wd_F hB.2.2 h0 (by decide) k3
      have cr_H5 : mo_rd G H5 a0 cv := mo_rd_F hB.1 hB.2.2 h0 (by decide) k1
      have fv1_18 : mo_f G H5 a0 18 = mo_f G H0 a0 18 := mo_f_F hB.2.2 h0 (by decide) (by decide)
      have vw_H5_15 : mo_v G H5 a0 15 = mo_v G H0 a0 15 := mo_v_F (r := 55) hB.1 hB.2.2 h0 rfl ro_55 (by decide) (by decide)
      have hm5 : mo_f G H0 a0 18 - mo_f G H5 a0 19 + 1 ≤ (n5 : Int) + 1 := by omega
      replace hF := hF.trans (dv_lp_eq)
      replace hF := hF.trans (congrArg (dv_k (f_X12_readTerm_5b d (f_X12_readPart d))) (f_X12_readTerm_5c.eq_1 d (f_X12_readPart d) (dv G Γ H5) ((a0 : Int)) (p1.toInt)))
      refine lv_aload_n hx hb dX12_readTerm_5 rfl (lv_at hl 0 rfl) ?_
      obtain ⟨m5, a5, b5, c5, e5⟩ := g5_0
      refine lv_bipush (v := 42) hx hb dX12_readTerm_6 (by decide) ?_
      refine th_call (th_runS (As := [.int 42]) (rest := [.ref a0]) hC mf_X12_sign km_X12_240 st_X12_sign (c_X12_sign l G Γ H5 hB.1 hU 42 (by decide) (by decide)) rfl rfl ⟨by dsimp only; omega, by dsimp only; omega⟩ rfl hl.1 rfl (Nat.le_of_ble_eq_true rfl) dX12_readTerm_8 ⟨Nat.le_refl _, Nat.le_refl _⟩) hB.2.1 (fun v8 H8 locs hp hz hS => ?_)
      obtain ⟨x2, rfl, lx2, ux2, q8_0, q8_1, rfl⟩ := hp
      have hB := th_B_s hB hS
      have w8_0 := tk_42
      have zf8 := q8_1
      rw [tk_42] at zf8
      replace hF := hF.trans (congrArg (dv_k (f_X12_readTerm_5b d (f_X12_readPart d))) (dv_bn2 (zf8)))
      refine W.eq (g2 := F0 m 11 ls [.int x2, .ref a0]) rfl ?_
      refine th_call (th_runV (As := [.int x2]) (rest := []) hC mf_X12_takes0 km_X12_199 im_X12_takes0 se_X12_takes0 (c_X12_takes0 l G Γ H5 hB.1 hR hU a0 h0 x2 (by omega) cv m5 cr_H5 ⟨by omega, by omega, by omega⟩) rfl rfl ⟨by dsimp only; omega, by dsimp only; omega⟩ hB.1 h0 ro_46 rfl rfl hl.1 rfl (Nat.le_of_ble_eq_true rfl) dX12_readTerm_11 ⟨Nat.le_refl _, Nat.le_refl _⟩) hB.2.1 (fun v11 H11 locs hp hz hS => ?_)
      obtain ⟨x3, rfl, lx3, ux3, hI1, hf, hR, z11_0, z11_1, z11_2, z11_3⟩ := hp
      have hB := th_B_c hB hI1 hS hf (by decide)
      have fv_H11_18 : mo_f G H11 a0 18 = mo_f G H5 a0 18 := mo_f_F hf h0 (by decide) (by decide)
      have fv_H11_21 : mo_f G H11 a0 21 = mo_f G H5 a0 21 := mo_f_F hf h0 (by decide) (by decide)
      have vv_H11_15 : mo_v G H11 a0 15 = mo_v G H5 a0 15 := mo_v_F (r := 55) hB.1 hf h0 rfl ro_55 (by decide) (by decide)
      have wd_H11 := mo_wd_F hB.2.2 h0 (by decide) k3
      have cr_H11 : mo_rd G H11 a0 cv := mo_rd_F hB.1 hB.2.2 h0 (by decide) k1
      replace hF := hF.trans (congrArg (dv_k (f_X12_readTerm_5b d (f_X12_readPart d))) (dv_bn2 (z11_3)))
      refine W.eq (g2 := F0 m 14 ls [.int x3]) rfl ?_
      refine tr_if_ne (tgt := 41) hx hb dX12_readTerm_14 (by decide) (Eq.refl _) (fun c14 => ?_) (fun c14 => ?_)
      · specialize z11_0 (by omega); clear z11_1
        replace hF := hF.trans (congrArg (dv_k (f_X12_readTerm_5b d (f_X12_readPart d))) (if_pos c14))
        refine lv_aload_n hx hb dX12_readTerm_41 rfl (lv_at hl 0 rfl) ?_
        refine lv_iload_n hx hb dX12_readTerm_42 rfl (lv_at hl 1 rfl) ?_
        refine th_call (th_runV (As := [.int p1]) (rest := []) hC mf_X12_readPart km_X12_247 im_X12_readPart se_X12_readPart (ihp l G Γ H11 hB.1 hR hU a0 h0 p1 (by omega) (by omega) o cv (m5 + 1) cr_H11 ⟨by omega, by omega, by omega⟩ wd_H11 (by omega)) rfl rfl ⟨by dsimp only; omega, by dsimp only; omega⟩ hB.1 h0 ro_46 rfl rfl hl.1 rfl (Nat.le_of_ble_eq_true rfl) dX12_readTerm_43 ⟨Nat.le_refl _, Nat.le_refl _⟩) hB.2.1 (fun v43 H43 locs hp hz hS => ?_)
        obtain ⟨rfl, hI1, hf, hR, z43_0, z43_1, z43_2⟩ := hp
        have hB := th_B_c hB hI1 hS hf (by decide)
        have fv_H43_18 : mo_f G H43 a0 18 = mo_f G H11 a0 18 := mo_f_F hf h0 (by decide) (by decide)
        have vv_H43_15 : mo_v G H43 a0 15 = mo_v G H11 a0 15 := mo_v_F (r := 55) hB.1 hf h0 rfl ro_55 (by decide) (by decide)
        have wd_H43 := mo_wd_F hB.2.2 h0 (by decide) k3
        have cr_H43 : mo_rd G H43 a0 cv := mo_rd_F hB.1 hB.2.2 h0 (by decide) k1
        replace hF := hF.trans (congrArg (dv_k (f_X12_readTerm_5b d (f_X12_readPart d))) (dv_bn2 (z43_2)))
        refine W.eq (g2 := F0 m 46 ls []) rfl ?_
        refine lv_goto (tgt := 5) hx hb dX12_readTerm_46 (by decide) ?_
        replace hF := hF.trans (dv_kl)
        exact ih5 H43 locs ls hB hR (lv_sub hl [0, 1] rfl) hF ⟨_, rfl, by omega, by omega, fun h9 => by obtain ⟨q3, q4⟩ := z43_1 h9; obtain ⟨q1, q2⟩ := e5 (by omega); exact ⟨q1, mo_pre_s q2 (show cv m5 = 142 ∨ cv m5 = 147 ∨ cv m5 = 137 by omega) q4⟩⟩ (by omega)
      · specialize z11_1 (by omega); clear z11_0
        replace hF := hF.trans (congrArg (dv_k (f_X12_readTerm_5b d (f_X12_readPart d))) (if_neg (not_not_intro c14)))
        refine lv_aload_n hx hb dX12_readTerm_17 rfl (lv_at hl 0 rfl) ?_
        refine lv_bipush (v := 47) hx hb dX12_readTerm_18 (by decide) ?_
        refine th_call (th_runS (As := [.int 47]) (rest := [.ref a0]) hC mf_X12_sign km_X12_240 st_X12_sign (c_X12_sign l G Γ H11 hB.1 hU 47 (by decide) (by decide)) rfl rfl ⟨by dsimp only; omega, by dsimp only; omega⟩ rfl hl.1 rfl (Nat.le_of_ble_eq_true rfl) dX12_readTerm_20 ⟨Nat.le_refl _, Nat.le_refl _⟩) hB.2.1 (fun v20 H20 locs hp hz hS => ?_)
        obtain ⟨x4, rfl, lx4, ux4, q20_0, q20_1, rfl⟩ := hp
        have hB := th_B_s hB hS
        have w20_0 := tk_47
        have zf20 := q20_1
        rw [tk_47] at zf20
        replace hF := hF.trans (congrArg (dv_k (f_X12_readTerm_5b d (f_X12_readPart d))) (dv_bn2 (zf20)))
        refine W.eq (g2 := F0 m 23 ls [.int x4, .ref a0]) rfl ?_
        refine th_call (th_runV (As := [.int x4]) (rest := []) hC mf_X12_takes0 km_X12_199 im_X12_takes0 se_X12_takes0 (c_X12_takes0 l G Γ H11 hB.1 hR hU a0 h0 x4 (by omega) cv m5 cr_H11 ⟨by omega, by omega, by omega⟩) rfl rfl ⟨by dsimp only; omega, by dsimp only; omega⟩ hB.1 h0 ro_46 rfl rfl hl.1 rfl (Nat.le_of_ble_eq_true rfl) dX12_readTerm_23 ⟨Nat.le_refl _, Nat.le_refl _⟩) hB.2.1 (fun v23 H23 locs hp hz hS => ?_)
        obtain ⟨x5, rfl, lx5, ux5, hI1, hf, hR, z23_0, z23_1, z23_2, z23_3⟩ := hp
        have hB := th_B_c hB hI1 hS hf (by decide)
        have fv_H23_18 : mo_f G H23 a0 18 = mo_f G H11 a0 18 := mo_f_F hf h0 (by decide) (by decide)
        have fv_H23_21 : mo_f G H23 a0 21 = mo_f G H11 a0 21 := mo_f_F hf h0 (by decide) (by decide)
        have vv_H23_15 : mo_v G H23 a0 15 = mo_v G H11 a0 15 := mo_v_F (r := 55) hB.1 hf h0 rfl ro_55 (by decide) (by decide)
        have wd_H23 := mo_wd_F hB.2.2 h0 (by decide) k3
        have cr_H23 : mo_rd G H23 a0 cv := mo_rd_F hB.1 hB.2.2 h0 (by decide) k1
        replace hF := hF.trans (congrArg (dv_k (f_X12_readTerm_5b d (f_X12_readPart d))) (dv_bn2 (z23_3)))
        refine W.eq (g2 := F0 m 26 ls [.int x5]) rfl ?_
        refine tr_if_ne (tgt := 41) hx hb dX12_readTerm_26 (by decide) (Eq.refl _) (fun c26 => ?_) (fun c26 => ?_)
        · specialize z23_0 (by omega); clear z23_1
          replace hF := hF.trans (congrArg (dv_k (f_X12_readTerm_5b d (f_X12_readPart d))) (if_pos c26))
          refine lv_aload_n hx hb dX12_readTerm_41 rfl (lv_at hl 0 rfl) ?_
          refine lv_iload_n hx hb dX12_readTerm_42 rfl (lv_at hl 1 rfl) ?_
          refine th_call (th_runV (As := [.int p1]) (rest := []) hC mf_X12_readPart km_X12_247 im_X12_readPart se_X12_readPart (ihp l G Γ H23 hB.1 hR hU a0 h0 p1 (by omega) (by omega) o cv (m5 + 1) cr_H23 ⟨by omega, by omega, by omega⟩ wd_H23 (by omega)) rfl rfl ⟨by dsimp only; omega, by dsimp only; omega⟩ hB.1 h0 ro_46 rfl rfl hl.1 rfl (Nat.le_of_ble_eq_true rfl) dX12_readTerm_43 ⟨Nat.le_refl _, Nat.le_refl _⟩) hB.2.1 (fun v43 H43 locs hp hz hS => ?_)
          obtain ⟨rfl, hI1, hf, hR, z43_0, z43_1, z43_2⟩ := hp
          have hB := th_B_c hB hI1 hS hf (by decide)
          have fv_H43_18 : mo_f G H43 a0 18 = mo_f G H23 a0 18 := mo_f_F hf h0 (by decide) (by decide)
          have vv_H43_15 : mo_v G H43 a0 15 = mo_v G H23 a0 15 := mo_v_F (r := 55) hB.1 hf h0 rfl ro_55 (by decide) (by decide)
          have wd_H43 := mo_wd_F hB.2.2 h0 (by decide) k3
          have cr_H43 : mo_rd G H43 a0 cv := mo_rd_F hB.1 hB.2.2 h0 (by decide) k1
          replace hF := hF.trans (congrArg (dv_k (f_X12_readTerm_5b d (f_X12_readPart d))) (dv_bn2 (z43_2)))
          refine W.eq (g2 := F0 m 46 ls []) rfl ?_
          refine lv_goto (tgt := 5) hx hb dX12_readTerm_46 (by decide) ?_
          replace hF := hF.trans (dv_kl)
          exact ih5 H43 locs ls hB hR (lv_sub hl [0, 1] rfl) hF ⟨_, rfl, by omega, by omega, fun h9 => by obtain ⟨q3, q4⟩ := z43_1 h9; obtain ⟨q1, q2⟩ := e5 (by omega); exact ⟨q1, mo_pre_s q2 (show cv m5 = 142 ∨ cv m5 = 147 ∨ cv m5 = 137 by omega) q4⟩⟩ (by omega)
        · specialize z23_1 (by omega); clear z23_0
          replace hF := hF.trans (congrArg (dv_k (f_X12_readTerm_5b d (f_X12_readPart d))) (if_neg (not_not_intro c26)))
          refine lv_aload_n hx hb dX12_readTerm_29 rfl (lv_at hl 0 rfl) ?_
          refine lv_bipush (v := 37) hx hb dX12_readTerm_30 (by decide) ?_
          refine th_call (th_runS (As := [.int 37]) (rest := [.ref a0]) hC mf_X12_sign km_X12_240 st_X12_sign (c_X12_sign l G Γ H23 hB.1 hU 37 (by decide) (by decide)) rfl rfl ⟨by dsimp only; omega, by dsimp only; omega⟩ rfl hl.1 rfl (Nat.le_of_ble_eq_true rfl) dX12_readTerm_32 ⟨Nat.le_refl _, Nat.le_refl _⟩) hB.2.1 (fun v32 H32 locs hp hz hS => ?_)
          obtain ⟨x6, rfl, lx6, ux6, q32_0, q32_1, rfl⟩ := hp
          have hB := th_B_s hB hS
          have w32_0 := tk_37
          have zf32 := q32_1
          rw [tk_37] at zf32
          replace hF := hF.trans (congrArg (dv_k (f_X12_readTerm_5b d (f_X12_readPart d))) (dv_bn2 (zf32)))
          refine W.eq (g2 := F0 m 35 ls [.int x6, .ref a0]) rfl ?_
          refine th_call (th_runV (As := [.int x6]) (rest := []) hC mf_X12_takes0 km_X12_199 im_X12_takes0 se_X12_takes0 (c_X12_takes0 l G Γ H23 hB.1 hR hU a0 h0 x6 (by omega) cv m5 cr_H23 ⟨by omega, by omega, by omega⟩) rfl rfl ⟨by dsimp only; omega, by dsimp only; omega⟩ hB.1 h0 ro_46 rfl rfl hl.1 rfl (Nat.le_of_ble_eq_true rfl) dX12_readTerm_35 ⟨Nat.le_refl _, Nat.le_refl _⟩) hB.2.1 (fun v35 H35 locs hp hz hS => ?_)
          obtain ⟨x7, rfl, lx7, ux7, hI1, hf, hR, z35_0, z35_1, z35_2, z35_3⟩ := hp
          have hB := th_B_c hB hI1 hS hf (by decide)
          have fv_H35_18 : mo_f G H35 a0 18 = mo_f G H23 a0 18 := mo_f_F hf h0 (by decide) (by decide)
          have fv_H35_21 : mo_f G H35 a0 21 = mo_f G H23 a0 21 := mo_f_F hf h0 (by decide) (by decide)
          have vv_H35_15 : mo_v G H35 a0 15 = mo_v G H23 a0 15 := mo_v_F (r := 55) hB.1 hf h0 rfl ro_55 (by decide) (by decide)
          have wd_H35 := mo_wd_F hB.2.2 h0 (by decide) k3
          have cr_H35 : mo_rd G H35 a0 cv := mo_rd_F hB.1 hB.2.2 h0 (by decide) k1
          replace hF := hF.trans (congrArg (dv_k (f_X12_readTerm_5b d (f_X12_readPart d))) (dv_bn2 (z35_3)))
          refine W.eq (g2 := F0 m 38 ls [.int x7]) rfl ?_
          refine tr_if_eq (tgt := 49) hx hb dX12_readTerm_38 (by decide) (Eq.refl _) (fun c38 => ?_) (fun c38 => ?_)
          · specialize z35_1 (by omega); clear z35_0
            replace hF := hF.trans (congrArg (dv_k (f_X12_readTerm_5b d (f_X12_readPart d))) (if_pos c38))
            replace hF := hF.trans (dv_kr)
            exact th_vret hC hH hr hlocks hB.2.1 ⟨rfl, hB.1, hB.2.2, hR, ⟨by omega, by omega⟩, fun h9 => by obtain ⟨q1, q2⟩ := e5 (by omega); exact ⟨q1, by rw [show mo_f G H35 a0 19 = m5 by omega]; exact mo_pre_e q2 (show ¬ (cv m5 = 142 ∨ cv m5 = 147 ∨ cv m5 = 137) by omega)⟩, (hF0.symm.trans hF)⟩ dX12_readTerm_49
          · specialize z35_0 (by omega); clear z35_1
            replace hF := hF.trans (congrArg (dv_k (f_X12_readTerm_5b d (f_X12_readPart d))) (if_neg c38))
            refine lv_aload_n hx hb dX12_readTerm_41 rfl (lv_at hl 0 rfl) ?_
            refine lv_iload_n hx hb dX12_readTerm_42 rfl (lv_at hl 1 rfl) ?_
            refine th_call (th_runV (As := [.int p1]) (rest := []) hC mf_X12_readPart km_X12_247 im_X12_readPart se_X12_readPart (ihp l G Γ H35 hB.1 hR hU a0 h0 p1 (by omega) (by omega) o cv (m5 + 1) cr_H35 ⟨by omega, by omega, by omega⟩ wd_H35 (by omega)) rfl rfl ⟨by dsimp only; omega, by dsimp only; omega⟩ hB.1 h0 ro_46 rfl rfl hl.1 rfl (Nat.le_of_ble_eq_true rfl) dX12_readTerm_43 ⟨Nat.le_refl _, Nat.le_refl _⟩) hB.2.1 (fun v43 H43 locs hp hz hS => ?_)
            obtain ⟨rfl, hI1, hf, hR, z43_0, z43_1, z43_2⟩ := hp
            have hB := th_B_c hB hI1 hS hf (by decide)
            have fv_H43_18 : mo_f G H43 a0 18 = mo_f G H35 a0 18 := mo_f_F hf h0 (by decide) (by decide)
            have vv_H43_15 : mo_v G H43 a0 15 = mo_v G H35 a0 15 := mo_v_F (r := 55) hB.1 hf h0 rfl ro_55 (by decide) (by decide)
            have wd_H43 := mo_wd_F hB.2.2 h0 (by decide) k3
            have cr_H43 : mo_rd G H43 a0 cv := mo_rd_F hB.1 hB.2.2 h0 (by decide) k1
            replace hF := hF.trans (congrArg (dv_k (f_X12_readTerm_5b d (f_X12_readPart d))) (dv_bn2 (z43_2)))
            refine W.eq (g2 := F0 m 46 ls []) rfl ?_
            refine lv_goto (tgt := 5) hx hb dX12_readTerm_46 (by decide) ?_
            replace hF := hF.trans (dv_kl)
            exact ih5 H43 locs ls hB hR (lv_sub hl [0, 1] rfl) hF ⟨_, rfl, by omega, by omega, fun h9 => by obtain ⟨q3, q4⟩ := z43_1 h9; obtain ⟨q1, q2⟩ := e5 (by omega); exact ⟨q1, mo_pre_s q2 (show cv m5 = 142 ∨ cv m5 = 147 ∨ cv m5 = 137 by omega) q4⟩⟩ (by omega)
  exact lp5 (mo_f G H0 a0 18 - mo_f G H2 a0 19 + 1).toNat H2 locs ls hB hR (lv_sub hl [0, 1] rfl) hF ⟨_, rfl, by omega, by omega, fun h9 => ⟨(z2_1 h9).1, mo_pre_0 (z2_1 h9).2⟩⟩ (by omega)

set_option maxHeartbeats 4000000 in
set_option maxRecDepth 100000 in
theorem c_X12_readSum_s (d : Nat) (ihp : s_X12_readTerm d) : s_X12_readSum d := by
  intro l G Γ H0 hI hR hU a0 h0 p1 f1 g1 o cv t k1 k2 k3 k4
  refine th_met RX12 (by decide) rfl (Nat.le_of_ble_eq_true rfl) ?_
  intro p e s m below meth c hC hH hr hlocks hnm ls hl
  have hx := hC.1
  have hb := hC.2.1
  have hB : th_B G Γ Γ [(46, 19), (46, 20), (46, 21)] H0 H0 [] := ⟨hI, va_S.rf, th_F_rf⟩
  have hl : lv_has ls 2 [(0, .ref a0), (1, .int p1)] := hl
  have lp1 := ti_lo p1; have up1 := ti_hi p1
  obtain ⟨F, hF0⟩ : ∃ F, F = f_X12_readSum d (dv G Γ H0) ((a0 : Int)) (p1.toInt) := ⟨_, rfl⟩
  have hF := hF0.trans ((f_X12_readSum_d d (dv G Γ H0) ((a0 : Int)) (p1.toInt)).trans (f_X12_readSum_B.eq_1 d (f_X12_readTerm d) (dv G Γ H0) ((a0 : Int)) (p1.toInt)))
  refine lv_aload_n hx hb dX12_readSum_0 rfl (lv_at hl 0 rfl) ?_
  refine lv_iload_n hx hb dX12_readSum_1 rfl (lv_at hl 1 rfl) ?_
  refine th_call (th_runV (As := [.int p1]) (rest := []) hC mf_X12_readTerm km_X12_244 im_X12_readTerm se_X12_readTerm (ihp l G Γ H0 hB.1 hR hU a0 h0 p1 (by omega) (by omega) o cv t k1 ⟨by omega, by omega, by omega⟩ k3 (by omega)) rfl rfl ⟨by dsimp only; omega, by dsimp only; omega⟩ hB.1 h0 ro_46 rfl rfl hl.1 rfl (Nat.le_of_ble_eq_true rfl) dX12_readSum_2 ⟨Nat.le_refl _, Nat.le_refl _⟩) hB.2.1 (fun v2 H2 locs hp hz hS => ?_)
  obtain ⟨rfl, hI1, hf, hR, z2_0, z2_1, z2_2⟩ := hp
  have hB := th_B_c hB hI1 hS hf (by decide)
  have fv_H2_18 : mo_f G H2 a0 18 = mo_f G H0 a0 18 := mo_f_F hf h0 (by decide) (by decide)
  have vv_H2_15 : mo_v G H2 a0 15 = mo_v G H0 a0 15 := mo_v_F (r := 55) hB.1 hf h0 rfl ro_55 (by decide) (by decide)
  have wd_H2 := mo_wd_F hB.2.2 h0 (by decide) k3
  have cr_H2 : mo_rd G H2 a0 cv := mo_rd_F hB.1 hB.2.2 h0 (by decide) k1
  replace hF := hF.trans (dv_bn2 (z2_2))
  refine W.eq (g2 := F0 m 5 ls []) rfl ?_
  have lp5 : ∀ (n5 : Nat) (H5 : Heap) (locs : List Loc) (ls : Array Slot) , th_B G Γ Γ [(46, 19), (46, 20), (46, 21)] H0 H5 locs → th_RC G Γ H5 → lv_has ls 2 [(0, .ref a0), (1, .int p1)] → F = dv_lp (f_X12_readSum_5b d (f_X12_readTerm d)) (dv G Γ H5, (a0 : Int), p1.toInt) → (∃ m : Int, mo_f G H5 a0 19 = m ∧ t ≤ m ∧ m ≤ mo_f G H0 a0 18 ∧ (mo_f G H5 a0 21 = -1 → mo_f G H0 a0 21 = -1 ∧ mo_pre cv (mo_term o cv d) mo_add t m)) → mo_f G H0 a0 18 - mo_f G H5 a0 19 + 1 ≤ (n5 : Int) → W p l e ({ frames := 14 + 3 * d, cells := 0, slots := 0, locals := 443 + d * 80 } : Room) s m ([.ref a0, .int p1] : List Value).toArray below meth c H5 locs 0 0 (MQ below (th_Q (fun (v : Option Value) (H1 : Heap) => v = none ∧ th_I G Γ H1 ∧ th_F G Γ [(46, 19), (46, 20), (46, 21)] H0 H1 ∧ th_RC G Γ H1 ∧ (t ≤ mo_f G H1 a0 19 ∧ mo_f G H1 a0 19 ≤ mo_f G H0 a0 18) ∧ (mo_f G H1 a0 21 = -1 → mo_f G H0 a0 21 = -1 ∧ mo_sum o cv d t (mo_f G H1 a0 19)) ∧ (f_X12_readSum d (dv G Γ H0) (a0 : Int) p1.toInt = (dv G Γ H1, 0))) G) ([.ref a0, .int p1] : List Value).toArray s 0 0 (fun q => G.2.2 ≤ q)) (F0 m 5 ls []) := by
    intro n5
    induction n5 with
    | zero => intro H5 locs ls hB hR hl hF g5_0 hm5; exact absurd hm5 (by have := mo_lpr g5_0; omega)
    | succ n5 ih5 =>
      intro H5 locs ls hB hR hl hF g5_0 hm5
      have wd_H5 := mo_wd_F hB.2.2 h0 (by decide) k3
      have cr_H5 : mo_rd G H5 a0 cv := mo_rd_F hB.1 hB.2.2 h0 (by decide) k1
      have fv1_18 : mo_f G H5 a0 18 = mo_f G H0 a0 18 := mo_f_F hB.2.2 h0 (by decide) (by decide)
      have vw_H5_15 : mo_v G H5 a0 15 = mo_v G H0 a0 15 := mo_v_F (r := 55) hB.1 hB.2.2 h0 rfl ro_55 (by decide) (by decide)
      have hm5 : mo_f G H0 a0 18 - mo_f G H5 a0 19 + 1 ≤ (n5 : Int) + 1 := by omega
      replace hF := hF.trans (dv_lp_eq)
      replace hF := hF.trans (congrArg (dv_k (f_X12_readSum_5b d (f_X12_readTerm d))) (f_X12_readSum_5c.eq_1 d (f_X12_readTerm d) (dv G Γ H5) ((a0 : Int)) (p1.toInt)))
      refine lv_aload_n hx hb dX12_readSum_5 rfl (lv_at hl 0 rfl) ?_
      obtain ⟨m5, a5, b5, c5, e5⟩ := g5_0
      refine lv_bipush (v := 43) hx hb dX12_readSum_6 (by decide) ?_
      refine th_call (th_runS (As := [.int 43]) (rest := [.ref a0]) hC mf_X12_sign km_X12_240 st_X12_sign (c_X12_sign l G Γ H5 hB.1 hU 43 (by decide) (by decide)) rfl rfl ⟨by dsimp only; omega, by dsimp only; omega⟩ rfl hl.1 rfl (Nat.le_of_ble_eq_true rfl) dX12_readSum_8 ⟨Nat.le_refl _, Nat.le_refl _⟩) hB.2.1 (fun v8 H8 locs hp hz hS => ?_)
      obtain ⟨x2, rfl, lx2, ux2, q8_0, q8_1, rfl⟩ := hp
      have hB := th_B_s hB hS
      have w8_0 := tk_43
      have zf8 := q8_1
      rw [tk_43] at zf8
      replace hF := hF.trans (congrArg (dv_k (f_X12_readSum_5b d (f_X12_readTerm d))) (dv_bn2 (zf8)))
      refine W.eq (g2 := F0 m 11 ls [.int x2, .ref a0]) rfl ?_
      refine th_call (th_runV (As := [.int x2]) (rest := []) hC mf_X12_takes0 km_X12_199 im_X12_takes0 se_X12_takes0 (c_X12_takes0 l G Γ H5 hB.1 hR hU a0 h0 x2 (by omega) cv m5 cr_H5 ⟨by omega, by omega, by omega⟩) rfl rfl ⟨by dsimp only; omega, by dsimp only; omega⟩ hB.1 h0 ro_46 rfl rfl hl.1 rfl (Nat.le_of_ble_eq_true rfl) dX12_readSum_11 ⟨Nat.le_refl _, Nat.le_refl _⟩) hB.2.1 (fun v11 H11 locs hp hz hS => ?_)
      obtain ⟨x3, rfl, lx3, ux3, hI1, hf, hR, z11_0, z11_1, z11_2, z11_3⟩ := hp
      have hB := th_B_c hB hI1 hS hf (by decide)
      have fv_H11_18 : mo_f G H11 a0 18 = mo_f G H5 a0 18 := mo_f_F hf h0 (by decide) (by decide)
      have fv_H11_21 : mo_f G H11 a0 21 = mo_f G H5 a0 21 := mo_f_F hf h0 (by decide) (by decide)
      have vv_H11_15 : mo_v G H11 a0 15 = mo_v G H5 a0 15 := mo_v_F (r := 55) hB.1 hf h0 rfl ro_55 (by decide) (by decide)
      have wd_H11 := mo_wd_F hB.2.2 h0 (by decide) k3
      have cr_H11 : mo_rd G H11 a0 cv := mo_rd_F hB.1 hB.2.2 h0 (by decide) k1
      replace hF := hF.trans (congrArg (dv_k (f_X12_readSum_5b d (f_X12_readTerm d))) (dv_bn2 (z11_3)))
      refine W.eq (g2 := F0 m 14 ls [.int x3]) rfl ?_
      refine tr_if_ne (tgt := 29) hx hb dX12_readSum_14 (by decide) (Eq.refl _) (fun c14 => ?_) (fun c14 => ?_)
      · specialize z11_0 (by omega); clear z11_1
        replace hF := hF.trans (congrArg (dv_k (f_X12_readSum_5b d (f_X12_readTerm d))) (if_pos c14))
        refine lv_aload_n hx hb dX12_readSum_29 rfl (lv_at hl 0 rfl) ?_
        refine lv_iload_n hx hb dX12_readSum_30 rfl (lv_at hl 1 rfl) ?_
        refine th_call (th_runV (As := [.int p1]) (rest := []) hC mf_X12_readTerm km_X12_244 im_X12_readTerm se_X12_readTerm (ihp l G Γ H11 hB.1 hR hU a0 h0 p1 (by omega) (by omega) o cv (m5 + 1) cr_H11 ⟨by omega, by omega, by omega⟩ wd_H11 (by omega)) rfl rfl ⟨by dsimp only; omega, by dsimp only; omega⟩ hB.1 h0 ro_46 rfl rfl hl.1 rfl (Nat.le_of_ble_eq_true rfl) dX12_readSum_31 ⟨Nat.le_refl _, Nat.le_refl _⟩) hB.2.1 (fun v31 H31 locs hp hz hS => ?_)
        obtain ⟨rfl, hI1, hf, hR, z31_0, z31_1, z31_2⟩ := hp
        have hB := th_B_c hB hI1 hS hf (by decide)
        have fv_H31_18 : mo_f G H31 a0 18 = mo_f G H11 a0 18 := mo_f_F hf h0 (by decide) (by decide)
        have vv_H31_15 : mo_v G H31 a0 15 = mo_v G H11 a0 15 := mo_v_F (r := 55) hB.1 hf h0 rfl ro_55 (by decide) (by decide)
        have wd_H31 := mo_wd_F hB.2.2 h0 (by decide) k3
        have cr_H31 : mo_rd G H31 a0 cv := mo_rd_F hB.1 hB.2.2 h0 (by decide) k1
        replace hF := hF.trans (congrArg (dv_k (f_X12_readSum_5b d (f_X12_readTerm d))) (dv_bn2 (z31_2)))
        refine W.eq (g2 := F0 m 34 ls []) rfl ?_
        refine lv_goto (tgt := 5) hx hb dX12_readSum_34 (by decide) ?_
        replace hF := hF.trans (dv_kl)
        exact ih5 H31 locs ls hB hR (lv_sub hl [0, 1] rfl) hF ⟨_, rfl, by omega, by omega, fun h9 => by obtain ⟨q3, q4⟩ := z31_1 h9; obtain ⟨q1, q2⟩ := e5 (by omega); exact ⟨q1, mo_pre_s q2 (show cv m5 = 143 ∨ cv m5 = 145 by omega) q4⟩⟩ (by omega)
      · specialize z11_1 (by omega); clear z11_0
        replace hF := hF.trans (congrArg (dv_k (f_X12_readSum_5b d (f_X12_readTerm d))) (if_neg (not_not_intro c14)))
        refine lv_aload_n hx hb dX12_readSum_17 rfl (lv_at hl 0 rfl) ?_
        refine lv_bipush (v := 45) hx hb dX12_readSum_18 (by decide) ?_
        refine th_call (th_runS (As := [.int 45]) (rest := [.ref a0]) hC mf_X12_sign km_X12_240 st_X12_sign (c_X12_sign l G Γ H11 hB.1 hU 45 (by decide) (by decide)) rfl rfl ⟨by dsimp only; omega, by dsimp only; omega⟩ rfl hl.1 rfl (Nat.le_of_ble_eq_true rfl) dX12_readSum_20 ⟨Nat.le_refl _, Nat.le_refl _⟩) hB.2.1 (fun v20 H20 locs hp hz hS => ?_)
        obtain ⟨x4, rfl, lx4, ux4, q20_0, q20_1, rfl⟩ := hp
        have hB := th_B_s hB hS
        have w20_0 := tk_45
        have zf20 := q20_1
        rw [tk_45] at zf20
        replace hF := hF.trans (congrArg (dv_k (f_X12_readSum_5b d (f_X12_readTerm d))) (dv_bn2 (zf20)))
        refine W.eq (g2 := F0 m 23 ls [.int x4, .ref a0]) rfl ?_
        refine th_call (th_runV (As := [.int x4]) (rest := []) hC mf_X12_takes0 km_X12_199 im_X12_takes0 se_X12_takes0 (c_X12_takes0 l G Γ H11 hB.1 hR hU a0 h0 x4 (by omega) cv m5 cr_H11 ⟨by omega, by omega, by omega⟩) rfl rfl ⟨by dsimp only; omega, by dsimp only; omega⟩ hB.1 h0 ro_46 rfl rfl hl.1 rfl (Nat.le_of_ble_eq_true rfl) dX12_readSum_23 ⟨Nat.le_refl _, Nat.le_refl _⟩) hB.2.1 (fun v23 H23 locs hp hz hS => ?_)
        obtain ⟨x5, rfl, lx5, ux5, hI1, hf, hR, z23_0, z23_1, z23_2, z23_3⟩ := hp
        have hB := th_B_c hB hI1 hS hf (by decide)
        have fv_H23_18 : mo_f G H23 a0 18 = mo_f G H11 a0 18 := mo_f_F hf h0 (by decide) (by decide)
        have fv_H23_21 : mo_f G H23 a0 21 = mo_f G H11 a0 21 := mo_f_F hf h0 (by decide) (by decide)
        have vv_H23_15 : mo_v G H23 a0 15 = mo_v G H11 a0 15 := mo_v_F (r := 55) hB.1 hf h0 rfl ro_55 (by decide) (by decide)
        have wd_H23 := mo_wd_F hB.2.2 h0 (by decide) k3
        have cr_H23 : mo_rd G H23 a0 cv := mo_rd_F hB.1 hB.2.2 h0 (by decide) k1
        replace hF := hF.trans (congrArg (dv_k (f_X12_readSum_5b d (f_X12_readTerm d))) (dv_bn2 (z23_3)))
        refine W.eq (g2 := F0 m 26 ls [.int x5]) rfl ?_
        refine tr_if_eq (tgt := 37) hx hb dX12_readSum_26 (by decide) (Eq.refl _) (fun c26 => ?_) (fun c26 => ?_)
        · specialize z23_1 (by omega); clear z23_0
          replace hF := hF.trans (congrArg (dv_k (f_X12_readSum_5b d (f_X12_readTerm d))) (if_pos c26))
          replace hF := hF.trans (dv_kr)
          exact th_vret hC hH hr hlocks hB.2.1 ⟨rfl, hB.1, hB.2.2, hR, ⟨by omega, by omega⟩, fun h9 => by obtain ⟨q1, q2⟩ := e5 (by omega); exact ⟨q1, by rw [show mo_f G H23 a0 19 = m5 by omega]; exact mo_pre_e q2 (show ¬ (cv m5 = 143 ∨ cv m5 = 145) by omega)⟩, (hF0.symm.trans hF)⟩ dX12_readSum_37
        · specialize z23_0 (by omega); clear z23_1
          replace hF := hF.trans (congrArg (dv_k (f_X12_readSum_5b d (f_X12_readTerm d))) (if_neg c26))
          refine lv_aload_n hx hb dX12_readSum_29 rfl (lv_at hl 0 rfl) ?_
          refine lv_iload_n hx hb dX12_readSum_30 rfl (lv_at hl 1 rfl) ?_
          refine th_call (th_runV (As := [.int p1]) (rest := []) hC mf_X12_readTerm km_X12_244 im_X12_readTerm se_X12_readTerm (ihp l G Γ H23 hB.1 hR hU a0 h0 p1 (by omega) (by omega) o cv (m5 + 1) cr_H23 ⟨by omega, by omega, by omega⟩ wd_H23 (by omega)) rfl rfl ⟨by dsimp only; omega, by dsimp only; omega⟩ hB.1 h0 ro_46 rfl rfl hl.1 rfl (Nat.le_of_ble_eq_true rfl) dX12_readSum_31 ⟨Nat.le_refl _, Nat.le_refl _⟩) hB.2.1 (fun v31 H31 locs hp hz hS => ?_)
          obtain ⟨rfl, hI1, hf, hR, z31_0, z31_1, z31_2⟩ := hp
          have hB := th_B_c hB hI1 hS hf (by decide)
          have fv_H31_18 : mo_f G H31 a0 18 = mo_f G H23 a0 18 := mo_f_F hf h0 (by decide) (by decide)
          have vv_H31_15 : mo_v G H31 a0 15 = mo_v G H23 a0 15 := mo_v_F (r := 55) hB.1 hf h0 rfl ro_55 (by decide) (by decide)
          have wd_H31 := mo_wd_F hB.2.2 h0 (by decide) k3
          have cr_H31 : mo_rd G H31 a0 cv := mo_rd_F hB.1 hB.2.2 h0 (by decide) k1
          replace hF := hF.trans (congrArg (dv_k (f_X12_readSum_5b d (f_X12_readTerm d))) (dv_bn2 (z31_2)))
          refine W.eq (g2 := F0 m 34 ls []) rfl ?_
          refine lv_goto (tgt := 5) hx hb dX12_readSum_34 (by decide) ?_
          replace hF := hF.trans (dv_kl)
          exact ih5 H31 locs ls hB hR (lv_sub hl [0, 1] rfl) hF ⟨_, rfl, by omega, by omega, fun h9 => by obtain ⟨q3, q4⟩ := z31_1 h9; obtain ⟨q1, q2⟩ := e5 (by omega); exact ⟨q1, mo_pre_s q2 (show cv m5 = 143 ∨ cv m5 = 145 by omega) q4⟩⟩ (by omega)
  exact lp5 (mo_f G H0 a0 18 - mo_f G H2 a0 19 + 1).toNat H2 locs ls hB hR (lv_sub hl [0, 1] rfl) hF ⟨_, rfl, by omega, by omega, fun h9 => ⟨(z2_1 h9).1, mo_pre_0 (z2_1 h9).2⟩⟩ (by omega)

theorem c_X12_readSum_d (d : Nat) : s_X12_readSum d := by
  induction d with
  | zero => exact (c_X12_readSum_s 0 (c_X12_readTerm_s 0 (c_X12_readPart_s 0 (fun d' h => absurd h (by omega)))))
  | succ d ih => exact (c_X12_readSum_s (d + 1) (c_X12_readTerm_s (d + 1) (c_X12_readPart_s (d + 1) (fun d' h => by cases h; exact ih))))
theorem c_X12_readPart_d (d : Nat) : s_X12_readPart d := c_X12_readPart_s d (fun d' _ => c_X12_readSum_d d')
theorem c_X12_readTerm_d (d : Nat) : s_X12_readTerm d := c_X12_readTerm_s d (c_X12_readPart_d d)
