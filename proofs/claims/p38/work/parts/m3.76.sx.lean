set_option maxHeartbeats 4000000 in
set_option maxRecDepth 100000 in
theorem c_X7_tallyKey_f (l : Launch) (G : th_G) (Γ : th_Ga) (H0 : Heap) (hI : th_I G Γ H0) (hR : th_RC G Γ H0) (hU : dv_U Γ) (a0 : Nat) (h0 : Γ a0 = (27, 0)) (p1 : Int64) (p2 : Int32) (nn7 : ∃ b : Nat, th_sl H0 a0 (G.1.1.2 7 7) = .ref b ∧ Γ b = (11, 0)) (nn8 : ∃ b : Nat, th_sl H0 a0 (G.1.1.2 7 8) = .ref b ∧ Γ b = (3, 0)) (gV : dV) (gX : Int → Nat → Int → Prop) (gf gs : Int) (gn : Nat) (gr gq : Nat → Int → Int) (hS9 : sS gV (a0 : Int) gf gX gs gn gr gq) (hX9 : ∀ a o : Nat, Γ a = (12, o) → ∀ m z, gX (a : Int) m z) (hV9 : sV (a0 : Int) gX gV (dv G Γ H0) ∧ pC (a0 : Int) gq gV (dv G Γ H0)) : Met l yX7_tallyKey (.code yX7_tallyKey cX7_tallyKey 7 (none) :: th_tb) ({ frames := 5, cells := 0, slots := 0, locals := 130 } : Room) (th_P [.ref a0, .long p1, .int p2] G H0) (th_Q (fun (v : Option Value) (H1 : Heap) => v = none ∧ th_I G Γ H1 ∧ th_F G Γ [(24, 0), (23, 3), (26, 0), (25, 0), (28, 0), (29, 0), (30, 0)] H0 H1 ∧ th_RC G Γ H1 ∧ ((sV (a0 : Int) gX gV (dv G Γ H1) ∧ pC (a0 : Int) gq gV (dv G Γ H1)))) G) 0 0 (fun q => G.1.2.2 ≤ q) := by
  refine th_met RX7 (by decide) rfl (Nat.le_of_ble_eq_true rfl) ?_
  intro p e s m below meth c hC hH hr hlocks hnm ls hl
  have hx := hC.1
  have hb := hC.2.1
  have hB : th_B G Γ Γ [(24, 0), (23, 3), (26, 0), (25, 0), (28, 0), (29, 0), (30, 0)] H0 H0 [] := ⟨hI, va_S.rf, th_F_rf⟩
  have hl : lv_has ls 7 [(0, .ref a0), (1, .long p1), (3, .int p2)] := hl
  have lp2 := ti_lo p2; have up2 := ti_hi p2
  obtain ⟨bn7, mbn7, hbn7⟩ := nn7
  obtain ⟨bn8, mbn8, hbn8⟩ := nn8
  refine lv_aload_n hx hb gX7_tallyKey_0.1 rfl (lv_at hl 0 rfl) ?_
  have ef9 : gf = (bn8 : Int) := hS9.1.1.symm.trans ((sS_sa hS9 hV9.1 (by decide) 0).symm.trans (dv_getR h0 ro_27 (j := 8) rfl mbn8 (by decide)))
  refine lv_lload_n hx hb gX7_tallyKey_0.2.1 rfl (lv_at hl 1 rfl) ?_
  refine lv_iconst (v := 0) hx hb gX7_tallyKey_0.2.2.1 (by decide) ?_
  refine th_call (th_runV (As := [.long p1, .int 0]) (rest := []) hC mf_X7_firstBare km_X7_104 im_X7_firstBare se_X7_firstBare (c_X7_firstBare l G Γ H0 hB.1 hU a0 h0 p1 0 (by decide) (by decide) ⟨_, mbn8, hbn8⟩) rfl rfl ⟨Nat.le_of_ble_eq_true rfl, Nat.le_of_ble_eq_true rfl⟩ hB.1 h0 ro_27 rfl rfl hl.1 rfl (Nat.le_of_ble_eq_true rfl) gX7_tallyKey_0.2.2.2.1 ⟨Nat.le_refl _, Nat.le_refl _⟩) hB.2.1 (fun v3 H3 locs hp hz hS => ?_)
  obtain ⟨x1, rfl, lx1, ux1, q3_0, rfl⟩ := hp
  have hB := th_B_s hB hS
  have w3_1 := tk_0
  refine W.eq (g2 := F0 m 6 ls [.int x1]) rfl ?_
  refine lv_istore (lv' := [(4, .int x1), (0, .ref a0), (1, .long p1), (3, .int p2)]) hx hb gX7_tallyKey_0.2.2.2.2.1 hl (by decide) rfl (fun ls hl => ?_)
  refine lv_iconst (v := 0) hx hb gX7_tallyKey_0.2.2.2.2.2.1 (by decide) ?_
  refine lv_istore (lv' := [(5, .int 0), (4, .int x1), (0, .ref a0), (1, .long p1), (3, .int p2)]) hx hb gX7_tallyKey_0.2.2.2.2.2.2.1 hl (by decide) rfl (fun ls hl => ?_)
  have lp11 : ∀ (n11 : Nat) (H11 : Heap) (locs : List Loc) (ls : Array Slot) (j11_5 : Int32), th_B G Γ Γ [(24, 0), (23, 3), (26, 0), (25, 0), (28, 0), (29, 0), (30, 0)] H0 H11 locs → th_RC G Γ H11 → lv_has ls 7 [(4, .int x1), (0, .ref a0), (1, .long p1), (3, .int p2), (5, .int j11_5)] → 0 ≤ j11_5.toInt → j11_5.toInt ≤ 9 → (sV (a0 : Int) gX gV (dv G Γ H11) ∧ pC (a0 : Int) gq gV (dv G Γ H11)) → (2147483648 : Int) - j11_5.toInt ≤ (n11 : Int) → W p l e ({ frames := 5, cells := 0, slots := 0, locals := 130 } : Room) s m ([.ref a0, .long p1, .int p2] : List Value).toArray below meth c H11 locs 0 0 (MQ below (th_Q (fun (v : Option Value) (H1 : Heap) => v = none ∧ th_I G Γ H1 ∧ th_F G Γ [(24, 0), (23, 3), (26, 0), (25, 0), (28, 0), (29, 0), (30, 0)] H0 H1 ∧ th_RC G Γ H1 ∧ ((sV (a0 : Int) gX gV (dv G Γ H1) ∧ pC (a0 : Int) gq gV (dv G Γ H1)))) G) ([.ref a0, .long p1, .int p2] : List Value).toArray s 0 0 (fun q => G.1.2.2 ≤ q)) (F0 m 11 ls []) := by
    intro n11
    induction n11 with
    | zero => intro H11 locs ls j11_5 hB hR hl g11_0 g11_1 g11_2 hm11; exact absurd hm11 (by have := ti_hi j11_5; omega)
    | succ n11 ih11 =>
      intro H11 locs ls j11_5 hB hR hl g11_0 g11_1 g11_2 hm11
      have lj11_5 := ti_lo j11_5; have uj11_5 := ti_hi j11_5
      have mm2 := (th_F_o hB.2.2 h0 ro_27 (j := 7) (by decide) (by decide)).trans mbn7
      have mm3 := (th_F_o hB.2.2 h0 ro_27 (j := 8) (by decide) (by decide)).trans mbn8
      have hm11 : (2147483648 : Int) - j11_5.toInt ≤ (n11 : Int) + 1 := by omega
      refine lv_iload hx hb gX7_tallyKey_0.2.2.2.2.2.2.2 (lv_at hl 4 rfl) ?_
      refine lv_aload_n hx hb gX7_tallyKey_1.1 rfl (lv_at hl 1 rfl) ?_
      refine th_getK hC cf_X7 hB.1 h0 ro_27 rfl (j := 8) (by decide) mm3 kf_X7_38 gX7_tallyKey_1.2.1 ?_
      refine th_getI (j := 7) hC cf_X1 hB.1 hbn8 ro_3 rfl rfl kf_X7_123 gX7_tallyKey_1.2.2.1 (fun x4 mx4 lx4 ux4 => ?_)
      have sx4 := (th_F_o hB.2.2 hbn8 ro_3 (j := 7) (by decide) (by decide)).symm.trans mx4
      have en9 : x4.toInt = (gn : Int) := (dv_getI hbn8 ro_3 (j := 7) rfl mx4 (by decide)).symm.trans (by rw [← ef9, sS_fl hS9 g11_2.1]; exact hS9.1.2.2)
      refine tr_icmp_ge (tgt := 121) hx hb gX7_tallyKey_1.2.2.2.1 (by decide) (Eq.refl _) (Eq.refl _) (fun c20 => ?_) (fun c20 => ?_)
      · exact th_vret hC hH hr hlocks hB.2.1 ⟨rfl, hB.1, hB.2.2, hR, g11_2⟩ gX7_tallyKey_7.2.2.2.2
      · refine lv_aload_n hx hb gX7_tallyKey_1.2.2.2.2.1 rfl (lv_at hl 1 rfl) ?_
        refine lv_lload_n hx hb gX7_tallyKey_1.2.2.2.2.2.1 rfl (lv_at hl 2 rfl) ?_
        refine lv_iload hx hb gX7_tallyKey_1.2.2.2.2.2.2.1 (lv_at hl 4 rfl) ?_
        refine lv_iload hx hb gX7_tallyKey_1.2.2.2.2.2.2.2 (lv_at hl 0 rfl) ?_
        refine th_call (th_runV (As := [.long p1, .int j11_5, .int x1]) (rest := []) hC mf_X7_fits km_X7_108 im_X7_fits se_X7_fits (c_X7_fits l G Γ H11 hB.1 hU a0 h0 p1 j11_5 x1 (by omega) (by omega) ⟨_, mm3, hbn8⟩) rfl rfl ⟨Nat.le_of_ble_eq_true rfl, Nat.le_of_ble_eq_true rfl⟩ hB.1 h0 ro_27 rfl rfl hl.1 rfl (Nat.le_of_ble_eq_true rfl) gX7_tallyKey_2.1 ⟨Nat.le_refl _, Nat.le_refl _⟩) hB.2.1 (fun v29 H29 locs hp hz hS => ?_)
        obtain ⟨x5, rfl, lx5, ux5, q29_0, q29_1, q29_2, q29_3, rfl⟩ := hp
        have hB := th_B_s hB hS
        refine W.eq (g2 := F0 m 32 ls [.int x5]) rfl ?_
        have jn115 : ∀ (H115 : Heap) (locs : List Loc) (ls : Array Slot) , th_B G Γ Γ [(24, 0), (23, 3), (26, 0), (25, 0), (28, 0), (29, 0), (30, 0)] H0 H115 locs → th_RC G Γ H115 → lv_has ls 7 [(4, .int x1), (0, .ref a0), (1, .long p1), (3, .int p2), (5, .int j11_5)] → (sV (a0 : Int) gX gV (dv G Γ H115) ∧ pC (a0 : Int) gq gV (dv G Γ H115)) → W p l e ({ frames := 5, cells := 0, slots := 0, locals := 130 } : Room) s m ([.ref a0, .long p1, .int p2] : List Value).toArray below meth c H115 locs 0 0 (MQ below (th_Q (fun (v : Option Value) (H1 : Heap) => v = none ∧ th_I G Γ H1 ∧ th_F G Γ [(24, 0), (23, 3), (26, 0), (25, 0), (28, 0), (29, 0), (30, 0)] H0 H1 ∧ th_RC G Γ H1 ∧ ((sV (a0 : Int) gX gV (dv G Γ H1) ∧ pC (a0 : Int) gq gV (dv G Γ H1)))) G) ([.ref a0, .long p1, .int p2] : List Value).toArray s 0 0 (fun q => G.1.2.2 ≤ q)) (F0 m 115 ls []) := by
          intro H115 locs ls hB hR hl g115_0
          have mm6 := (th_F_o hB.2.2 h0 ro_27 (j := 7) (by decide) (by decide)).trans mbn7
          have mm7 := (th_F_o hB.2.2 h0 ro_27 (j := 8) (by decide) (by decide)).trans mbn8
          have mm8 := (th_F_o hB.2.2 hbn8 ro_3 (j := 7) (by decide) (by decide)).trans sx4
          refine tr_iinc (fun x9 => [(5, .int x9), (4, .int x1), (0, .ref a0), (1, .long p1), (3, .int p2)]) hx hb gX7_tallyKey_7.2.2.1 hl (k := 4) rfl (Eq.refl _) tk_1 (by omega) (by omega) (by decide) (fun _ => rfl) (fun x9 ls ex9 hl => ?_)
          refine lv_goto (tgt := 11) hx hb gX7_tallyKey_7.2.2.2.1 (by decide) ?_
          exact ih11 H115 locs ls x9 hB hR (lv_sub hl [1, 2, 3, 4, 0] rfl) (by omega) (by omega) g115_0 (by omega)
        refine tr_if_eq (tgt := 115) hx hb gX7_tallyKey_2.2.1 (by decide) (Eq.refl _) (fun c32 => ?_) (fun c32 => ?_)
        · exact jn115 H11 locs ls hB hR (lv_sub hl [0, 1, 2, 3, 4] rfl) g11_2
        · refine lv_aload_n hx hb gX7_tallyKey_2.2.2.1 rfl (lv_at hl 1 rfl) ?_
          have ft := q29_2 (by omega)
          refine lv_iload hx hb gX7_tallyKey_2.2.2.2.1 (lv_at hl 4 rfl) ?_
          refine lv_iload hx hb gX7_tallyKey_2.2.2.2.2.1 (lv_at hl 0 rfl) ?_
          refine th_call (th_runV (As := [.int j11_5, .int x1]) (rest := []) hC mf_X7_priceAt km_X7_112 im_X7_priceAt se_X7_priceAt (c_X7_priceAt l G Γ H11 hB.1 hR hU a0 h0 j11_5 (by omega) (by omega) x1 (by omega) (by omega) ⟨_, mm2, hbn7⟩ ⟨_, mm3, hbn8⟩) rfl rfl ⟨Nat.le_of_ble_eq_true rfl, Nat.le_of_ble_eq_true rfl⟩ hB.1 h0 ro_27 rfl rfl hl.1 rfl (Nat.le_of_ble_eq_true rfl) gX7_tallyKey_2.2.2.2.2.2.1 ⟨Nat.le_refl _, Nat.le_refl _⟩) hB.2.1 (fun v40 H40 locs hp hz hS => ?_)
          obtain ⟨x10, rfl, hI1, hf, hR, z40_0⟩ := hp
          have hB := th_B_c hB hI1 hS hf (by decide)
          have mm11 := (th_F_o hf h0 ro_27 (j := 7) (by decide) (by decide)).trans mm2
          have mm12 := (th_F_o hf h0 ro_27 (j := 8) (by decide) (by decide)).trans mm3
          have mm13 := (th_F_o hf hbn8 ro_3 (j := 7) (by decide) (by decide)).trans mx4
          have mc14 := th_fit_F ft h0 hf (by decide)
          refine W.eq (g2 := F0 m 43 ls [.int x10]) rfl ?_
          have sv40 := s_prI hS9 g11_2 (by omega) (by omega) (by omega) (by omega) z40_0
          refine lv_iconst (v := (-1)) hx hb gX7_tallyKey_2.2.2.2.2.2.2.1 (by decide) ?_
          refine tr_icmp_ne (tgt := 50) hx hb gX7_tallyKey_2.2.2.2.2.2.2.2 (by decide) (Eq.refl _) tk_m1 (fun c44 => ?_) (fun c44 => ?_)
          · refine lv_aload_n hx hb gX7_tallyKey_3.2.1 rfl (lv_at hl 1 rfl) ?_
            refine th_getR (j := 0) (r2 := 12) hC cf_X7 hB.1 h0 ro_27 rfl rfl kf_X7_12 gX7_tallyKey_3.2.2.1 (fun b15 mb15 hb15 => ?_)
            have sb15 := (th_F_o hB.2.2 h0 ro_27 (j := 0) (by decide) (by decide)).symm.trans mb15
            refine lv_aload_n hx hb gX7_tallyKey_3.2.2.2.1 rfl (lv_at hl 1 rfl) ?_
            refine lv_lload_n hx hb gX7_tallyKey_3.2.2.2.2.1 rfl (lv_at hl 2 rfl) ?_
            refine lv_iload hx hb gX7_tallyKey_3.2.2.2.2.2.1 (lv_at hl 4 rfl) ?_
            refine lv_iload hx hb gX7_tallyKey_3.2.2.2.2.2.2.1 (lv_at hl 0 rfl) ?_
            refine th_call (th_runV (As := [.long p1, .int j11_5, .int x1]) (rest := [.ref b15]) hC mf_X7_keyWith km_X7_152 im_X7_keyWith se_X7_keyWith (c_X7_keyWith l G Γ H40 hB.1 hU a0 h0 p1 j11_5 (by omega) (by omega) x1 (by omega) (by omega) ⟨_, mm12, hbn8⟩) rfl rfl ⟨Nat.le_of_ble_eq_true rfl, Nat.le_of_ble_eq_true rfl⟩ hB.1 h0 ro_27 rfl rfl hl.1 rfl (Nat.le_of_ble_eq_true rfl) gX7_tallyKey_3.2.2.2.2.2.2.2 ⟨Nat.le_refl _, Nat.le_refl _⟩) hB.2.1 (fun v60 H60 locs hp hz hS => ?_)
            obtain ⟨y16, rfl, q60_0, rfl⟩ := hp
            have hB := th_B_s hB hS
            refine W.eq (g2 := F0 m 63 ls [.long y16, .ref b15]) rfl ?_
            refine th_call (th_runV (As := [.long y16]) (rest := []) hC mf_X3_find km_X7_145 im_X3_find se_X3_find (c_X3_find l G Γ H40 hB.1 hR b15 hb15 y16) rfl rfl ⟨Nat.le_of_ble_eq_true rfl, Nat.le_of_ble_eq_true rfl⟩ hB.1 hb15 ro_12 rfl rfl hl.1 rfl (Nat.le_of_ble_eq_true rfl) gX7_tallyKey_4.1 ⟨Nat.le_refl _, Nat.le_refl _⟩) hB.2.1 (fun v63 H63 locs hp hz hS => ?_)
            obtain ⟨x17, rfl, lx17, ux17, q63_0, rfl⟩ := hp
            have hB := th_B_s hB hS
            refine W.eq (g2 := F0 m 66 ls [.int x17]) rfl ?_
            refine lv_istore (lv' := [(6, .int x17), (4, .int x1), (0, .ref a0), (1, .long p1), (3, .int p2), (5, .int j11_5)]) hx hb gX7_tallyKey_4.2.1 hl (by decide) rfl (fun ls hl => ?_)
            refine lv_iload hx hb gX7_tallyKey_4.2.2.1 (lv_at hl 0 rfl) ?_
            refine lv_iconst (v := (-1)) hx hb gX7_tallyKey_4.2.2.2.1 (by decide) ?_
            refine tr_icmp_ne (tgt := 86) hx hb gX7_tallyKey_4.2.2.2.2.1 (by decide) (Eq.refl _) tk_m1 (fun c71 => ?_) (fun c71 => ?_)
            · refine lv_aload_n hx hb gX7_tallyKey_5.2.2.2.1 rfl (lv_at hl 2 rfl) ?_
              refine th_getK hC cf_X7 hB.1 h0 ro_27 rfl (j := 0) (by decide) mb15 kf_X7_12 gX7_tallyKey_5.2.2.2.2.1 ?_
              refine lv_iload hx hb gX7_tallyKey_5.2.2.2.2.2.1 (lv_at hl 0 rfl) ?_
              refine lv_iload_n hx hb gX7_tallyKey_5.2.2.2.2.2.2.1 rfl (lv_at hl 4 rfl) ?_
              have hIo := hB.1
              refine th_call (th_runV (As := [.int x17, .int p2]) (rest := []) hC mf_X3_addFlow km_X7_202 im_X3_addFlow se_X3_addFlow (c_X3_addFlow l G Γ H40 hB.1 hR b15 hb15 x17 p2) rfl rfl ⟨Nat.le_of_ble_eq_true rfl, Nat.le_of_ble_eq_true rfl⟩ hB.1 hb15 ro_12 rfl rfl hl.1 rfl (Nat.le_of_ble_eq_true rfl) gX7_tallyKey_5.2.2.2.2.2.2.2 ⟨Nat.le_refl _, Nat.le_refl _⟩) hB.2.1 (fun v93 H93 locs hp hz hS => ?_)
              obtain ⟨rfl, hI1, hf, hR⟩ := hp
              have hB := th_B_c hB hI1 hS hf (by decide)
              have mm18 := (th_F_o hf h0 ro_27 (j := 7) (by decide) (by decide)).trans mm11
              have mm19 := (th_F_o hf h0 ro_27 (j := 8) (by decide) (by decide)).trans mm12
              have mm20 := (th_F_o hf hbn8 ro_3 (j := 7) (by decide) (by decide)).trans mm13
              have mm21 := (th_F_o hf h0 ro_27 (j := 0) (by decide) (by decide)).trans mb15
              have mc22 := th_fit_F mc14 h0 hf (by decide)
              refine W.eq (g2 := F0 m 96 ls []) rfl ?_
              have sv93 := s_VX hS9.2.2.2.2.1.1 sv40 (fun b m z nb => sv_M hIo hB.1 hf (by decide) (fun a o q e => nb (by rw [e]; exact hX9 a o q _ _)))
              refine lv_aload_n hx hb gX7_tallyKey_6.1 rfl (lv_at hl 2 rfl) ?_
              refine lv_iload hx hb gX7_tallyKey_6.2.1 (lv_at hl 5 rfl) ?_
              refine lv_iload hx hb gX7_tallyKey_6.2.2.1 (lv_at hl 1 rfl) ?_
              refine lv_iload_n hx hb gX7_tallyKey_6.2.2.2.1 rfl (lv_at hl 4 rfl) ?_
              refine lv_aload_n hx hb gX7_tallyKey_6.2.2.2.2.1 rfl (lv_at hl 2 rfl) ?_
              refine th_getK hC cf_X7 hB.1 h0 ro_27 rfl (j := 0) (by decide) mm21 kf_X7_12 gX7_tallyKey_6.2.2.2.2.2.1 ?_
              refine lv_iload hx hb gX7_tallyKey_6.2.2.2.2.2.2.1 (lv_at hl 0 rfl) ?_
              refine th_call (th_runV (As := [.int x17]) (rest := [.int p2, .int x1, .int j11_5, .ref a0]) hC mf_X3_valueIn km_X7_149 im_X3_valueIn se_X3_valueIn (c_X3_valueIn l G Γ H93 hB.1 hR b15 hb15 x17) rfl rfl ⟨Nat.le_of_ble_eq_true rfl, Nat.le_of_ble_eq_true rfl⟩ hB.1 hb15 ro_12 rfl rfl hl.1 rfl (Nat.le_of_ble_eq_true rfl) gX7_tallyKey_6.2.2.2.2.2.2.2 ⟨Nat.le_refl _, Nat.le_refl _⟩) hB.2.1 (fun v108 H108 locs hp hz hS => ?_)
              obtain ⟨x23, rfl, q108_0, rfl⟩ := hp
              have hB := th_B_s hB hS
              refine W.eq (g2 := F0 m 111 ls [.int x23, .int p2, .int x1, .int j11_5, .ref a0]) rfl ?_
              refine lv_imul hx hb gX7_tallyKey_7.1 ?_
              refine lv_topi (fun x24 ex24 => ?_)
              have lx24 := ti_lo x24; have ux24 := ti_hi x24
              refine th_call (th_runV (As := [.int j11_5, .int x1, .int x24]) (rest := []) hC mf_X7_addToTally km_X7_222 im_X7_addToTally se_X7_addToTally (c_X7_addToTally l G Γ H93 hB.1 hR hU a0 h0 j11_5 (by omega) (by omega) x1 (by omega) (by omega) x24 ⟨_, mm19, hbn8⟩ mc22) rfl rfl ⟨Nat.le_of_ble_eq_true rfl, Nat.le_of_ble_eq_true rfl⟩ hB.1 h0 ro_27 rfl rfl hl.1 rfl (Nat.le_of_ble_eq_true rfl) gX7_tallyKey_7.2.1 ⟨Nat.le_refl _, Nat.le_refl _⟩) hB.2.1 (fun v112 H112 locs hp hz hS => ?_)
              obtain ⟨rfl, hI1, hf, hR, z112_0⟩ := hp
              have hB := th_B_c hB hI1 hS hf (by decide)
              have mm25 := (th_F_o hf h0 ro_27 (j := 7) (by decide) (by decide)).trans mm18
              have mm26 := (th_F_o hf h0 ro_27 (j := 8) (by decide) (by decide)).trans mm19
              have mm27 := (th_F_o hf hbn8 ro_3 (j := 7) (by decide) (by decide)).trans mm20
              have mm28 := (th_F_o hf h0 ro_27 (j := 0) (by decide) (by decide)).trans mm21
              have mc29 := th_fit_F mc22 h0 hf (by decide)
              refine W.eq (g2 := F0 m 115 ls []) rfl ?_
              have sv112 := s_add sv93 z112_0
              exact jn115 H112 locs ls hB hR (lv_sub hl [1, 2, 3, 4, 5] rfl) sv112
            · refine lv_aload_n hx hb gX7_tallyKey_4.2.2.2.2.2.1 rfl (lv_at hl 2 rfl) ?_
              refine lv_iload hx hb gX7_tallyKey_4.2.2.2.2.2.2.1 (lv_at hl 5 rfl) ?_
              refine lv_iload hx hb gX7_tallyKey_4.2.2.2.2.2.2.2 (lv_at hl 1 rfl) ?_
              refine lv_iload_n hx hb gX7_tallyKey_5.1 rfl (lv_at hl 4 rfl) ?_
              refine th_call (th_runV (As := [.int j11_5, .int x1, .int p2]) (rest := []) hC mf_X7_addToTally km_X7_222 im_X7_addToTally se_X7_addToTally (c_X7_addToTally l G Γ H40 hB.1 hR hU a0 h0 j11_5 (by omega) (by omega) x1 (by omega) (by omega) p2 ⟨_, mm12, hbn8⟩ mc14) rfl rfl ⟨Nat.le_of_ble_eq_true rfl, Nat.le_of_ble_eq_true rfl⟩ hB.1 h0 ro_27 rfl rfl hl.1 rfl (Nat.le_of_ble_eq_true rfl) gX7_tallyKey_5.2.1 ⟨Nat.le_refl _, Nat.le_refl _⟩) hB.2.1 (fun v80 H80 locs hp hz hS => ?_)
              obtain ⟨rfl, hI1, hf, hR, z80_0⟩ := hp
              have hB := th_B_c hB hI1 hS hf (by decide)
              have mm30 := (th_F_o hf h0 ro_27 (j := 7) (by decide) (by decide)).trans mm11
              have mm31 := (th_F_o hf h0 ro_27 (j := 8) (by decide) (by decide)).trans mm12
              have mm32 := (th_F_o hf hbn8 ro_3 (j := 7) (by decide) (by decide)).trans mm13
              have mm33 := (th_F_o hf h0 ro_27 (j := 0) (by decide) (by decide)).trans mb15
              have mc34 := th_fit_F mc14 h0 hf (by decide)
              refine W.eq (g2 := F0 m 83 ls []) rfl ?_
              have sv80 := s_add sv40 z80_0
              refine lv_goto (tgt := 115) hx hb gX7_tallyKey_5.2.2.1 (by decide) ?_
              exact jn115 H80 locs ls hB hR (lv_sub hl [1, 2, 3, 4, 5] rfl) sv80
          · refine lv_goto (tgt := 115) hx hb gX7_tallyKey_3.1 (by decide) ?_
            exact jn115 H40 locs ls hB hR (lv_sub hl [0, 1, 2, 3, 4] rfl) sv40
  exact lp11 ((2147483648 : Int) - (0)).toNat H0 locs ls 0 hB hR (lv_sub hl [1, 2, 3, 4, 0] rfl) (by decide) (by decide) hV9 (by have w0 := tk_0; omega)

def s_X7_tallyRow_f (d : Nat) : Prop := ∀ (l : Launch) (G : th_G) (Γ : th_Ga) (H0 : Heap) (hI : th_I G Γ H0) (hR : th_RC G Γ H0) (hU : dv_U Γ) (a0 : Nat) (h0 : Γ a0 = (27, 0)) (p1 : Int64) (p2 : Int32) (p3 : Int32) (f3 : 0 ≤ p3.toInt) (g3 : p3.toInt ≤ 144) (p4 : Int32) (f4 : 0 ≤ p4.toInt) (g4 : p4.toInt ≤ 9) (nn7 : ∃ b : Nat, th_sl H0 a0 (G.1.1.2 7 7) = .ref b ∧ Γ b = (11, 0)) (nn8 : ∃ b : Nat, th_sl H0 a0 (G.1.1.2 7 8) = .ref b ∧ Γ b = (3, 0)) (gV : dV) (gX : Int → Nat → Int → Prop) (gf gs : Int) (gn : Nat) (gr gq : Nat → Int → Int) (hS9 : sS gV (a0 : Int) gf gX gs gn gr gq) (hX9 : ∀ a o : Nat, Γ a = (12, o) → ∀ m z, gX (a : Int) m z) (hV9 : sV (a0 : Int) gX gV (dv G Γ H0) ∧ pC (a0 : Int) gq gV (dv G Γ H0)) (hdm : 9 ≤ p4.toInt + (d : Int)), Met l yX7_tallyRow (.code yX7_tallyRow cX7_tallyRow 10 (some FieldType.int) :: th_tb) ({ frames := 5 + d, cells := 0, slots := 0, locals := 130 + d * 29 } : Room) (th_P [.ref a0, .long p1, .int p2, .int p3, .int p4] G H0) (th_Q (fun (v : Option Value) (H1 : Heap) => ∃ r : Int32, v = some (.int r) ∧ th_I G Γ H1 ∧ th_F G Γ [(24, 0), (23, 3), (26, 0), (25, 0), (28, 0), (29, 0), (30, 0)] H0 H1 ∧ th_RC G Γ H1 ∧ ((sV (a0 : Int) gX gV (dv G Γ H1) ∧ pC (a0 : Int) gq gV (dv G Γ H1)))) G) 0 0 (fun q => G.1.2.2 ≤ q)
set_option maxHeartbeats 4000000 in
set_option maxRecDepth 100000 in
theorem c_X7_tallyRow_f_s (d : Nat) (ihd : ∀ d', d = d' + 1 → s_X7_tallyRow_f d') : s_X7_tallyRow_f d := by
  intro l G Γ H0 hI hR hU a0 h0 p1 p2 p3 f3 g3 p4 f4 g4 nn7 nn8 gV gX gf gs gn gr gq hS9 hX9 hV9 hdm
  refine th_met RX7 (by decide) rfl (Nat.le_of_ble_eq_true rfl) ?_
  intro p e s m below meth c hC hH hr hlocks hnm ls hl
  have hx := hC.1
  have hb := hC.2.1
  have hB : th_B G Γ Γ [(24, 0), (23, 3), (26, 0), (25, 0), (28, 0), (29, 0), (30, 0)] H0 H0 [] := ⟨hI, va_S.rf, th_F_rf⟩
  have hl : lv_has ls 10 [(0, .ref a0), (1, .long p1), (3, .int p2), (4, .int p3), (5, .int p4)] := hl
  have lp2 := ti_lo p2; have up2 := ti_hi p2
  have lp3 := ti_lo p3; have up3 := ti_hi p3
  have lp4 := ti_lo p4; have up4 := ti_hi p4
  obtain ⟨bn7, mbn7, hbn7⟩ := nn7
  obtain ⟨bn8, mbn8, hbn8⟩ := nn8
  refine lv_iload_n hx hb gX7_tallyRow_0.1 rfl (lv_at hl 2 rfl) ?_
  have ef9 : gf = (bn8 : Int) := hS9.1.1.symm.trans ((sS_sa hS9 hV9.1 (by decide) 0).symm.trans (dv_getR h0 ro_27 (j := 8) rfl mbn8 (by decide)))
  refine tr_if_ne (tgt := 6) hx hb gX7_tallyRow_0.2.1 (by decide) (Eq.refl _) (fun c1 => ?_) (fun c1 => ?_)
  · refine lv_aload_n hx hb gX7_tallyRow_0.2.2.2.2.1 rfl (lv_at hl 0 rfl) ?_
    refine lv_lload_n hx hb gX7_tallyRow_0.2.2.2.2.2.1 rfl (lv_at hl 1 rfl) ?_
    refine lv_iload hx hb gX7_tallyRow_0.2.2.2.2.2.2.1 (lv_at hl 3 rfl) ?_
    refine th_call (th_runV (As := [.long p1, .int p3]) (rest := []) hC mf_X7_firstBare km_X7_104 im_X7_firstBare se_X7_firstBare (c_X7_firstBare l G Γ H0 hB.1 hU a0 h0 p1 p3 (by omega) (by omega) ⟨_, mbn8, hbn8⟩) rfl rfl ⟨by dsimp only; omega, by dsimp only; omega⟩ hB.1 h0 ro_27 rfl rfl hl.1 rfl (Nat.le_of_ble_eq_true rfl) gX7_tallyRow_0.2.2.2.2.2.2.2 ⟨Nat.le_refl _, Nat.le_refl _⟩) hB.2.1 (fun v10 H10 locs hp hz hS => ?_)
    obtain ⟨x1, rfl, lx1, ux1, q10_0, rfl⟩ := hp
    have hB := th_B_s hB hS
    refine W.eq (g2 := F0 m 13 ls [.int x1]) rfl ?_
    refine lv_istore (lv' := [(6, .int x1), (0, .ref a0), (1, .long p1), (3, .int p2), (4, .int p3), (5, .int p4)]) hx hb gX7_tallyRow_1.1 hl (by decide) rfl (fun ls hl => ?_)
    refine lv_iconst (v := 0) hx hb gX7_tallyRow_1.2.1 (by decide) ?_
    refine lv_istore (lv' := [(7, .int 0), (6, .int x1), (0, .ref a0), (1, .long p1), (3, .int p2), (4, .int p3), (5, .int p4)]) hx hb gX7_tallyRow_1.2.2.1 hl (by decide) rfl (fun ls hl => ?_)
    refine lv_iconst (v := 0) hx hb gX7_tallyRow_1.2.2.2.1 (by decide) ?_
    refine lv_istore (lv' := [(8, .int 0), (7, .int 0), (6, .int x1), (0, .ref a0), (1, .long p1), (3, .int p2), (4, .int p3), (5, .int p4)]) hx hb gX7_tallyRow_1.2.2.2.2.1 hl (by decide) rfl (fun ls hl => ?_)
    have lp21 : ∀ (n21 : Nat) (H21 : Heap) (locs : List Loc) (ls : Array Slot) (j21_7 : Int32) (j21_8 : Int32), th_B G Γ Γ [(24, 0), (23, 3), (26, 0), (25, 0), (28, 0), (29, 0), (30, 0)] H0 H21 locs → th_RC G Γ H21 → lv_has ls 10 [(6, .int x1), (0, .ref a0), (1, .long p1), (3, .int p2), (5, .int p4), (7, .int j21_7), (8, .int j21_8)] → 0 ≤ j21_8.toInt → j21_8.toInt ≤ 9 → (sV (a0 : Int) gX gV (dv G Γ H21) ∧ pC (a0 : Int) gq gV (dv G Γ H21)) → (2147483648 : Int) - j21_8.toInt ≤ (n21 : Int) → W p l e ({ frames := 5 + d, cells := 0, slots := 0, locals := 130 + d * 29 } : Room) s m ([.ref a0, .long p1, .int p2, .int p3, .int p4] : List Value).toArray below meth c H21 locs 0 0 (MQ below (th_Q (fun (v : Option Value) (H1 : Heap) => ∃ r : Int32, v = some (.int r) ∧ th_I G Γ H1 ∧ th_F G Γ [(24, 0), (23, 3), (26, 0), (25, 0), (28, 0), (29, 0), (30, 0)] H0 H1 ∧ th_RC G Γ H1 ∧ ((sV (a0 : Int) gX gV (dv G Γ H1) ∧ pC (a0 : Int) gq gV (dv G Γ H1)))) G) ([.ref a0, .long p1, .int p2, .int p3, .int p4] : List Value).toArray s 0 0 (fun q => G.1.2.2 ≤ q)) (F0 m 21 ls []) := by
      intro n21
      induction n21 with
      | zero => intro H21 locs ls j21_7 j21_8 hB hR hl g21_0 g21_1 g21_2 hm21; exact absurd hm21 (by have := ti_hi j21_8; omega)
      | succ n21 ih21 =>
        intro H21 locs ls j21_7 j21_8 hB hR hl g21_0 g21_1 g21_2 hm21
        have lj21_7 := ti_lo j21_7; have uj21_7 := ti_hi j21_7
        have lj21_8 := ti_lo j21_8; have uj21_8 := ti_hi j21_8
        have mm2 := (th_F_o hB.2.2 h0 ro_27 (j := 7) (by decide) (by decide)).trans mbn7
        have mm3 := (th_F_o hB.2.2 h0 ro_27 (j := 8) (by decide) (by decide)).trans mbn8
        have hm21 : (2147483648 : Int) - j21_8.toInt ≤ (n21 : Int) + 1 := by omega
        refine lv_iload hx hb gX7_tallyRow_1.2.2.2.2.2.1 (lv_at hl 6 rfl) ?_
        refine lv_aload_n hx hb gX7_tallyRow_1.2.2.2.2.2.2.1 rfl (lv_at hl 1 rfl) ?_
        refine th_getK hC cf_X7 hB.1 h0 ro_27 rfl (j := 8) (by decide) mm3 kf_X7_38 gX7_tallyRow_1.2.2.2.2.2.2.2 ?_
        refine th_getI (j := 7) hC cf_X1 hB.1 hbn8 ro_3 rfl rfl kf_X7_123 gX7_tallyRow_2.1 (fun x4 mx4 lx4 ux4 => ?_)
        have sx4 := (th_F_o hB.2.2 hbn8 ro_3 (j := 7) (by decide) (by decide)).symm.trans mx4
        have en9 : x4.toInt = (gn : Int) := (dv_getI hbn8 ro_3 (j := 7) rfl mx4 (by decide)).symm.trans (by rw [← ef9, sS_fl hS9 g21_2.1]; exact hS9.1.2.2)
        refine tr_icmp_ge (tgt := 134) hx hb gX7_tallyRow_2.2.1 (by decide) (Eq.refl _) (Eq.refl _) (fun c30 => ?_) (fun c30 => ?_)
        · refine lv_iload hx hb gX7_tallyRow_8.2.2.2.2.2.2.1 (lv_at hl 5 rfl) ?_
          exact th_iret hC hH hr hlocks rfl hB.2.1 ⟨_, rfl, hB.1, hB.2.2, hR, g21_2⟩ gX7_tallyRow_8.2.2.2.2.2.2.2
        · refine lv_iload hx hb gX7_tallyRow_2.2.2.1 (lv_at hl 4 rfl) ?_
          refine lv_bipush (v := 9) hx hb gX7_tallyRow_2.2.2.2.1 (by decide) ?_
          refine tr_icmp_ge (tgt := 134) hx hb gX7_tallyRow_2.2.2.2.2.1 (by decide) (Eq.refl _) tk_9 (fun c37 => ?_) (fun c37 => ?_)
          · refine lv_iload hx hb gX7_tallyRow_8.2.2.2.2.2.2.1 (lv_at hl 5 rfl) ?_
            exact th_iret hC hH hr hlocks rfl hB.2.1 ⟨_, rfl, hB.1, hB.2.2, hR, g21_2⟩ gX7_tallyRow_8.2.2.2.2.2.2.2
          · refine lv_aload_n hx hb gX7_tallyRow_2.2.2.2.2.2.1 rfl (lv_at hl 1 rfl) ?_
            refine lv_lload_n hx hb gX7_tallyRow_2.2.2.2.2.2.2.1 rfl (lv_at hl 2 rfl) ?_
            refine lv_iload hx hb gX7_tallyRow_2.2.2.2.2.2.2.2 (lv_at hl 6 rfl) ?_
            refine lv_iload hx hb gX7_tallyRow_3.1 (lv_at hl 0 rfl) ?_
            refine th_call (th_runV (As := [.long p1, .int j21_8, .int x1]) (rest := []) hC mf_X7_fits km_X7_108 im_X7_fits se_X7_fits (c_X7_fits l G Γ H21 hB.1 hU a0 h0 p1 j21_8 x1 (by omega) (by omega) ⟨_, mm3, hbn8⟩) rfl rfl ⟨by dsimp only; omega, by dsimp only; omega⟩ hB.1 h0 ro_27 rfl rfl hl.1 rfl (Nat.le_of_ble_eq_true rfl) gX7_tallyRow_3.2.1 ⟨Nat.le_refl _, Nat.le_refl _⟩) hB.2.1 (fun v46 H46 locs hp hz hS => ?_)
            obtain ⟨x5, rfl, lx5, ux5, q46_0, q46_1, q46_2, q46_3, rfl⟩ := hp
            have hB := th_B_s hB hS
            refine W.eq (g2 := F0 m 49 ls [.int x5]) rfl ?_
            have jn128 : ∀ (H128 : Heap) (locs : List Loc) (ls : Array Slot) (j128_7 : Int32), th_B G Γ Γ [(24, 0), (23, 3), (26, 0), (25, 0), (28, 0), (29, 0), (30, 0)] H0 H128 locs → th_RC G Γ H128 → lv_has ls 10 [(6, .int x1), (0, .ref a0), (1, .long p1), (3, .int p2), (5, .int p4), (8, .int j21_8), (7, .int j128_7)] → (sV (a0 : Int) gX gV (dv G Γ H128) ∧ pC (a0 : Int) gq gV (dv G Γ H128)) → W p l e ({ frames := 5 + d, cells := 0, slots := 0, locals := 130 + d * 29 } : Room) s m ([.ref a0, .long p1, .int p2, .int p3, .int p4] : List Value).toArray below meth c H128 locs 0 0 (MQ below (th_Q (fun (v : Option Value) (H1 : Heap) => ∃ r : Int32, v = some (.int r) ∧ th_I G Γ H1 ∧ th_F G Γ [(24, 0), (23, 3), (26, 0), (25, 0), (28, 0), (29, 0), (30, 0)] H0 H1 ∧ th_RC G Γ H1 ∧ ((sV (a0 : Int) gX gV (dv G Γ H1) ∧ pC (a0 : Int) gq gV (dv G Γ H1)))) G) ([.ref a0, .long p1, .int p2, .int p3, .int p4] : List Value).toArray s 0 0 (fun q => G.1.2.2 ≤ q)) (F0 m 128 ls []) := by
              intro H128 locs ls j128_7 hB hR hl g128_0
              have lj128_7 := ti_lo j128_7; have uj128_7 := ti_hi j128_7
              have mm6 := (th_F_o hB.2.2 h0 ro_27 (j := 7) (by decide) (by decide)).trans mbn7
              have mm7 := (th_F_o hB.2.2 h0 ro_27 (j := 8) (by decide) (by decide)).trans mbn8
              have mm8 := (th_F_o hB.2.2 hbn8 ro_3 (j := 7) (by decide) (by decide)).trans sx4
              refine tr_iinc (fun x9 => [(8, .int x9), (6, .int x1), (0, .ref a0), (1, .long p1), (3, .int p2), (5, .int p4), (7, .int j128_7)]) hx hb gX7_tallyRow_8.2.2.2.2.1 hl (k := 5) rfl (Eq.refl _) tk_1 (by omega) (by omega) (by decide) (fun _ => rfl) (fun x9 ls ex9 hl => ?_)
              refine lv_goto (tgt := 21) hx hb gX7_tallyRow_8.2.2.2.2.2.1 (by decide) ?_
              exact ih21 H128 locs ls j128_7 x9 hB hR (lv_sub hl [1, 2, 3, 4, 5, 6, 0] rfl) (by omega) (by omega) g128_0 (by omega)
            refine tr_if_eq (tgt := 128) hx hb gX7_tallyRow_3.2.2.1 (by decide) (Eq.refl _) (fun c49 => ?_) (fun c49 => ?_)
            · exact jn128 H21 locs ls j21_7 hB hR (lv_sub hl [0, 1, 2, 3, 4, 6, 5] rfl) g21_2
            · refine lv_aload_n hx hb gX7_tallyRow_3.2.2.2.1 rfl (lv_at hl 1 rfl) ?_
              have ft := q46_2 (by omega)
              refine lv_iload hx hb gX7_tallyRow_3.2.2.2.2.1 (lv_at hl 6 rfl) ?_
              refine lv_iload hx hb gX7_tallyRow_3.2.2.2.2.2.1 (lv_at hl 0 rfl) ?_
              refine th_call (th_runV (As := [.int j21_8, .int x1]) (rest := []) hC mf_X7_priceAt km_X7_112 im_X7_priceAt se_X7_priceAt (c_X7_priceAt l G Γ H21 hB.1 hR hU a0 h0 j21_8 (by omega) (by omega) x1 (by omega) (by omega) ⟨_, mm2, hbn7⟩ ⟨_, mm3, hbn8⟩) rfl rfl ⟨by dsimp only; omega, by dsimp only; omega⟩ hB.1 h0 ro_27 rfl rfl hl.1 rfl (Nat.le_of_ble_eq_true rfl) gX7_tallyRow_3.2.2.2.2.2.2.1 ⟨Nat.le_refl _, Nat.le_refl _⟩) hB.2.1 (fun v57 H57 locs hp hz hS => ?_)
              obtain ⟨x10, rfl, hI1, hf, hR, z57_0⟩ := hp
              have hB := th_B_c hB hI1 hS hf (by decide)
              have mm11 := (th_F_o hf h0 ro_27 (j := 7) (by decide) (by decide)).trans mm2
              have mm12 := (th_F_o hf h0 ro_27 (j := 8) (by decide) (by decide)).trans mm3
              have mm13 := (th_F_o hf hbn8 ro_3 (j := 7) (by decide) (by decide)).trans mx4
              have mc14 := th_fit_F ft h0 hf (by decide)
              refine W.eq (g2 := F0 m 60 ls [.int x10]) rfl ?_
              have sv57 := s_prI hS9 g21_2 (by omega) (by omega) (by omega) (by omega) z57_0
              refine lv_iconst (v := (-1)) hx hb gX7_tallyRow_3.2.2.2.2.2.2.2 (by decide) ?_
              refine tr_icmp_ne (tgt := 67) hx hb gX7_tallyRow_4.1 (by decide) (Eq.refl _) tk_m1 (fun c61 => ?_) (fun c61 => ?_)
              · refine lv_aload_n hx hb gX7_tallyRow_4.2.2.1 rfl (lv_at hl 1 rfl) ?_
                refine lv_aload_n hx hb gX7_tallyRow_4.2.2.2.1 rfl (lv_at hl 1 rfl) ?_
                refine lv_lload_n hx hb gX7_tallyRow_4.2.2.2.2.1 rfl (lv_at hl 2 rfl) ?_
                refine lv_iload hx hb gX7_tallyRow_4.2.2.2.2.2.1 (lv_at hl 6 rfl) ?_
                refine lv_iload hx hb gX7_tallyRow_4.2.2.2.2.2.2.1 (lv_at hl 0 rfl) ?_
                refine th_call (th_runV (As := [.long p1, .int j21_8, .int x1]) (rest := [.ref a0]) hC mf_X7_keyWith km_X7_152 im_X7_keyWith se_X7_keyWith (c_X7_keyWith l G Γ H57 hB.1 hU a0 h0 p1 j21_8 (by omega) (by omega) x1 (by omega) (by omega) ⟨_, mm12, hbn8⟩) rfl rfl ⟨by dsimp only; omega, by dsimp only; omega⟩ hB.1 h0 ro_27 rfl rfl hl.1 rfl (Nat.le_of_ble_eq_true rfl) gX7_tallyRow_4.2.2.2.2.2.2.2 ⟨Nat.le_refl _, Nat.le_refl _⟩) hB.2.1 (fun v74 H74 locs hp hz hS => ?_)
                obtain ⟨y15, rfl, q74_0, rfl⟩ := hp
                have hB := th_B_s hB hS
                refine W.eq (g2 := F0 m 77 ls [.long y15, .ref a0]) rfl ?_
                refine lv_iload_n hx hb gX7_tallyRow_5.1 rfl (lv_at hl 3 rfl) ?_
                refine lv_aload_n hx hb gX7_tallyRow_5.2.1 rfl (lv_at hl 1 rfl) ?_
                refine th_getK hC cf_X7 hB.1 h0 ro_27 rfl (j := 8) (by decide) mm12 kf_X7_38 gX7_tallyRow_5.2.2.1 ?_
                refine th_getO (j := 0) (r2 := 4) hC cf_X1 hB.1 hbn8 ro_3 rfl rfl kf_X7_87 gX7_tallyRow_5.2.2.2.1 (fun b16 mb16 hb16 => ?_)
                have sb16 := (th_F_o hB.2.2 hbn8 ro_3 (j := 0) (by decide) (by decide)).symm.trans mb16
                refine lv_iload hx hb gX7_tallyRow_5.2.2.2.2.1 (lv_at hl 6 rfl) ?_
                refine th_ialdF hC hB.1 hb16 ro_4 rfl (Eq.refl _) (by omega) (by omega) rfl gX7_tallyRow_5.2.2.2.2.2.1 (fun x17 mx17 lx17 ux17 => ?_)
                refine lv_aload_n hx hb gX7_tallyRow_5.2.2.2.2.2.2.1 rfl (lv_at hl 1 rfl) ?_
                refine th_getK hC cf_X7 hB.1 h0 ro_27 rfl (j := 8) (by decide) mm12 kf_X7_38 gX7_tallyRow_5.2.2.2.2.2.2.2 ?_
                refine th_getK hC cf_X1 hB.1 hbn8 ro_3 rfl (j := 0) (by decide) mb16 kf_X7_87 gX7_tallyRow_6.1 ?_
                refine lv_iload hx hb gX7_tallyRow_6.2.1 (lv_at hl 6 rfl) ?_
                refine th_ialdF hC hB.1 hb16 ro_4 rfl (Eq.refl _) (by omega) (by omega) rfl gX7_tallyRow_6.2.2.1 (fun x18 mx18 lx18 ux18 => ?_)
                have qx18 : x18.toInt = x17.toInt := by rw [show x18 = x17 from Value.int.inj (mx18.symm.trans mx17)]
                have q20 := ti_mulr (a := x17.toInt) (b := x18.toInt) (A := 12) (B := 12) (by omega) (by omega) (by omega) (by omega)
                generalize hex19 : x17.toInt * x18.toInt = wx19 at q20
                refine tr_imul hx hb gX7_tallyRow_6.2.2.2.1 (Eq.refl _) (Eq.refl _) (by rw [hex19]; omega) (by rw [hex19]; omega) (fun x19 ex19 => ?_)
                rw [hex19] at ex19
                refine lv_isub hx hb gX7_tallyRow_6.2.2.2.2.1 ?_
                refine lv_topi (fun x21 ex21 => ?_)
                have lx21 := ti_lo x21; have ux21 := ti_hi x21
                refine lv_iload hx hb gX7_tallyRow_6.2.2.2.2.2.1 (lv_at hl 0 rfl) ?_
                refine lv_iload hx hb gX7_tallyRow_6.2.2.2.2.2.2.1 (lv_at hl 4 rfl) ?_
                refine lv_iconst (v := 1) hx hb gX7_tallyRow_6.2.2.2.2.2.2.2 (by decide) ?_
                refine tr_iadd hx hb gX7_tallyRow_7.1 (Eq.refl _) tk_1 (by omega) (by omega) (fun x22 ex22 => ?_)
                obtain ⟨d', hd'⟩ : ∃ d', d = d' + 1 := ⟨d - 1, by omega⟩
                refine th_call (th_runV (As := [.long y15, .int x21, .int x1, .int x22]) (rest := []) hC mf_X7_tallyRow km_X7_199 im_X7_tallyRow se_X7_tallyRow (ihd d' hd' l G Γ H57 hB.1 hR hU a0 h0 y15 x21 x1 (by omega) (by omega) x22 (by omega) (by omega) ⟨_, mm11, hbn7⟩ ⟨_, mm12, hbn8⟩ gV gX gf gs gn gr gq hS9 hX9 sv57 (by omega)) rfl rfl ⟨by dsimp only; omega, by dsimp only; omega⟩ hB.1 h0 ro_27 rfl rfl hl.1 rfl (Nat.le_of_ble_eq_true rfl) gX7_tallyRow_7.2.1 ⟨Nat.le_refl _, Nat.le_refl _⟩) hB.2.1 (fun v106 H106 locs hp hz hS => ?_)
                obtain ⟨x23, rfl, hI1, hf, hR, z106_0⟩ := hp
                have hB := th_B_c hB hI1 hS hf (by decide)
                have mm24 := (th_F_o hf h0 ro_27 (j := 7) (by decide) (by decide)).trans mm11
                have mm25 := (th_F_o hf h0 ro_27 (j := 8) (by decide) (by decide)).trans mm12
                have mm26 := (th_F_o hf hbn8 ro_3 (j := 7) (by decide) (by decide)).trans mm13
                have mm27 := (th_F_o hf hbn8 ro_3 (j := 0) (by decide) (by decide)).trans mb16
                have mc28 := th_fit_F mc14 h0 hf (by decide)
                refine W.eq (g2 := F0 m 109 ls [.int x23]) rfl ?_
                have sv106 := z106_0
                refine lv_istore (lv' := [(9, .int x23), (6, .int x1), (0, .ref a0), (1, .long p1), (3, .int p2), (5, .int p4), (7, .int j21_7), (8, .int j21_8)]) hx hb gX7_tallyRow_7.2.2.1 hl (by decide) rfl (fun ls hl => ?_)
                refine lv_aload_n hx hb gX7_tallyRow_7.2.2.2.1 rfl (lv_at hl 2 rfl) ?_
                refine lv_iload hx hb gX7_tallyRow_7.2.2.2.2.1 (lv_at hl 7 rfl) ?_
                refine lv_iload hx hb gX7_tallyRow_7.2.2.2.2.2.1 (lv_at hl 1 rfl) ?_
                refine lv_iload hx hb gX7_tallyRow_7.2.2.2.2.2.2.1 (lv_at hl 0 rfl) ?_
                refine th_call (th_runV (As := [.int j21_8, .int x1, .int x23]) (rest := []) hC mf_X7_addToTally km_X7_222 im_X7_addToTally se_X7_addToTally (c_X7_addToTally l G Γ H106 hB.1 hR hU a0 h0 j21_8 (by omega) (by omega) x1 (by omega) (by omega) x23 ⟨_, mm25, hbn8⟩ mc28) rfl rfl ⟨by dsimp only; omega, by dsimp only; omega⟩ hB.1 h0 ro_27 rfl rfl hl.1 rfl (Nat.le_of_ble_eq_true rfl) gX7_tallyRow_7.2.2.2.2.2.2.2 ⟨Nat.le_refl _, Nat.le_refl _⟩) hB.2.1 (fun v118 H118 locs hp hz hS => ?_)
                obtain ⟨rfl, hI1, hf, hR, z118_0⟩ := hp
                have hB := th_B_c hB hI1 hS hf (by decide)
                have mm29 := (th_F_o hf h0 ro_27 (j := 7) (by decide) (by decide)).trans mm24
                have mm30 := (th_F_o hf h0 ro_27 (j := 8) (by decide) (by decide)).trans mm25
                have mm31 := (th_F_o hf hbn8 ro_3 (j := 7) (by decide) (by decide)).trans mm26
                have mm32 := (th_F_o hf hbn8 ro_3 (j := 0) (by decide) (by decide)).trans mm27
                have mc33 := th_fit_F mc28 h0 hf (by decide)
                refine W.eq (g2 := F0 m 121 ls []) rfl ?_
                have sv118 := s_add sv106 z118_0
                refine lv_iload hx hb gX7_tallyRow_8.1 (lv_at hl 6 rfl) ?_
                refine lv_iload hx hb gX7_tallyRow_8.2.1 (lv_at hl 0 rfl) ?_
                refine lv_iadd hx hb gX7_tallyRow_8.2.2.1 ?_
                refine lv_topi (fun x34 ex34 => ?_)
                have lx34 := ti_lo x34; have ux34 := ti_hi x34
                refine lv_istore (lv' := [(7, .int x34), (9, .int x23), (6, .int x1), (0, .ref a0), (1, .long p1), (3, .int p2), (5, .int p4), (8, .int j21_8)]) hx hb gX7_tallyRow_8.2.2.2.1 hl (by decide) rfl (fun ls hl => ?_)
                exact jn128 H118 locs ls x34 hB hR (lv_sub hl [2, 3, 4, 5, 6, 7, 0] rfl) sv118
              · refine lv_goto (tgt := 128) hx hb gX7_tallyRow_4.2.1 (by decide) ?_
                exact jn128 H57 locs ls j21_7 hB hR (lv_sub hl [0, 1, 2, 3, 4, 6, 5] rfl) sv57
    exact lp21 ((2147483648 : Int) - (0)).toNat H0 locs ls 0 0 hB hR (lv_sub hl [2, 3, 4, 5, 7, 1, 0] rfl) (by decide) (by decide) hV9 (by have w0 := tk_0; omega)
  · refine lv_iconst (v := 1) hx hb gX7_tallyRow_0.2.2.1 (by decide) ?_
    exact th_iret hC hH hr hlocks rfl hB.2.1 ⟨_, rfl, hB.1, hB.2.2, hR, hV9⟩ gX7_tallyRow_0.2.2.2.1
theorem c_X7_tallyRow_f_d (d : Nat) : s_X7_tallyRow_f d := by
  induction d with
  | zero => exact c_X7_tallyRow_f_s 0 (fun d' h => absurd h (by omega))
  | succ d ih => exact c_X7_tallyRow_f_s (d + 1) (fun d' h => by cases h; exact ih)
theorem c_X7_tallyRow_f (l : Launch) (G : th_G) (Γ : th_Ga) (H0 : Heap) (hI : th_I G Γ H0) (hR : th_RC G Γ H0) (hU : dv_U Γ) (a0 : Nat) (h0 : Γ a0 = (27, 0)) (p1 : Int64) (p2 : Int32) (p3 : Int32) (f3 : 0 ≤ p3.toInt) (g3 : p3.toInt ≤ 144) (p4 : Int32) (f4 : 0 ≤ p4.toInt) (g4 : p4.toInt ≤ 9) (nn7 : ∃ b : Nat, th_sl H0 a0 (G.1.1.2 7 7) = .ref b ∧ Γ b = (11, 0)) (nn8 : ∃ b : Nat, th_sl H0 a0 (G.1.1.2 7 8) = .ref b ∧ Γ b = (3, 0)) (gV : dV) (gX : Int → Nat → Int → Prop) (gf gs : Int) (gn : Nat) (gr gq : Nat → Int → Int) (hS9 : sS gV (a0 : Int) gf gX gs gn gr gq) (hX9 : ∀ a o : Nat, Γ a = (12, o) → ∀ m z, gX (a : Int) m z) (hV9 : sV (a0 : Int) gX gV (dv G Γ H0) ∧ pC (a0 : Int) gq gV (dv G Γ H0)) : Met l yX7_tallyRow (.code yX7_tallyRow cX7_tallyRow 10 (some FieldType.int) :: th_tb) ({ frames := 14, cells := 0, slots := 0, locals := 391 } : Room) (th_P [.ref a0, .long p1, .int p2, .int p3, .int p4] G H0) (th_Q (fun (v : Option Value) (H1 : Heap) => ∃ r : Int32, v = some (.int r) ∧ th_I G Γ H1 ∧ th_F G Γ [(24, 0), (23, 3), (26, 0), (25, 0), (28, 0), (29, 0), (30, 0)] H0 H1 ∧ th_RC G Γ H1 ∧ ((sV (a0 : Int) gX gV (dv G Γ H1) ∧ pC (a0 : Int) gq gV (dv G Γ H1)))) G) 0 0 (fun q => G.1.2.2 ≤ q) := c_X7_tallyRow_f_d 9 l G Γ H0 hI hR hU a0 h0 p1 p2 p3 f3 g3 p4 f4 g4 nn7 nn8 gV gX gf gs gn gr gq hS9 hX9 hV9 (by omega)

set_option maxHeartbeats 4000000 in
set_option maxRecDepth 100000 in
theorem c_X7_tallyFills_f (l : Launch) (G : th_G) (Γ : th_Ga) (H0 : Heap) (hI : th_I G Γ H0) (hR : th_RC G Γ H0) (hU : dv_U Γ) (a0 : Nat) (h0 : Γ a0 = (27, 0)) (nn7 : ∃ b : Nat, th_sl H0 a0 (G.1.1.2 7 7) = .ref b ∧ Γ b = (11, 0)) (nn8 : ∃ b : Nat, th_sl H0 a0 (G.1.1.2 7 8) = .ref b ∧ Γ b = (3, 0)) (gV : dV) (gX : Int → Nat → Int → Prop) (gf gs : Int) (gn : Nat) (gr gq : Nat → Int → Int) (hS9 : sS gV (a0 : Int) gf gX gs gn gr gq) (hX9 : ∀ a o : Nat, Γ a = (12, o) → ∀ m z, gX (a : Int) m z) (hV9 : sV (a0 : Int) gX gV (dv G Γ H0) ∧ pC (a0 : Int) gq gV (dv G Γ H0)) : Met l yX7_tallyFills (.code yX7_tallyFills cX7_tallyFills 3 (none) :: th_tb) ({ frames := 15, cells := 0, slots := 0, locals := 420 } : Room) (th_P [.ref a0] G H0) (th_Q (fun (v : Option Value) (H1 : Heap) => v = none ∧ th_I G Γ H1 ∧ th_F G Γ [(24, 0), (23, 3), (26, 0), (25, 0), (28, 0), (29, 0), (30, 0)] H0 H1 ∧ th_RC G Γ H1 ∧ ((sV (a0 : Int) gX gV (dv G Γ H1) ∧ pC (a0 : Int) gq gV (dv G Γ H1)))) G) 0 0 (fun q => G.1.2.2 ≤ q) := by
  refine th_met RX7 (by decide) rfl (Nat.le_of_ble_eq_true rfl) ?_
  intro p e s m below meth c hC hH hr hlocks hnm ls hl
  have hx := hC.1
  have hb := hC.2.1
  have hB : th_B G Γ Γ [(24, 0), (23, 3), (26, 0), (25, 0), (28, 0), (29, 0), (30, 0)] H0 H0 [] := ⟨hI, va_S.rf, th_F_rf⟩
  have hl : lv_has ls 3 [(0, .ref a0)] := hl
  obtain ⟨bn7, mbn7, hbn7⟩ := nn7
  obtain ⟨bn8, mbn8, hbn8⟩ := nn8
  refine lv_aload_n hx hb gX7_tallyFills_0.1 rfl (lv_at hl 0 rfl) ?_
  refine th_getO (j := 3) (r2 := 30) hC cf_X7 hB.1 h0 ro_27 rfl rfl kf_X7_25 gX7_tallyFills_0.2.1 (fun b1 mb1 hb1 => ?_)
  refine lv_iconst (v := 0) hx hb gX7_tallyFills_0.2.2.1 (by decide) ?_
  refine th_call (th_runS (As := [.ref b1, .int 0]) (rest := []) hC mf_J7_fill_53178 km_X7_190 st_J7_fill_53178 (c_J7_fill_53178_Stally l G Γ H0 hB.1 hR hU b1 a0 hb1 0) rfl rfl ⟨Nat.le_of_ble_eq_true rfl, Nat.le_of_ble_eq_true rfl⟩ rfl hl.1 rfl (Nat.le_of_ble_eq_true rfl) gX7_tallyFills_0.2.2.2.1 ⟨Nat.le_refl _, Nat.le_refl _⟩) hB.2.1 (fun v5 H5 locs hp hz hS => ?_)
  obtain ⟨rfl, hI1, hf, hR, z5_0⟩ := hp
  have hB := th_B_c hB hI1 hS hf (by decide)
  have mm2 := (th_F_o hf h0 ro_27 (j := 7) (by decide) (by decide)).trans mbn7
  have mm3 := (th_F_o hf h0 ro_27 (j := 8) (by decide) (by decide)).trans mbn8
  refine W.eq (g2 := F0 m 8 ls []) rfl ?_
  have sv5 := s_fillT hV9 z5_0
  refine lv_aload_n hx hb gX7_tallyFills_0.2.2.2.2.1 rfl (lv_at hl 0 rfl) ?_
  refine th_getR (j := 0) (r2 := 12) hC cf_X7 hB.1 h0 ro_27 rfl rfl kf_X7_12 gX7_tallyFills_0.2.2.2.2.2.1 (fun b4 mb4 hb4 => ?_)
  have sb4 := (th_F_o hB.2.2 h0 ro_27 (j := 0) (by decide) (by decide)).symm.trans mb4
  refine th_getI (j := 6) hC cf_X3 hB.1 hb4 ro_12 rfl rfl kf_X7_196 gX7_tallyFills_0.2.2.2.2.2.2.1 (fun x5 mx5 lx5 ux5 => ?_)
  refine tr_if_eq (tgt := 31) hx hb gX7_tallyFills_0.2.2.2.2.2.2.2 (by decide) (Eq.refl _) (fun c15 => ?_) (fun c15 => ?_)
  · refine lv_aload_n hx hb gX7_tallyFills_2.2.1 rfl (lv_at hl 0 rfl) ?_
    refine th_getK hC cf_X7 hB.1 h0 ro_27 rfl (j := 0) (by decide) mb4 kf_X7_12 gX7_tallyFills_2.2.2.1 ?_
    refine lv_aload_n hx hb gX7_tallyFills_2.2.2.2.1 rfl (lv_at hl 0 rfl) ?_
    refine th_getK hC cf_X7 hB.1 h0 ro_27 rfl (j := 0) (by decide) mb4 kf_X7_12 gX7_tallyFills_2.2.2.2.2.1 ?_
    refine lv_lconst (v := 0) hx hb gX7_tallyFills_2.2.2.2.2.2.1 rfl ?_
    refine th_call (th_runV (As := [.long 0]) (rest := [.ref b4]) hC mf_X3_find km_X7_145 im_X3_find se_X3_find (c_X3_find l G Γ H5 hB.1 hR b4 hb4 0) rfl rfl ⟨Nat.le_of_ble_eq_true rfl, Nat.le_of_ble_eq_true rfl⟩ hB.1 hb4 ro_12 rfl rfl hl.1 rfl (Nat.le_of_ble_eq_true rfl) gX7_tallyFills_2.2.2.2.2.2.2.1 ⟨Nat.le_refl _, Nat.le_refl _⟩) hB.2.1 (fun v40 H40 locs hp hz hS => ?_)
    obtain ⟨x6, rfl, lx6, ux6, q40_0, rfl⟩ := hp
    have hB := th_B_s hB hS
    refine W.eq (g2 := F0 m 43 ls [.int x6, .ref b4]) rfl ?_
    refine lv_iconst (v := 1) hx hb gX7_tallyFills_2.2.2.2.2.2.2.2 (by decide) ?_
    have hIo := hB.1
    refine th_call (th_runV (As := [.int x6, .int 1]) (rest := []) hC mf_X3_addFlow km_X7_202 im_X3_addFlow se_X3_addFlow (c_X3_addFlow l G Γ H5 hB.1 hR b4 hb4 x6 1) rfl rfl ⟨Nat.le_of_ble_eq_true rfl, Nat.le_of_ble_eq_true rfl⟩ hB.1 hb4 ro_12 rfl rfl hl.1 rfl (Nat.le_of_ble_eq_true rfl) gX7_tallyFills_3.1 ⟨Nat.le_refl _, Nat.le_refl _⟩) hB.2.1 (fun v44 H44 locs hp hz hS => ?_)
    obtain ⟨rfl, hI1, hf, hR⟩ := hp
    have hB := th_B_c hB hI1 hS hf (by decide)
    have mm7 := (th_F_o hf h0 ro_27 (j := 7) (by decide) (by decide)).trans mm2
    have mm8 := (th_F_o hf h0 ro_27 (j := 8) (by decide) (by decide)).trans mm3
    have mm9 := (th_F_o hf h0 ro_27 (j := 0) (by decide) (by decide)).trans mb4
    refine W.eq (g2 := F0 m 47 ls []) rfl ?_
    have sv44 := s_VX hS9.2.2.2.2.1.1 sv5 (fun b m z nb => sv_M hIo hB.1 hf (by decide) (fun a o q e => nb (by rw [e]; exact hX9 a o q _ _)))
    refine lv_aload_n hx hb gX7_tallyFills_3.2.1 rfl (lv_at hl 0 rfl) ?_
    refine th_getK hC cf_X7 hB.1 h0 ro_27 rfl (j := 0) (by decide) mm9 kf_X7_12 gX7_tallyFills_3.2.2.1 ?_
    refine th_getI (j := 5) hC cf_X3 hB.1 hb4 ro_12 rfl rfl kf_X7_206 gX7_tallyFills_3.2.2.2.1 (fun x10 mx10 lx10 ux10 => ?_)
    refine lv_iconst (v := 1) hx hb gX7_tallyFills_3.2.2.2.2.1 (by decide) ?_
    refine tr_isub hx hb gX7_tallyFills_3.2.2.2.2.2.1 (Eq.refl _) tk_1 (by omega) (by omega) (fun x11 ex11 => ?_)
    refine lv_istore_n (lv' := [(1, .int x11), (0, .ref a0)]) hx hb gX7_tallyFills_3.2.2.2.2.2.2.1 rfl hl (by decide) rfl (fun ls hl => ?_)
    have lp57 : ∀ (n57 : Nat) (H57 : Heap) (locs : List Loc) (ls : Array Slot) (j57_1 : Int32), th_B G Γ Γ [(24, 0), (23, 3), (26, 0), (25, 0), (28, 0), (29, 0), (30, 0)] H0 H57 locs → th_RC G Γ H57 → lv_has ls 3 [(0, .ref a0), (1, .int j57_1)] → (-1) ≤ j57_1.toInt → j57_1.toInt ≤ 8191 → (sV (a0 : Int) gX gV (dv G Γ H57) ∧ pC (a0 : Int) gq gV (dv G Γ H57)) → j57_1.toInt + (2147483649 : Int) ≤ (n57 : Int) → W p l e ({ frames := 15, cells := 0, slots := 0, locals := 420 } : Room) s m ([.ref a0] : List Value).toArray below meth c H57 locs 0 0 (MQ below (th_Q (fun (v : Option Value) (H1 : Heap) => v = none ∧ th_I G Γ H1 ∧ th_F G Γ [(24, 0), (23, 3), (26, 0), (25, 0), (28, 0), (29, 0), (30, 0)] H0 H1 ∧ th_RC G Γ H1 ∧ ((sV (a0 : Int) gX gV (dv G Γ H1) ∧ pC (a0 : Int) gq gV (dv G Γ H1)))) G) ([.ref a0] : List Value).toArray s 0 0 (fun q => G.1.2.2 ≤ q)) (F0 m 57 ls []) := by
      intro n57
      induction n57 with
      | zero => intro H57 locs ls j57_1 hB hR hl g57_0 g57_1 g57_2 hm57; exact absurd hm57 (by have := ti_lo j57_1; omega)
      | succ n57 ih57 =>
        intro H57 locs ls j57_1 hB hR hl g57_0 g57_1 g57_2 hm57
        have lj57_1 := ti_lo j57_1; have uj57_1 := ti_hi j57_1
        have mm12 := (th_F_o hB.2.2 h0 ro_27 (j := 7) (by decide) (by decide)).trans mbn7
        have mm13 := (th_F_o hB.2.2 h0 ro_27 (j := 8) (by decide) (by decide)).trans mbn8
        have mm14 := (th_F_o hB.2.2 h0 ro_27 (j := 0) (by decide) (by decide)).trans sb4
        have hm57 : j57_1.toInt + (2147483649 : Int) ≤ (n57 : Int) + 1 := by omega
        refine lv_iload_n hx hb gX7_tallyFills_3.2.2.2.2.2.2.2 rfl (lv_at hl 1 rfl) ?_
        refine tr_if_lt (tgt := 118) hx hb gX7_tallyFills_4.1 (by decide) (Eq.refl _) (fun c58 => ?_) (fun c58 => ?_)
        · exact th_vret hC hH hr hlocks hB.2.1 ⟨rfl, hB.1, hB.2.2, hR, g57_2⟩ gX7_tallyFills_7.2.2.2.2
        · refine lv_aload_n hx hb gX7_tallyFills_4.2.1 rfl (lv_at hl 0 rfl) ?_
          refine th_getK hC cf_X7 hB.1 h0 ro_27 rfl (j := 0) (by decide) mm14 kf_X7_12 gX7_tallyFills_4.2.2.1 ?_
          refine lv_iload_n hx hb gX7_tallyFills_4.2.2.2.1 rfl (lv_at hl 1 rfl) ?_
          refine th_call (th_runV (As := [.int j57_1]) (rest := []) hC mf_X3_slotOfNth km_X7_209 im_X3_slotOfNth se_X3_slotOfNth (c_X3_slotOfNth l G Γ H57 hB.1 hR b4 hb4 j57_1) rfl rfl ⟨Nat.le_of_ble_eq_true rfl, Nat.le_of_ble_eq_true rfl⟩ hB.1 hb4 ro_12 rfl rfl hl.1 rfl (Nat.le_of_ble_eq_true rfl) gX7_tallyFills_4.2.2.2.2.1 ⟨Nat.le_refl _, Nat.le_refl _⟩) hB.2.1 (fun v66 H66 locs hp hz hS => ?_)
          obtain ⟨x15, rfl, rfl⟩ := hp
          have hB := th_B_s hB hS
          refine W.eq (g2 := F0 m 69 ls [.int x15]) rfl ?_
          refine lv_istore_n (lv' := [(2, .int x15), (0, .ref a0), (1, .int j57_1)]) hx hb gX7_tallyFills_4.2.2.2.2.2.1 rfl hl (by decide) rfl (fun ls hl => ?_)
          refine lv_aload_n hx hb gX7_tallyFills_4.2.2.2.2.2.2.1 rfl (lv_at hl 1 rfl) ?_
          refine th_getK hC cf_X7 hB.1 h0 ro_27 rfl (j := 0) (by decide) mm14 kf_X7_12 gX7_tallyFills_4.2.2.2.2.2.2.2 ?_
          refine lv_iload_n hx hb gX7_tallyFills_5.1 rfl (lv_at hl 0 rfl) ?_
          refine th_call (th_runV (As := [.int x15]) (rest := []) hC mf_X3_flowIn km_X7_212 im_X3_flowIn se_X3_flowIn (c_X3_flowIn l G Γ H57 hB.1 hR b4 hb4 x15) rfl rfl ⟨Nat.le_of_ble_eq_true rfl, Nat.le_of_ble_eq_true rfl⟩ hB.1 hb4 ro_12 rfl rfl hl.1 rfl (Nat.le_of_ble_eq_true rfl) gX7_tallyFills_5.2.1 ⟨Nat.le_refl _, Nat.le_refl _⟩) hB.2.1 (fun v75 H75 locs hp hz hS => ?_)
          obtain ⟨x16, rfl, rfl⟩ := hp
          have hB := th_B_s hB hS
          refine W.eq (g2 := F0 m 78 ls [.int x16]) rfl ?_
          have jn112 : ∀ (H112 : Heap) (locs : List Loc) (ls : Array Slot) , th_B G Γ Γ [(24, 0), (23, 3), (26, 0), (25, 0), (28, 0), (29, 0), (30, 0)] H0 H112 locs → th_RC G Γ H112 → lv_has ls 3 [(0, .ref a0), (1, .int j57_1)] → (sV (a0 : Int) gX gV (dv G Γ H112) ∧ pC (a0 : Int) gq gV (dv G Γ H112)) → W p l e ({ frames := 15, cells := 0, slots := 0, locals := 420 } : Room) s m ([.ref a0] : List Value).toArray below meth c H112 locs 0 0 (MQ below (th_Q (fun (v : Option Value) (H1 : Heap) => v = none ∧ th_I G Γ H1 ∧ th_F G Γ [(24, 0), (23, 3), (26, 0), (25, 0), (28, 0), (29, 0), (30, 0)] H0 H1 ∧ th_RC G Γ H1 ∧ ((sV (a0 : Int) gX gV (dv G Γ H1) ∧ pC (a0 : Int) gq gV (dv G Γ H1)))) G) ([.ref a0] : List Value).toArray s 0 0 (fun q => G.1.2.2 ≤ q)) (F0 m 112 ls []) := by
            intro H112 locs ls hB hR hl g112_0
            have mm17 := (th_F_o hB.2.2 h0 ro_27 (j := 7) (by decide) (by decide)).trans mbn7
            have mm18 := (th_F_o hB.2.2 h0 ro_27 (j := 8) (by decide) (by decide)).trans mbn8
            have mm19 := (th_F_o hB.2.2 h0 ro_27 (j := 0) (by decide) (by decide)).trans sb4
            refine tr_iinc (fun x20 => [(1, .int x20), (0, .ref a0)]) hx hb gX7_tallyFills_7.2.2.1 hl (k := 1) rfl (Eq.refl _) tk_m1 (by omega) (by omega) (by decide) (fun _ => rfl) (fun x20 ls ex20 hl => ?_)
            refine lv_goto (tgt := 57) hx hb gX7_tallyFills_7.2.2.2.1 (by decide) ?_
            exact ih57 H112 locs ls x20 hB hR (lv_sub hl [1, 0] rfl) (by omega) (by omega) g112_0 (by omega)
          refine tr_if_le (tgt := 112) hx hb gX7_tallyFills_5.2.2.1 (by decide) (Eq.refl _) (fun c78 => ?_) (fun c78 => ?_)
          · exact jn112 H57 locs ls hB hR (lv_sub hl [1, 2] rfl) g57_2
          · refine lv_aload_n hx hb gX7_tallyFills_5.2.2.2.1 rfl (lv_at hl 1 rfl) ?_
            refine th_getK hC cf_X7 hB.1 h0 ro_27 rfl (j := 0) (by decide) mm14 kf_X7_12 gX7_tallyFills_5.2.2.2.2.1 ?_
            refine lv_iload_n hx hb gX7_tallyFills_5.2.2.2.2.2.1 rfl (lv_at hl 0 rfl) ?_
            refine th_call (th_runV (As := [.int x15]) (rest := []) hC mf_X3_valueIn km_X7_149 im_X3_valueIn se_X3_valueIn (c_X3_valueIn l G Γ H57 hB.1 hR b4 hb4 x15) rfl rfl ⟨Nat.le_of_ble_eq_true rfl, Nat.le_of_ble_eq_true rfl⟩ hB.1 hb4 ro_12 rfl rfl hl.1 rfl (Nat.le_of_ble_eq_true rfl) gX7_tallyFills_5.2.2.2.2.2.2.1 ⟨Nat.le_refl _, Nat.le_refl _⟩) hB.2.1 (fun v86 H86 locs hp hz hS => ?_)
            obtain ⟨x21, rfl, q86_0, rfl⟩ := hp
            have hB := th_B_s hB hS
            refine W.eq (g2 := F0 m 89 ls [.int x21]) rfl ?_
            refine tr_if_le (tgt := 112) hx hb gX7_tallyFills_5.2.2.2.2.2.2.2 (by decide) (Eq.refl _) (fun c89 => ?_) (fun c89 => ?_)
            · exact jn112 H57 locs ls hB hR (lv_sub hl [1, 2] rfl) g57_2
            · refine lv_aload_n hx hb gX7_tallyFills_6.1 rfl (lv_at hl 1 rfl) ?_
              refine lv_aload_n hx hb gX7_tallyFills_6.2.1 rfl (lv_at hl 1 rfl) ?_
              refine th_getK hC cf_X7 hB.1 h0 ro_27 rfl (j := 0) (by decide) mm14 kf_X7_12 gX7_tallyFills_6.2.2.1 ?_
              refine lv_iload_n hx hb gX7_tallyFills_6.2.2.2.1 rfl (lv_at hl 0 rfl) ?_
              refine th_call (th_runV (As := [.int x15]) (rest := [.ref a0]) hC mf_X3_keyIn km_X7_215 im_X3_keyIn se_X3_keyIn (c_X3_keyIn l G Γ H57 hB.1 hR b4 hb4 x15) rfl rfl ⟨Nat.le_of_ble_eq_true rfl, Nat.le_of_ble_eq_true rfl⟩ hB.1 hb4 ro_12 rfl rfl hl.1 rfl (Nat.le_of_ble_eq_true rfl) gX7_tallyFills_6.2.2.2.2.1 ⟨Nat.le_refl _, Nat.le_refl _⟩) hB.2.1 (fun v98 H98 locs hp hz hS => ?_)
              obtain ⟨y22, rfl, rfl⟩ := hp
              have hB := th_B_s hB hS
              refine W.eq (g2 := F0 m 101 ls [.long y22, .ref a0]) rfl ?_
              refine lv_aload_n hx hb gX7_tallyFills_6.2.2.2.2.2.1 rfl (lv_at hl 1 rfl) ?_
              refine th_getK hC cf_X7 hB.1 h0 ro_27 rfl (j := 0) (by decide) mm14 kf_X7_12 gX7_tallyFills_6.2.2.2.2.2.2.1 ?_
              refine lv_iload_n hx hb gX7_tallyFills_6.2.2.2.2.2.2.2 rfl (lv_at hl 0 rfl) ?_
              refine th_call (th_runV (As := [.int x15]) (rest := [.long y22, .ref a0]) hC mf_X3_flowIn km_X7_212 im_X3_flowIn se_X3_flowIn (c_X3_flowIn l G Γ H57 hB.1 hR b4 hb4 x15) rfl rfl ⟨Nat.le_of_ble_eq_true rfl, Nat.le_of_ble_eq_true rfl⟩ hB.1 hb4 ro_12 rfl rfl hl.1 rfl (Nat.le_of_ble_eq_true rfl) gX7_tallyFills_7.1 ⟨Nat.le_refl _, Nat.le_refl _⟩) hB.2.1 (fun v106 H106 locs hp hz hS => ?_)
              obtain ⟨x23, rfl, rfl⟩ := hp
              have hB := th_B_s hB hS
              refine W.eq (g2 := F0 m 109 ls [.int x23, .long y22, .ref a0]) rfl ?_
              refine th_call (th_runV (As := [.long y22, .int x23]) (rest := []) hC mf_X7_tallyKey km_X7_219 im_X7_tallyKey se_X7_tallyKey (c_X7_tallyKey_f l G Γ H57 hB.1 hR hU a0 h0 y22 x23 ⟨_, mm12, hbn7⟩ ⟨_, mm13, hbn8⟩ gV gX gf gs gn gr gq hS9 hX9 g57_2) rfl rfl ⟨Nat.le_of_ble_eq_true rfl, Nat.le_of_ble_eq_true rfl⟩ hB.1 h0 ro_27 rfl rfl hl.1 rfl (Nat.le_of_ble_eq_true rfl) gX7_tallyFills_7.2.1 ⟨Nat.le_refl _, Nat.le_refl _⟩) hB.2.1 (fun v109 H109 locs hp hz hS => ?_)
              obtain ⟨rfl, hI1, hf, hR, z109_0⟩ := hp
              have hB := th_B_c hB hI1 hS hf (by decide)
              have mm24 := (th_F_o hf h0 ro_27 (j := 7) (by decide) (by decide)).trans mm12
              have mm25 := (th_F_o hf h0 ro_27 (j := 8) (by decide) (by decide)).trans mm13
              have mm26 := (th_F_o hf h0 ro_27 (j := 0) (by decide) (by decide)).trans mm14
              refine W.eq (g2 := F0 m 112 ls []) rfl ?_
              have sv109 := z109_0
              exact jn112 H109 locs ls hB hR (lv_sub hl [1, 2] rfl) sv109
    exact lp57 ((x11.toInt) + (2147483649 : Int)).toNat H44 locs ls x11 hB hR (lv_sub hl [1, 0] rfl) (by omega) (by omega) sv44 (by omega)
  · refine lv_aload_n hx hb gX7_tallyFills_1.1 rfl (lv_at hl 0 rfl) ?_
    refine lv_lconst (v := 0) hx hb gX7_tallyFills_1.2.1 rfl ?_
    refine lv_aload_n hx hb gX7_tallyFills_1.2.2.1 rfl (lv_at hl 0 rfl) ?_
    refine th_getI (j := 11) hC cf_X7 hB.1 h0 ro_27 rfl rfl kf_X7_63 gX7_tallyFills_1.2.2.2.1 (fun x27 mx27 lx27 ux27 => ?_)
    refine lv_iconst (v := 0) hx hb gX7_tallyFills_1.2.2.2.2.1 (by decide) ?_
    refine lv_iconst (v := 0) hx hb gX7_tallyFills_1.2.2.2.2.2.1 (by decide) ?_
    refine th_call (th_runV (As := [.long 0, .int x27, .int 0, .int 0]) (rest := []) hC mf_X7_tallyRow km_X7_199 im_X7_tallyRow se_X7_tallyRow (c_X7_tallyRow_f l G Γ H5 hB.1 hR hU a0 h0 0 x27 0 (by decide) (by decide) 0 (by decide) (by decide) ⟨_, mm2, hbn7⟩ ⟨_, mm3, hbn8⟩ gV gX gf gs gn gr gq hS9 hX9 sv5) rfl rfl ⟨Nat.le_of_ble_eq_true rfl, Nat.le_of_ble_eq_true rfl⟩ hB.1 h0 ro_27 rfl rfl hl.1 rfl (Nat.le_of_ble_eq_true rfl) gX7_tallyFills_1.2.2.2.2.2.2.1 ⟨Nat.le_refl _, Nat.le_refl _⟩) hB.2.1 (fun v26 H26 locs hp hz hS => ?_)
    obtain ⟨x28, rfl, hI1, hf, hR, z26_0⟩ := hp
    have hB := th_B_c hB hI1 hS hf (by decide)
    have mm29 := (th_F_o hf h0 ro_27 (j := 7) (by decide) (by decide)).trans mm2
    have mm30 := (th_F_o hf h0 ro_27 (j := 8) (by decide) (by decide)).trans mm3
    have mm31 := (th_F_o hf h0 ro_27 (j := 0) (by decide) (by decide)).trans mb4
    refine W.eq (g2 := F0 m 29 ls [.int x28]) rfl ?_
    have sv26 := z26_0
    refine lv_pop hx hb gX7_tallyFills_1.2.2.2.2.2.2.2 rfl ?_
    exact th_vret hC hH hr hlocks hB.2.1 ⟨rfl, hB.1, hB.2.2, hR, sv26⟩ gX7_tallyFills_2.1
