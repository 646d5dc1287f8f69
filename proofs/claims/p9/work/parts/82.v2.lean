set_option maxHeartbeats 4000000 in
set_option maxRecDepth 100000 in
theorem c_X9_addFour_n (l : Launch) (G : th_G) (Γ : th_Ga) (H0 : Heap) (hI : th_I G Γ H0) (hR : th_RC G Γ H0) (a0 : Nat) (h0 : Γ a0 = (37, 0)) (p1 : Int32) : Met l yX9_addFour (.code yX9_addFour cX9_addFour 3 (none) :: th_tb) ({ frames := 0, cells := 0, slots := 0, locals := 0 } : Room) (th_P [.ref a0, .int p1] G H0) (th_Q (fun (v : Option Value) (H1 : Heap) => v = none ∧ th_I G Γ H1 ∧ th_F G Γ [(38, 0), (37, 1)] H0 H1 ∧ th_RC G Γ H1 ∧ (tv_f G H0 a0 9 1 ≤ 396 → tv_f G H1 a0 9 1 = tv_f G H0 a0 9 1 + 4)) G) 0 0 (fun q => G.2.2 ≤ q) := by
  refine th_met RX9 (by decide) rfl (Nat.le_of_ble_eq_true rfl) ?_
  intro p e s m below meth c hC hH hr hlocks hnm ls hl
  have hx := hC.1
  have hb := hC.2.1
  have hB : th_B G Γ Γ [(38, 0), (37, 1)] H0 H0 [] := ⟨hI, va_S.rf, th_F_rf⟩
  have hl : lv_has ls 3 [(0, .ref a0), (1, .int p1)] := hl
  have lp1 := ti_lo p1; have up1 := ti_hi p1
  refine lv_bipush (v := 24) hx hb dX9_addFour_0 (by decide) ?_
  refine lv_istore_n (lv' := [(2, .int 24), (0, .ref a0), (1, .int p1)]) hx hb dX9_addFour_2 rfl hl (by decide) rfl (fun ls hl => ?_)
  have lp3 : ∀ (n3 : Nat) (H3 : Heap) (locs : List Loc) (ls : Array Slot) (j3_2 : Int32), th_B G Γ Γ [(38, 0), (37, 1)] H0 H3 locs → th_RC G Γ H3 → lv_has ls 3 [(0, .ref a0), (1, .int p1), (2, .int j3_2)] → j3_2.toInt ≤ 24 → (24 - j3_2.toInt) % 8 = 0 → -8 ≤ j3_2.toInt → j3_2.toInt ≤ 24 → tv_f G H3 a0 9 1 = tv_f G H0 a0 9 1 + (24 - j3_2.toInt) / 8 → j3_2.toInt + (2147483649 : Int) ≤ (n3 : Int) → W p l e ({ frames := 0, cells := 0, slots := 0, locals := 0 } : Room) s m ([.ref a0, .int p1] : List Value).toArray below meth c H3 locs 0 0 (MQ below (th_Q (fun (v : Option Value) (H1 : Heap) => v = none ∧ th_I G Γ H1 ∧ th_F G Γ [(38, 0), (37, 1)] H0 H1 ∧ th_RC G Γ H1 ∧ (tv_f G H0 a0 9 1 ≤ 396 → tv_f G H1 a0 9 1 = tv_f G H0 a0 9 1 + 4)) G) ([.ref a0, .int p1] : List Value).toArray s 0 0 (fun q => G.2.2 ≤ q)) (F0 m 3 ls []) := by
    intro n3
    induction n3 with
    | zero => intro H3 locs ls j3_2 hB hR hl g3_0 g3_1 g3_2 g3_3 g3_4 hm3; exact absurd hm3 (by have := ti_lo j3_2; omega)
    | succ n3 ih3 =>
      intro H3 locs ls j3_2 hB hR hl g3_0 g3_1 g3_2 g3_3 g3_4 hm3
      have lj3_2 := ti_lo j3_2; have uj3_2 := ti_hi j3_2
      have hm3 : j3_2.toInt + (2147483649 : Int) ≤ (n3 : Int) + 1 := by omega
      refine lv_iload_n hx hb dX9_addFour_3 rfl (lv_at hl 2 rfl) ?_
      refine tr_if_lt (tgt := 49) hx hb dX9_addFour_4 (by decide) (Eq.refl _) (fun c4 => ?_) (fun c4 => ?_)
      · exact th_vret hC hH hr hlocks hB.2.1 ⟨rfl, hB.1, hB.2.2, hR, (fun k9 => by have q9 : tv_f G H3 a0 9 1 = tv_f G H0 a0 9 1 + (24 - j3_2.toInt) / 8 := g3_4; omega)⟩ dX9_addFour_49
      · refine lv_aload_n hx hb dX9_addFour_7 rfl (lv_at hl 0 rfl) ?_
        refine th_getI (j := 1) hC cf_X9 hB.1 h0 ro_37 rfl rfl kf_X9_15 dX9_addFour_8 (fun x1 mx1 lx1 ux1 => ?_)
        have twx1 : tv_f G H0 a0 9 1 + (24 - j3_2.toInt) / 8 = x1.toInt := g3_4.symm.trans (tv_fat mx1)
        refine lv_sipush (v := 400) hx hb dX9_addFour_11 (by decide) ?_
        refine tr_icmp_ge (tgt := 49) hx hb dX9_addFour_14 (by decide) (Eq.refl _) tk_400 (fun c14 => ?_) (fun c14 => ?_)
        · exact th_vret hC hH hr hlocks hB.2.1 ⟨rfl, hB.1, hB.2.2, hR, (fun k9 => by have q9 : tv_f G H3 a0 9 1 = tv_f G H0 a0 9 1 + (24 - j3_2.toInt) / 8 := g3_4; omega)⟩ dX9_addFour_49
        · refine lv_aload_n hx hb dX9_addFour_17 rfl (lv_at hl 0 rfl) ?_
          refine th_getO (j := 0) (r2 := 38) hC cf_X9 hB.1 h0 ro_37 rfl rfl kf_X9_9 dX9_addFour_18 (fun b2 mb2 hb2 => ?_)
          have sb2 := (th_F_o hB.2.2 h0 ro_37 (j := 0) (by decide) (by decide)).symm.trans mb2
          refine lv_aload_n hx hb dX9_addFour_21 rfl (lv_at hl 0 rfl) ?_
          refine th_getK hC cf_X9 hB.1 h0 ro_37 rfl (j := 1) (by decide) mx1 kf_X9_15 dX9_addFour_22 ?_
          refine lv_iload_n hx hb dX9_addFour_25 rfl (lv_at hl 1 rfl) ?_
          refine lv_iload_n hx hb dX9_addFour_26 rfl (lv_at hl 2 rfl) ?_
          refine lv_iushr hx hb dX9_addFour_27 rfl ?_
          refine lv_topi (fun x3 ex3 => ?_)
          have lx3 := ti_lo x3; have ux3 := ti_hi x3
          refine lv_sipush (v := 255) hx hb dX9_addFour_28 (by decide) ?_
          refine lv_iand hx hb dX9_addFour_31 ?_
          refine lv_topi (fun x4 ex4 => ?_)
          have lx4 := ti_lo x4; have ux4 := ti_hi x4
          have fx4 := ti_and x3 8 (m := 255) (by decide) (by decide)
          rw [← ex4] at fx4
          refine th_iastF hC hB hb2 (Or.inl hb2) ro_38 rfl (by decide) (Eq.refl _) (by omega) (by omega) th_sIa dX9_addFour_32 (fun H32 locs hB hf32 hst32 => ?_)
          have hf := hf32
          have mm5 := (th_F_o hf h0 ro_37 (j := 1) (by decide) (by decide)).trans mx1
          have mm6 := (th_F_o hf h0 ro_37 (j := 0) (by decide) (by decide)).trans mb2
          have hR := th_RC_F hB.1 hR hf (th_T_s hb2 ro_38 hst32) (by decide)
          have tv_n_H32 : tv_f G H32 a0 9 1 = tv_f G H0 a0 9 1 + (24 - j3_2.toInt) / 8 := (tv_f_F (j := 1) hf h0 ro_37 (by decide) (by decide)).trans g3_4
          refine lv_aload_n hx hb dX9_addFour_33 rfl (lv_at hl 0 rfl) ?_
          refine lv_dup hx hb dX9_addFour_34 rfl ?_
          refine th_getK hC cf_X9 hB.1 h0 ro_37 rfl (j := 1) (by decide) mm5 kf_X9_15 dX9_addFour_35 ?_
          refine lv_iconst (v := 1) hx hb dX9_addFour_38 (by decide) ?_
          refine tr_iadd hx hb dX9_addFour_39 (Eq.refl _) tk_1 (by omega) (by omega) (fun x7 ex7 => ?_)
          refine th_put hC cf_X9 hB h0 (Or.inl h0) ro_37 rfl (j := 1) rfl (th_sI (by omega) (by omega)) (by decide) rfl rfl rfl kf_X9_15 dX9_addFour_40 (fun H40 locs hB hf hst40 => ?_)
          have mm8 := (th_F_o hf h0 ro_37 (j := 0) (by decide) (by decide)).trans mm6
          have hR := th_RC_F hB.1 hR hf (th_T_s h0 ro_37 hst40) (by decide)
          have tv_n_H40 : tv_f G H40 a0 9 1 = x7.toInt := tv_f_St hst40
          have mm9 := hst40.2.1
          refine tr_iinc (fun x10 => [(2, .int x10), (0, .ref a0), (1, .int p1)]) hx hb dX9_addFour_43 hl (k := 2) rfl (Eq.refl _) tk_m8 (by omega) (by omega) (by decide) (fun _ => rfl) (fun x10 ls ex10 hl => ?_)
          refine lv_goto (tgt := 3) hx hb dX9_addFour_46 (by decide) ?_
          exact ih3 H40 locs ls x10 hB hR (lv_sub hl [1, 2, 0] rfl) (by omega) (by omega) (by omega) (by omega) (by have w0 := tk_24; have q9 : tv_f G H40 a0 9 1 = x7.toInt := tv_n_H40; omega) (by omega)
  exact lp3 ((24) + (2147483649 : Int)).toNat H0 [] ls 24 hB hR (lv_sub hl [1, 2, 0] rfl) (by decide) (by have w0 := tk_24; omega) (by have w0 := tk_24; omega) (by have w0 := tk_24; omega) (by have w0 := tk_24; have q9 : tv_f G H0 a0 9 1 = tv_f G H0 a0 9 1 := rfl; omega) (by have w0 := tk_24; omega)

set_option maxHeartbeats 4000000 in
set_option maxRecDepth 100000 in
theorem c_X11_feed_n (l : Launch) (G : th_G) (Γ : th_Ga) (H0 : Heap) (hI : th_I G Γ H0) (hR : th_RC G Γ H0) (a0 : Nat) (h0 : Γ a0 = (42, 0)) (p1 : Int32) (p2 : Int32) (p3 : Int32) (p4 : Int32) (p5 : Int32) (tp : Nat) (htp : Γ tp = (37, 0)) (mtp : th_sl H0 a0 (G.1.2 11 5) = .ref tp) : Met l yX11_feed (.code yX11_feed cX11_feed 6 (some FieldType.int) :: th_tb) ({ frames := 1, cells := 0, slots := 0, locals := 22 } : Room) (th_P [.ref a0, .int p1, .int p2, .int p3, .int p4, .int p5] G H0) (th_Q (fun (v : Option Value) (H1 : Heap) => ∃ r : Int32, v = some (.int r) ∧ (400 < tv_f G H0 tp 9 1 + 20 → r.toInt = -1) ∧ (tv_f G H0 tp 9 1 + 20 ≤ 400 → r.toInt = tv_f G H0 tp 9 1 + 20) ∧ th_I G Γ H1 ∧ th_F G Γ [(38, 0), (37, 1)] H0 H1 ∧ th_RC G Γ H1 ∧ (tv_f G H1 tp 9 1 = if 400 < tv_f G H0 tp 9 1 + 20 then tv_f G H0 tp 9 1 else tv_f G H0 tp 9 1 + 20)) G) 0 0 (fun q => G.2.2 ≤ q) := by
  refine th_met RX11 (by decide) rfl (Nat.le_of_ble_eq_true rfl) ?_
  intro p e s m below meth c hC hH hr hlocks hnm ls hl
  have hx := hC.1
  have hb := hC.2.1
  have hB : th_B G Γ Γ [(38, 0), (37, 1)] H0 H0 [] := ⟨hI, va_S.rf, th_F_rf⟩
  have hl : lv_has ls 6 [(0, .ref a0), (1, .int p1), (2, .int p2), (3, .int p3), (4, .int p4), (5, .int p5)] := hl
  have lp1 := ti_lo p1; have up1 := ti_hi p1
  have lp2 := ti_lo p2; have up2 := ti_hi p2
  have lp3 := ti_lo p3; have up3 := ti_hi p3
  have lp4 := ti_lo p4; have up4 := ti_hi p4
  have lp5 := ti_lo p5; have up5 := ti_hi p5
  refine lv_aload_n hx hb dX11_feed_0 rfl (lv_at hl 0 rfl) ?_
  refine th_getK hC cf_X11 hB.1 h0 ro_42 rfl (j := 5) (by decide) mtp kf_X11_37 dX11_feed_1 ?_
  refine th_getI (j := 1) hC cf_X9 hB.1 htp ro_37 rfl rfl kf_X11_186 dX11_feed_4 (fun x1 mx1 lx1 ux1 => ?_)
  have twx1 : tv_f G H0 tp 9 1 = x1.toInt := tv_fat mx1
  refine lv_bipush (v := 20) hx hb dX11_feed_7 (by decide) ?_
  refine tr_iadd hx hb dX11_feed_9 (Eq.refl _) tk_20 (by omega) (by omega) (fun x2 ex2 => ?_)
  refine lv_sipush (v := 400) hx hb dX11_feed_10 (by decide) ?_
  refine tr_icmp_le (tgt := 18) hx hb dX11_feed_13 (by decide) (Eq.refl _) tk_400 (fun c13 => ?_) (fun c13 => ?_)
  · refine lv_aload_n hx hb dX11_feed_18 rfl (lv_at hl 0 rfl) ?_
    refine th_getK hC cf_X11 hB.1 h0 ro_42 rfl (j := 5) (by decide) mtp kf_X11_37 dX11_feed_19 ?_
    refine lv_iload_n hx hb dX11_feed_22 rfl (lv_at hl 1 rfl) ?_
    refine th_call (th_runV (As := [.int p1]) (rest := []) hC mf_X9_addFour km_X11_189 im_X9_addFour se_X9_addFour (c_X9_addFour_n l G Γ H0 hB.1 hR tp htp p1) rfl rfl ⟨Nat.le_of_ble_eq_true rfl, Nat.le_of_ble_eq_true rfl⟩ hB.1 htp ro_37 rfl rfl hl.1 rfl (Nat.le_of_ble_eq_true rfl) dX11_feed_23 ⟨Nat.le_refl _, Nat.le_refl _⟩) hB.2.1 (fun v23 H23 locs hp hz hS => ?_)
    obtain ⟨rfl, hI1, hf, hR, z23_0⟩ := hp
    have hB := th_B_c hB hI1 hS hf (by decide)
    have mm3 := (th_F_o hf h0 ro_42 (j := 5) (by decide) (by decide)).trans mtp
    refine W.eq (g2 := F0 m 26 ls []) rfl ?_
    have q823 := z23_0
    have tv_n_x23 : tv_f G H23 tp 9 1 = tv_f G H0 tp 9 1 + 4 := by have q9 := q823 (by omega); omega
    refine lv_aload_n hx hb dX11_feed_26 rfl (lv_at hl 0 rfl) ?_
    refine th_getK hC cf_X11 hB.1 h0 ro_42 rfl (j := 5) (by decide) mm3 kf_X11_37 dX11_feed_27 ?_
    refine lv_iload_n hx hb dX11_feed_30 rfl (lv_at hl 2 rfl) ?_
    refine th_call (th_runV (As := [.int p2]) (rest := []) hC mf_X9_addFour km_X11_189 im_X9_addFour se_X9_addFour (c_X9_addFour_n l G Γ H23 hB.1 hR tp htp p2) rfl rfl ⟨Nat.le_of_ble_eq_true rfl, Nat.le_of_ble_eq_true rfl⟩ hB.1 htp ro_37 rfl rfl hl.1 rfl (Nat.le_of_ble_eq_true rfl) dX11_feed_31 ⟨Nat.le_refl _, Nat.le_refl _⟩) hB.2.1 (fun v31 H31 locs hp hz hS => ?_)
    obtain ⟨rfl, hI1, hf, hR, z31_0⟩ := hp
    have hB := th_B_c hB hI1 hS hf (by decide)
    have mm4 := (th_F_o hf h0 ro_42 (j := 5) (by decide) (by decide)).trans mm3
    refine W.eq (g2 := F0 m 34 ls []) rfl ?_
    have q831 := z31_0
    have tv_n_x31 : tv_f G H31 tp 9 1 = tv_f G H0 tp 9 1 + 4 + 4 := by have q9 := q831 (by have q7 := tv_n_x23; omega); have q7 := tv_n_x23; omega
    refine lv_aload_n hx hb dX11_feed_34 rfl (lv_at hl 0 rfl) ?_
    refine th_getK hC cf_X11 hB.1 h0 ro_42 rfl (j := 5) (by decide) mm4 kf_X11_37 dX11_feed_35 ?_
    refine lv_iload_n hx hb dX11_feed_38 rfl (lv_at hl 3 rfl) ?_
    refine th_call (th_runV (As := [.int p3]) (rest := []) hC mf_X9_addFour km_X11_189 im_X9_addFour se_X9_addFour (c_X9_addFour_n l G Γ H31 hB.1 hR tp htp p3) rfl rfl ⟨Nat.le_of_ble_eq_true rfl, Nat.le_of_ble_eq_true rfl⟩ hB.1 htp ro_37 rfl rfl hl.1 rfl (Nat.le_of_ble_eq_true rfl) dX11_feed_39 ⟨Nat.le_refl _, Nat.le_refl _⟩) hB.2.1 (fun v39 H39 locs hp hz hS => ?_)
    obtain ⟨rfl, hI1, hf, hR, z39_0⟩ := hp
    have hB := th_B_c hB hI1 hS hf (by decide)
    have mm5 := (th_F_o hf h0 ro_42 (j := 5) (by decide) (by decide)).trans mm4
    refine W.eq (g2 := F0 m 42 ls []) rfl ?_
    have q839 := z39_0
    have tv_n_x39 : tv_f G H39 tp 9 1 = tv_f G H0 tp 9 1 + 4 + 4 + 4 := by have q9 := q839 (by have q7 := tv_n_x31; omega); have q7 := tv_n_x31; omega
    refine lv_aload_n hx hb dX11_feed_42 rfl (lv_at hl 0 rfl) ?_
    refine th_getK hC cf_X11 hB.1 h0 ro_42 rfl (j := 5) (by decide) mm5 kf_X11_37 dX11_feed_43 ?_
    refine lv_iload hx hb dX11_feed_46 (lv_at hl 4 rfl) ?_
    refine th_call (th_runV (As := [.int p4]) (rest := []) hC mf_X9_addFour km_X11_189 im_X9_addFour se_X9_addFour (c_X9_addFour_n l G Γ H39 hB.1 hR tp htp p4) rfl rfl ⟨Nat.le_of_ble_eq_true rfl, Nat.le_of_ble_eq_true rfl⟩ hB.1 htp ro_37 rfl rfl hl.1 rfl (Nat.le_of_ble_eq_true rfl) dX11_feed_48 ⟨Nat.le_refl _, Nat.le_refl _⟩) hB.2.1 (fun v48 H48 locs hp hz hS => ?_)
    obtain ⟨rfl, hI1, hf, hR, z48_0⟩ := hp
    have hB := th_B_c hB hI1 hS hf (by decide)
    have mm6 := (th_F_o hf h0 ro_42 (j := 5) (by decide) (by decide)).trans mm5
    refine W.eq (g2 := F0 m 51 ls []) rfl ?_
    have q848 := z48_0
    have tv_n_x48 : tv_f G H48 tp 9 1 = tv_f G H0 tp 9 1 + 4 + 4 + 4 + 4 := by have q9 := q848 (by have q7 := tv_n_x39; omega); have q7 := tv_n_x39; omega
    refine lv_aload_n hx hb dX11_feed_51 rfl (lv_at hl 0 rfl) ?_
    refine th_getK hC cf_X11 hB.1 h0 ro_42 rfl (j := 5) (by decide) mm6 kf_X11_37 dX11_feed_52 ?_
    refine lv_iload hx hb dX11_feed_55 (lv_at hl 5 rfl) ?_
    refine th_call (th_runV (As := [.int p5]) (rest := []) hC mf_X9_addFour km_X11_189 im_X9_addFour se_X9_addFour (c_X9_addFour_n l G Γ H48 hB.1 hR tp htp p5) rfl rfl ⟨Nat.le_of_ble_eq_true rfl, Nat.le_of_ble_eq_true rfl⟩ hB.1 htp ro_37 rfl rfl hl.1 rfl (Nat.le_of_ble_eq_true rfl) dX11_feed_57 ⟨Nat.le_refl _, Nat.le_refl _⟩) hB.2.1 (fun v57 H57 locs hp hz hS => ?_)
    obtain ⟨rfl, hI1, hf, hR, z57_0⟩ := hp
    have hB := th_B_c hB hI1 hS hf (by decide)
    have mm7 := (th_F_o hf h0 ro_42 (j := 5) (by decide) (by decide)).trans mm6
    refine W.eq (g2 := F0 m 60 ls []) rfl ?_
    have q857 := z57_0
    have tv_n_x57 : tv_f G H57 tp 9 1 = tv_f G H0 tp 9 1 + 4 + 4 + 4 + 4 + 4 := by have q9 := q857 (by have q7 := tv_n_x48; omega); have q7 := tv_n_x48; omega
    refine lv_aload_n hx hb dX11_feed_60 rfl (lv_at hl 0 rfl) ?_
    refine th_getK hC cf_X11 hB.1 h0 ro_42 rfl (j := 5) (by decide) mm7 kf_X11_37 dX11_feed_61 ?_
    refine th_getI (j := 1) hC cf_X9 hB.1 htp ro_37 rfl rfl kf_X11_186 dX11_feed_64 (fun x8 mx8 lx8 ux8 => ?_)
    have twx8 : tv_f G H0 tp 9 1 + 4 + 4 + 4 + 4 + 4 = x8.toInt := tv_n_x57.symm.trans (tv_fat mx8)
    exact th_iret hC hH hr hlocks rfl hB.2.1 ⟨_, rfl, by intros; omega, by intros; omega, hB.1, hB.2.2, hR, (by have q9 : tv_f G H57 tp 9 1 = tv_f G H0 tp 9 1 + 4 + 4 + 4 + 4 + 4 := tv_n_x57; split <;> omega)⟩ dX11_feed_67
  · refine lv_iconst (v := (-1)) hx hb dX11_feed_16 (by decide) ?_
    exact th_iret hC hH hr hlocks rfl hB.2.1 ⟨_, rfl, by first | (intro h9; exact absurd h9 (by decide)) | (have w9 := tk_m1; intros; omega), by first | (intro h9; exact absurd h9 (by decide)) | (have w9 := tk_m1; intros; omega), hB.1, hB.2.2, hR, (by have q9 : tv_f G H0 tp 9 1 = tv_f G H0 tp 9 1 := rfl; split <;> omega)⟩ dX11_feed_17

set_option maxHeartbeats 4000000 in
set_option maxRecDepth 100000 in
theorem c_X11_end_n (l : Launch) (G : th_G) (Γ : th_Ga) (H0 : Heap) (hI : th_I G Γ H0) (hR : th_RC G Γ H0) (a0 : Nat) (h0 : Γ a0 = (42, 0)) (p1 : Int32) (tp : Nat) (htp : Γ tp = (37, 0)) (mtp : th_sl H0 a0 (G.1.2 11 5) = .ref tp) : Met l yX11_end (.code yX11_end cX11_end 2 (some FieldType.int) :: th_tb) ({ frames := 0, cells := 0, slots := 0, locals := 0 } : Room) (th_P [.ref a0, .int p1] G H0) (th_Q (fun (v : Option Value) (H1 : Heap) => ∃ r : Int32, v = some (.int r) ∧ (p1.toInt < 0 ∨ tv_f G H0 tp 9 1 < p1.toInt → r.toInt = -1) ∧ (0 ≤ p1.toInt ∧ p1.toInt ≤ tv_f G H0 tp 9 1 → r.toInt = p1.toInt) ∧ th_I G Γ H1 ∧ th_F G Γ [(37, 1)] H0 H1 ∧ th_RC G Γ H1 ∧ (tv_f G H1 tp 9 1 = if 0 ≤ p1.toInt ∧ p1.toInt ≤ tv_f G H0 tp 9 1 then p1.toInt else tv_f G H0 tp 9 1)) G) 0 0 (fun q => G.2.2 ≤ q) := by
  refine th_met RX11 (by decide) rfl (Nat.le_of_ble_eq_true rfl) ?_
  intro p e s m below meth c hC hH hr hlocks hnm ls hl
  have hx := hC.1
  have hb := hC.2.1
  have hB : th_B G Γ Γ [(37, 1)] H0 H0 [] := ⟨hI, va_S.rf, th_F_rf⟩
  have hl : lv_has ls 2 [(0, .ref a0), (1, .int p1)] := hl
  have lp1 := ti_lo p1; have up1 := ti_hi p1
  refine lv_iload_n hx hb dX11_end_0 rfl (lv_at hl 1 rfl) ?_
  refine tr_if_lt (tgt := 15) hx hb dX11_end_1 (by decide) (Eq.refl _) (fun c1 => ?_) (fun c1 => ?_)
  · refine lv_iconst (v := (-1)) hx hb dX11_end_15 (by decide) ?_
    exact th_iret hC hH hr hlocks rfl hB.2.1 ⟨_, rfl, by first | (intro h9; exact absurd h9 (by decide)) | (have w9 := tk_m1; intros; omega), by first | (intro h9; exact absurd h9 (by decide)) | (have w9 := tk_m1; intros; omega), hB.1, hB.2.2, hR, (by have q9 : tv_f G H0 tp 9 1 = tv_f G H0 tp 9 1 := rfl; split <;> omega)⟩ dX11_end_16
  · refine lv_iload_n hx hb dX11_end_4 rfl (lv_at hl 1 rfl) ?_
    refine lv_aload_n hx hb dX11_end_5 rfl (lv_at hl 0 rfl) ?_
    refine th_getK hC cf_X11 hB.1 h0 ro_42 rfl (j := 5) (by decide) mtp kf_X11_37 dX11_end_6 ?_
    refine th_getI (j := 1) hC cf_X9 hB.1 htp ro_37 rfl rfl kf_X11_186 dX11_end_9 (fun x1 mx1 lx1 ux1 => ?_)
    have twx1 : tv_f G H0 tp 9 1 = x1.toInt := tv_fat mx1
    refine tr_icmp_le (tgt := 17) hx hb dX11_end_12 (by decide) (Eq.refl _) (Eq.refl _) (fun c12 => ?_) (fun c12 => ?_)
    · refine lv_aload_n hx hb dX11_end_17 rfl (lv_at hl 0 rfl) ?_
      refine th_getK hC cf_X11 hB.1 h0 ro_42 rfl (j := 5) (by decide) mtp kf_X11_37 dX11_end_18 ?_
      refine lv_iload_n hx hb dX11_end_21 rfl (lv_at hl 1 rfl) ?_
      refine th_put hC cf_X9 hB htp (Or.inl htp) ro_37 rfl (j := 1) rfl (th_sI (by omega) (by omega)) (by decide) rfl rfl rfl kf_X11_186 dX11_end_22 (fun H22 locs hB hf hst22 => ?_)
      have mm2 := (th_F_o hf h0 ro_42 (j := 5) (by decide) (by decide)).trans mtp
      have hR := th_RC_F hB.1 hR hf (th_T_s htp ro_37 hst22) (by decide)
      have tv_n_H22 : tv_f G H22 tp 9 1 = p1.toInt := tv_f_St hst22
      refine lv_iload_n hx hb dX11_end_25 rfl (lv_at hl 1 rfl) ?_
      exact th_iret hC hH hr hlocks rfl hB.2.1 ⟨_, rfl, by intros; omega, by intros; omega, hB.1, hB.2.2, hR, (by have q9 : tv_f G H22 tp 9 1 = p1.toInt := tv_n_H22; split <;> omega)⟩ dX11_end_26
    · refine lv_iconst (v := (-1)) hx hb dX11_end_15 (by decide) ?_
      exact th_iret hC hH hr hlocks rfl hB.2.1 ⟨_, rfl, by first | (intro h9; exact absurd h9 (by decide)) | (have w9 := tk_m1; intros; omega), by first | (intro h9; exact absurd h9 (by decide)) | (have w9 := tk_m1; intros; omega), hB.1, hB.2.2, hR, (by have q9 : tv_f G H0 tp 9 1 = tv_f G H0 tp 9 1 := rfl; split <;> omega)⟩ dX11_end_16

set_option maxHeartbeats 4000000 in
set_option maxRecDepth 100000 in
theorem c_X11_row_n (l : Launch) (G : th_G) (Γ : th_Ga) (H0 : Heap) (hI : th_I G Γ H0) (hR : th_RC G Γ H0) (a0 : Nat) (h0 : Γ a0 = (42, 0)) (tp : Nat) (htp : Γ tp = (37, 0)) (mtp : th_sl H0 a0 (G.1.2 11 5) = .ref tp) : Met l yX11_row (.code yX11_row cX11_row 4 (some FieldType.int) :: th_tb) ({ frames := 1, cells := 0, slots := 0, locals := 23 } : Room) (th_P [.ref a0] G H0) (th_Q (fun (v : Option Value) (H1 : Heap) => ∃ r : Int32, v = some (.int r) ∧ th_I G Γ H1 ∧ th_F G Γ [(45, 0), (42, 14), (4, 0), (5, 0), (6, 0), (3, 7), (17, 4), (37, 1), (42, 16), (7, 0), (8, 0)] H0 H1 ∧ th_RC G Γ H1 ∧ (tv_f G H1 tp 9 1 = 0)) G) 0 0 (fun q => G.2.2 ≤ q) := by
  refine th_met RX11 (by decide) rfl (Nat.le_of_ble_eq_true rfl) ?_
  intro p e s m below meth c hC hH hr hlocks hnm ls hl
  have hx := hC.1
  have hb := hC.2.1
  have hB : th_B G Γ Γ [(45, 0), (42, 14), (4, 0), (5, 0), (6, 0), (3, 7), (17, 4), (37, 1), (42, 16), (7, 0), (8, 0)] H0 H0 [] := ⟨hI, va_S.rf, th_F_rf⟩
  have hl : lv_has ls 4 [(0, .ref a0)] := hl
  refine lv_aload_n hx hb dX11_row_0 rfl (lv_at hl 0 rfl) ?_
  refine th_getK hC cf_X11 hB.1 h0 ro_42 rfl (j := 5) (by decide) mtp kf_X11_37 dX11_row_1 ?_
  refine th_getI (j := 1) hC cf_X9 hB.1 htp ro_37 rfl rfl kf_X11_186 dX11_row_4 (fun x1 mx1 lx1 ux1 => ?_)
  have twx1 : tv_f G H0 tp 9 1 = x1.toInt := tv_fat mx1
  refine tr_if_ne (tgt := 17) hx hb dX11_row_7 (by decide) (Eq.refl _) (fun c7 => ?_) (fun c7 => ?_)
  · refine lv_iconst (v := 0) hx hb dX11_row_17 (by decide) ?_
    refine lv_istore_n (lv' := [(1, .int 0), (0, .ref a0)]) hx hb dX11_row_18 rfl hl (by decide) rfl (fun ls hl => ?_)
    refine lv_iconst (v := 0) hx hb dX11_row_19 (by decide) ?_
    refine lv_istore_n (lv' := [(2, .int 0), (1, .int 0), (0, .ref a0)]) hx hb dX11_row_20 rfl hl (by decide) rfl (fun ls hl => ?_)
    refine lv_iconst (v := 0) hx hb dX11_row_21 (by decide) ?_
    refine lv_istore_n (lv' := [(3, .int 0), (2, .int 0), (1, .int 0), (0, .ref a0)]) hx hb dX11_row_22 rfl hl (by decide) rfl (fun ls hl => ?_)
    have lp23 : ∀ (n23 : Nat) (H23 : Heap) (locs : List Loc) (ls : Array Slot) (j23_1 : Int32) (j23_2 : Int32) (j23_3 : Int32), th_B G Γ Γ [(45, 0), (42, 14), (4, 0), (5, 0), (6, 0), (3, 7), (17, 4), (37, 1), (42, 16), (7, 0), (8, 0)] H0 H23 locs → th_RC G Γ H23 → lv_has ls 4 [(0, .ref a0), (1, .int j23_1), (2, .int j23_2), (3, .int j23_3)] → 0 ≤ j23_3.toInt → j23_3.toInt ≤ 479 → th_sl H23 tp (G.1.2 9 1) = .int x1 → tv_f G H23 tp 9 1 = tv_f G H0 tp 9 1 → (2147483648 : Int) - j23_3.toInt ≤ (n23 : Int) → W p l e ({ frames := 1, cells := 0, slots := 0, locals := 23 } : Room) s m ([.ref a0] : List Value).toArray below meth c H23 locs 0 0 (MQ below (th_Q (fun (v : Option Value) (H1 : Heap) => ∃ r : Int32, v = some (.int r) ∧ th_I G Γ H1 ∧ th_F G Γ [(45, 0), (42, 14), (4, 0), (5, 0), (6, 0), (3, 7), (17, 4), (37, 1), (42, 16), (7, 0), (8, 0)] H0 H1 ∧ th_RC G Γ H1 ∧ (tv_f G H1 tp 9 1 = 0)) G) ([.ref a0] : List Value).toArray s 0 0 (fun q => G.2.2 ≤ q)) (F0 m 23 ls []) := by
      intro n23
      induction n23 with
      | zero => intro H23 locs ls j23_1 j23_2 j23_3 hB hR hl g23_0 g23_1 g23_2 g23_3 hm23; exact absurd hm23 (by have := ti_hi j23_3; omega)
      | succ n23 ih23 =>
        intro H23 locs ls j23_1 j23_2 j23_3 hB hR hl g23_0 g23_1 g23_2 g23_3 hm23
        have lj23_1 := ti_lo j23_1; have uj23_1 := ti_hi j23_1
        have lj23_2 := ti_lo j23_2; have uj23_2 := ti_hi j23_2
        have lj23_3 := ti_lo j23_3; have uj23_3 := ti_hi j23_3
        have mm2 := (th_F_o hB.2.2 h0 ro_42 (j := 5) (by decide) (by decide)).trans mtp
        have hm23 : (2147483648 : Int) - j23_3.toInt ≤ (n23 : Int) + 1 := by omega
        refine lv_iload_n hx hb dX11_row_23 rfl (lv_at hl 3 rfl) ?_
        refine lv_aload_n hx hb dX11_row_24 rfl (lv_at hl 0 rfl) ?_
        refine th_getK hC cf_X11 hB.1 h0 ro_42 rfl (j := 5) (by decide) mm2 kf_X11_37 dX11_row_25 ?_
        refine th_getK hC cf_X9 hB.1 htp ro_37 rfl (j := 1) (by decide) g23_2 kf_X11_186 dX11_row_28 ?_
        refine tr_icmp_ge (tgt := 106) hx hb dX11_row_31 (by decide) (Eq.refl _) (Eq.refl _) (fun c31 => ?_) (fun c31 => ?_)
        · refine lv_aload_n hx hb dX11_row_106 rfl (lv_at hl 0 rfl) ?_
          refine lv_iload_n hx hb dX11_row_107 rfl (lv_at hl 2 rfl) ?_
          refine th_put hC cf_X11 hB h0 (Or.inl h0) ro_42 rfl (j := 16) rfl th_sIa (by decide) rfl rfl rfl kf_X11_101 dX11_row_108 (fun H108 locs hB hf hst108 => ?_)
          have mm3 := (th_F_o hf htp ro_37 (j := 1) (by decide) (by decide)).trans g23_2
          have mm4 := (th_F_o hf h0 ro_42 (j := 5) (by decide) (by decide)).trans mm2
          have hR := th_RC_F hB.1 hR hf (th_T_s h0 ro_42 hst108) (by decide)
          have tv_n_H108 : tv_f G H108 tp 9 1 = tv_f G H0 tp 9 1 := (tv_f_F (j := 1) hf htp ro_37 (by decide) (by decide)).trans g23_3
          refine lv_aload_n hx hb dX11_row_111 rfl (lv_at hl 0 rfl) ?_
          refine th_getK hC cf_X11 hB.1 h0 ro_42 rfl (j := 5) (by decide) mm4 kf_X11_37 dX11_row_112 ?_
          refine lv_iconst (v := 0) hx hb dX11_row_115 (by decide) ?_
          refine th_put hC cf_X9 hB htp (Or.inl htp) ro_37 rfl (j := 1) rfl (th_sI (by decide) (by decide)) (by decide) rfl rfl rfl kf_X11_186 dX11_row_116 (fun H116 locs hB hf hst116 => ?_)
          have mm5 := (th_F_o hf h0 ro_42 (j := 5) (by decide) (by decide)).trans mm4
          have hR := th_RC_F hB.1 hR hf (th_T_s htp ro_37 hst116) (by decide)
          have tv_n_H116 : tv_f G H116 tp 9 1 = 0 := (tv_f_St hst116).trans tk_0
          refine lv_aload_n hx hb dX11_row_119 rfl (lv_at hl 0 rfl) ?_
          refine th_getR (j := 10) (r2 := 17) hC cf_X11 hB.1 h0 ro_42 rfl rfl kf_X11_72 dX11_row_120 (fun b6 mb6 hb6 => ?_)
          refine th_call (th_runV (As := []) (rest := []) hC mf_X4_clear km_X11_114 im_X4_clear se_X4_clear (c_X4_clear l G Γ H116 hB.1 hR b6 hb6) rfl rfl ⟨Nat.le_of_ble_eq_true rfl, Nat.le_of_ble_eq_true rfl⟩ hB.1 hb6 ro_17 rfl rfl hl.1 rfl (Nat.le_of_ble_eq_true rfl) dX11_row_123 ⟨Nat.le_refl _, Nat.le_refl _⟩) hB.2.1 (fun v123 H123 locs hp hz hS => ?_)
          obtain ⟨rfl, hI1, hf, hR⟩ := hp
          have hB := th_B_c hB hI1 hS hf (by decide)
          have mm7 := (th_F_o hf h0 ro_42 (j := 5) (by decide) (by decide)).trans mm5
          have tv_n_H123 : tv_f G H123 tp 9 1 = 0 := (tv_f_F (j := 1) hf htp ro_37 (by decide) (by decide)).trans tv_n_H116
          refine W.eq (g2 := F0 m 126 ls []) rfl ?_
          refine lv_aload_n hx hb dX11_row_126 rfl (lv_at hl 0 rfl) ?_
          refine lv_iload_n hx hb dX11_row_127 rfl (lv_at hl 1 rfl) ?_
          refine th_call (th_runV (As := [.int j23_1]) (rest := []) hC mf_X11_answer km_X11_117 im_X11_answer se_X11_answer (c_X11_answer l G Γ H123 hB.1 hR a0 h0 j23_1) rfl rfl ⟨Nat.le_of_ble_eq_true rfl, Nat.le_of_ble_eq_true rfl⟩ hB.1 h0 ro_42 rfl rfl hl.1 rfl (Nat.le_of_ble_eq_true rfl) dX11_row_128 ⟨Nat.le_refl _, Nat.le_refl _⟩) hB.2.1 (fun v128 H128 locs hp hz hS => ?_)
          obtain ⟨x8, rfl, q128_0, hI1, hf, hR⟩ := hp
          have hB := th_B_c hB hI1 hS hf (by decide)
          have mm9 := (th_F_o hf h0 ro_42 (j := 5) (by decide) (by decide)).trans mm7
          have tv_n_H128 : tv_f G H128 tp 9 1 = 0 := (tv_f_F (j := 1) hf htp ro_37 (by decide) (by decide)).trans tv_n_H123
          refine W.eq (g2 := F0 m 131 ls [.int x8]) rfl ?_
          exact th_iret hC hH hr hlocks rfl hB.2.1 ⟨_, rfl, hB.1, hB.2.2, hR, (by have q9 : tv_f G H128 tp 9 1 = 0 := tv_n_H128; omega)⟩ dX11_row_131
        · refine lv_iload_n hx hb dX11_row_34 rfl (lv_at hl 3 rfl) ?_
          refine lv_iconst (v := 2) hx hb dX11_row_35 (by decide) ?_
          refine tr_iadd hx hb dX11_row_36 (Eq.refl _) tk_2 (by omega) (by omega) (fun x10 ex10 => ?_)
          refine lv_aload_n hx hb dX11_row_37 rfl (lv_at hl 0 rfl) ?_
          refine th_getK hC cf_X11 hB.1 h0 ro_42 rfl (j := 5) (by decide) mm2 kf_X11_37 dX11_row_38 ?_
          refine th_getK hC cf_X9 hB.1 htp ro_37 rfl (j := 1) (by decide) g23_2 kf_X11_186 dX11_row_41 ?_
          have jn100 : ∀ (H100 : Heap) (locs : List Loc) (ls : Array Slot) (j100_1 : Int32) (j100_2 : Int32), th_B G Γ Γ [(45, 0), (42, 14), (4, 0), (5, 0), (6, 0), (3, 7), (17, 4), (37, 1), (42, 16), (7, 0), (8, 0)] H0 H100 locs → th_RC G Γ H100 → lv_has ls 4 [(0, .ref a0), (3, .int j23_3), (1, .int j100_1), (2, .int j100_2)] → th_sl H100 tp (G.1.2 9 1) = .int x1 → tv_f G H100 tp 9 1 = tv_f G H0 tp 9 1 → W p l e ({ frames := 1, cells := 0, slots := 0, locals := 23 } : Room) s m ([.ref a0] : List Value).toArray below meth c H100 locs 0 0 (MQ below (th_Q (fun (v : Option Value) (H1 : Heap) => ∃ r : Int32, v = some (.int r) ∧ th_I G Γ H1 ∧ th_F G Γ [(45, 0), (42, 14), (4, 0), (5, 0), (6, 0), (3, 7), (17, 4), (37, 1), (42, 16), (7, 0), (8, 0)] H0 H1 ∧ th_RC G Γ H1 ∧ (tv_f G H1 tp 9 1 = 0)) G) ([.ref a0] : List Value).toArray s 0 0 (fun q => G.2.2 ≤ q)) (F0 m 100 ls []) := by
            intro H100 locs ls j100_1 j100_2 hB hR hl g100_0 g100_1
            have lj100_1 := ti_lo j100_1; have uj100_1 := ti_hi j100_1
            have lj100_2 := ti_lo j100_2; have uj100_2 := ti_hi j100_2
            have mm11 := (th_F_o hB.2.2 h0 ro_42 (j := 5) (by decide) (by decide)).trans mtp
            refine tr_iinc (fun x12 => [(3, .int x12), (0, .ref a0), (1, .int j100_1), (2, .int j100_2)]) hx hb dX11_row_100 hl (k := 1) rfl (Eq.refl _) tk_3 (by omega) (by omega) (by decide) (fun _ => rfl) (fun x12 ls ex12 hl => ?_)
            refine lv_goto (tgt := 23) hx hb dX11_row_103 (by decide) ?_
            exact ih23 H100 locs ls j100_1 j100_2 x12 hB hR (lv_sub hl [1, 2, 3, 0] rfl) (by omega) (by omega) g100_0 g100_1 (by omega)
          have jn97 : ∀ (H97 : Heap) (locs : List Loc) (ls : Array Slot) , th_B G Γ Γ [(45, 0), (42, 14), (4, 0), (5, 0), (6, 0), (3, 7), (17, 4), (37, 1), (42, 16), (7, 0), (8, 0)] H0 H97 locs → th_RC G Γ H97 → lv_has ls 4 [(0, .ref a0), (1, .int j23_1), (2, .int j23_2), (3, .int j23_3)] → th_sl H97 tp (G.1.2 9 1) = .int x1 → tv_f G H97 tp 9 1 = tv_f G H0 tp 9 1 → W p l e ({ frames := 1, cells := 0, slots := 0, locals := 23 } : Room) s m ([.ref a0] : List Value).toArray below meth c H97 locs 0 0 (MQ below (th_Q (fun (v : Option Value) (H1 : Heap) => ∃ r : Int32, v = some (.int r) ∧ th_I G Γ H1 ∧ th_F G Γ [(45, 0), (42, 14), (4, 0), (5, 0), (6, 0), (3, 7), (17, 4), (37, 1), (42, 16), (7, 0), (8, 0)] H0 H1 ∧ th_RC G Γ H1 ∧ (tv_f G H1 tp 9 1 = 0)) G) ([.ref a0] : List Value).toArray s 0 0 (fun q => G.2.2 ≤ q)) (F0 m 97 ls []) := by
            intro H97 locs ls hB hR hl g97_0 g97_1
            have mm13 := (th_F_o hB.2.2 h0 ro_42 (j := 5) (by decide) (by decide)).trans mtp
            refine tr_iincA (fun x14 => [(2, .int x14), (0, .ref a0), (1, .int j23_1), (3, .int j23_3)]) hx hb dX11_row_97 hl (k := 2) rfl (by decide) (fun _ => rfl) (fun x14 ls hl => ?_)
            have lx14 := ti_lo x14; have ux14 := ti_hi x14
            exact jn100 H97 locs ls j23_1 x14 hB hR (lv_sub hl [1, 3, 2, 0] rfl) g97_0 g97_1
          refine tr_icmp_ge (tgt := 97) hx hb dX11_row_44 (by decide) (Eq.refl _) (Eq.refl _) (fun c44 => ?_) (fun c44 => ?_)
          · exact jn97 H23 locs ls hB hR (lv_sub hl [0, 1, 2, 3] rfl) g23_2 g23_3
          · refine lv_aload_n hx hb dX11_row_47 rfl (lv_at hl 0 rfl) ?_
            refine th_getR (j := 0) (r2 := 32) hC cf_X11 hB.1 h0 ro_42 rfl rfl kf_X11_12 dX11_row_48 (fun b15 mb15 hb15 => ?_)
            have sb15 := (th_F_o hB.2.2 h0 ro_42 (j := 0) (by decide) (by decide)).symm.trans mb15
            refine th_getR (j := 0) (r2 := 3) hC cf_X8 hB.1 hb15 ro_32 rfl rfl kf_X11_107 dX11_row_51 (fun b16 mb16 hb16 => ?_)
            have sb16 := (th_F_o hB.2.2 hb15 ro_32 (j := 0) (by decide) (by decide)).symm.trans mb16
            refine lv_aload_n hx hb dX11_row_54 rfl (lv_at hl 0 rfl) ?_
            refine th_getK hC cf_X11 hB.1 h0 ro_42 rfl (j := 5) (by decide) mm2 kf_X11_37 dX11_row_55 ?_
            refine th_getO (j := 0) (r2 := 38) hC cf_X9 hB.1 htp ro_37 rfl rfl kf_X11_193 dX11_row_58 (fun b17 mb17 hb17 => ?_)
            have sb17 := (th_F_o hB.2.2 htp ro_37 (j := 0) (by decide) (by decide)).symm.trans mb17
            refine lv_iload_n hx hb dX11_row_61 rfl (lv_at hl 3 rfl) ?_
            refine th_ialdF hC hB.1 hb17 ro_38 rfl (Eq.refl _) (by omega) (by omega) rfl dX11_row_62 (fun x18 mx18 lx18 ux18 => ?_)
            refine lv_aload_n hx hb dX11_row_63 rfl (lv_at hl 0 rfl) ?_
            refine th_getK hC cf_X11 hB.1 h0 ro_42 rfl (j := 5) (by decide) mm2 kf_X11_37 dX11_row_64 ?_
            refine th_getK hC cf_X9 hB.1 htp ro_37 rfl (j := 0) (by decide) mb17 kf_X11_193 dX11_row_67 ?_
            refine lv_iload_n hx hb dX11_row_70 rfl (lv_at hl 3 rfl) ?_
            refine lv_iconst (v := 1) hx hb dX11_row_71 (by decide) ?_
            refine tr_iadd hx hb dX11_row_72 (Eq.refl _) tk_1 (by omega) (by omega) (fun x19 ex19 => ?_)
            refine th_ialdF hC hB.1 hb17 ro_38 rfl (Eq.refl _) (by omega) (by omega) rfl dX11_row_73 (fun x20 mx20 lx20 ux20 => ?_)
            refine lv_aload_n hx hb dX11_row_74 rfl (lv_at hl 0 rfl) ?_
            refine th_getK hC cf_X11 hB.1 h0 ro_42 rfl (j := 5) (by decide) mm2 kf_X11_37 dX11_row_75 ?_
            refine th_getK hC cf_X9 hB.1 htp ro_37 rfl (j := 0) (by decide) mb17 kf_X11_193 dX11_row_78 ?_
            refine lv_iload_n hx hb dX11_row_81 rfl (lv_at hl 3 rfl) ?_
            refine lv_iconst (v := 2) hx hb dX11_row_82 (by decide) ?_
            refine tr_iadd hx hb dX11_row_83 (Eq.refl _) tk_2 (by omega) (by omega) (fun x21 ex21 => ?_)
            refine th_ialdF hC hB.1 hb17 ro_38 rfl (Eq.refl _) (by omega) (by omega) rfl dX11_row_84 (fun x22 mx22 lx22 ux22 => ?_)
            refine th_call (th_runV (As := [.int x18, .int x20, .int x22]) (rest := []) hC mf_X1_add km_X11_110 im_X1_add se_X1_add (c_X1_add l G Γ H23 hB.1 hR b16 hb16 x18 x20 x22) rfl rfl ⟨Nat.le_of_ble_eq_true rfl, Nat.le_of_ble_eq_true rfl⟩ hB.1 hb16 ro_3 rfl rfl hl.1 rfl (Nat.le_of_ble_eq_true rfl) dX11_row_85 ⟨Nat.le_refl _, Nat.le_refl _⟩) hB.2.1 (fun v85 H85 locs hp hz hS => ?_)
            obtain ⟨x23, rfl, lx23, ux23, hI1, hf, hR⟩ := hp
            have hB := th_B_c hB hI1 hS hf (by decide)
            have mm24 := (th_F_o hf htp ro_37 (j := 1) (by decide) (by decide)).trans g23_2
            have mm25 := (th_F_o hf h0 ro_42 (j := 5) (by decide) (by decide)).trans mm2
            have mm26 := (th_F_o hf h0 ro_42 (j := 0) (by decide) (by decide)).trans mb15
            have mm27 := (th_F_o hf hb15 ro_32 (j := 0) (by decide) (by decide)).trans mb16
            have mm28 := (th_F_o hf htp ro_37 (j := 0) (by decide) (by decide)).trans mb17
            have tv_n_H85 : tv_f G H85 tp 9 1 = tv_f G H0 tp 9 1 := (tv_f_F (j := 1) hf htp ro_37 (by decide) (by decide)).trans g23_3
            refine W.eq (g2 := F0 m 88 ls [.int x23]) rfl ?_
            refine tr_if_lt (tgt := 97) hx hb dX11_row_88 (by decide) (Eq.refl _) (fun c88 => ?_) (fun c88 => ?_)
            · exact jn97 H85 locs ls hB hR (lv_sub hl [0, 1, 2, 3] rfl) mm24 tv_n_H85
            · refine tr_iincA (fun x29 => [(1, .int x29), (0, .ref a0), (2, .int j23_2), (3, .int j23_3)]) hx hb dX11_row_91 hl (k := 1) rfl (by decide) (fun _ => rfl) (fun x29 ls hl => ?_)
              have lx29 := ti_lo x29; have ux29 := ti_hi x29
              refine lv_goto (tgt := 100) hx hb dX11_row_94 (by decide) ?_
              exact jn100 H85 locs ls x29 j23_2 hB hR (lv_sub hl [1, 3, 0, 2] rfl) mm24 tv_n_H85
    exact lp23 ((2147483648 : Int) - (0)).toNat H0 [] ls 0 0 0 hB hR (lv_sub hl [3, 2, 1, 0] rfl) (by decide) (by decide) mx1 rfl (by have w0 := tk_0; omega)
  · refine lv_aload_n hx hb dX11_row_10 rfl (lv_at hl 0 rfl) ?_
    refine lv_bipush (v := (-6)) hx hb dX11_row_11 (by decide) ?_
    refine th_call (th_runV (As := [.int (-6)]) (rest := []) hC mf_X11_answer km_X11_117 im_X11_answer se_X11_answer (c_X11_answer l G Γ H0 hB.1 hR a0 h0 (-6)) rfl rfl ⟨Nat.le_of_ble_eq_true rfl, Nat.le_of_ble_eq_true rfl⟩ hB.1 h0 ro_42 rfl rfl hl.1 rfl (Nat.le_of_ble_eq_true rfl) dX11_row_13 ⟨Nat.le_refl _, Nat.le_refl _⟩) hB.2.1 (fun v13 H13 locs hp hz hS => ?_)
    obtain ⟨x30, rfl, q13_0, hI1, hf, hR⟩ := hp
    have hB := th_B_c hB hI1 hS hf (by decide)
    have mm31 := (th_F_o hf h0 ro_42 (j := 5) (by decide) (by decide)).trans mtp
    have mm32 := (th_F_o hf htp ro_37 (j := 1) (by decide) (by decide)).trans mx1
    have tv_n_H13 : tv_f G H13 tp 9 1 = tv_f G H0 tp 9 1 := tv_f_F (j := 1) hf htp ro_37 (by decide) (by decide)
    have w13_0 := tk_m6
    refine W.eq (g2 := F0 m 16 ls [.int x30]) rfl ?_
    exact th_iret hC hH hr hlocks rfl hB.2.1 ⟨_, rfl, hB.1, hB.2.2, hR, (by have q9 : tv_f G H13 tp 9 1 = tv_f G H0 tp 9 1 := tv_n_H13; omega)⟩ dX11_row_16

set_option maxHeartbeats 4000000 in
set_option maxRecDepth 100000 in
theorem c_X11_law_n (l : Launch) (G : th_G) (Γ : th_Ga) (H0 : Heap) (hI : th_I G Γ H0) (hR : th_RC G Γ H0) (a0 : Nat) (h0 : Γ a0 = (42, 0)) (tp : Nat) (htp : Γ tp = (37, 0)) (mtp : th_sl H0 a0 (G.1.2 11 5) = .ref tp) (k1 : ∀ a a1 o o1 : Nat, Γ a = (20, o) → Γ a1 = (20, o1) → a = a1) : Met l yX11_law (.code yX11_law cX11_law 1 (some FieldType.int) :: th_tb) ({ frames := 46, cells := 0, slots := 0, locals := 1360 } : Room) (th_PX [.ref a0] G H0 (fun U => th_Z G U H0)) (th_Q (fun (v : Option Value) (H1 : Heap) => ∃ r : Int32, v = some (.int r) ∧ th_I G Γ H1 ∧ th_F G Γ [(45, 0), (42, 14), (20, 5), (20, 6), (20, 7), (20, 8), (40, 0), (39, 2), (41, 0), (39, 3), (21, 0), (22, 0), (20, 2), (20, 3), (20, 4), (37, 1), (42, 15), (32, 5)] H0 H1 ∧ th_RC G Γ H1 ∧ (tv_f G H1 tp 9 1 = 0)) G) 0 0 (fun q => G.2.2 ≤ q) := by
  refine th_metX RX11 (by decide) rfl (Nat.le_of_ble_eq_true rfl) ?_
  intro p e s m below meth c hC hX hH hr hlocks hnm ls hl
  have hx := hC.1
  have hb := hC.2.1
  have hB : th_B G Γ Γ [(45, 0), (42, 14), (20, 5), (20, 6), (20, 7), (20, 8), (40, 0), (39, 2), (41, 0), (39, 3), (21, 0), (22, 0), (20, 2), (20, 3), (20, 4), (37, 1), (42, 15), (32, 5)] H0 H0 [] := ⟨hI, va_S.rf, th_F_rf⟩
  have hl : lv_has ls 1 [(0, .ref a0)] := hl
  refine lv_aload_n hx hb dX11_law_0 rfl (lv_at hl 0 rfl) ?_
  refine th_getR (j := 0) (r2 := 32) hC cf_X11 hB.1 h0 ro_42 rfl rfl kf_X11_12 dX11_law_1 (fun b1 mb1 hb1 => ?_)
  refine th_getI (j := 5) hC cf_X8 hB.1 hb1 ro_32 rfl rfl kf_X11_196 dX11_law_4 (fun x2 mx2 lx2 ux2 => ?_)
  refine lv_bipush (v := 6) hx hb dX11_law_7 (by decide) ?_
  refine tr_icmp_lt (tgt := 27) hx hb dX11_law_9 (by decide) (Eq.refl _) tk_6 (fun c9 => ?_) (fun c9 => ?_)
  · refine lv_aload_n hx hb dX11_law_27 rfl (lv_at hl 0 rfl) ?_
    refine lv_aload_n hx hb dX11_law_28 rfl (lv_at hl 0 rfl) ?_
    refine th_getR (j := 6) (r2 := 20) hC cf_X11 hB.1 h0 ro_42 rfl rfl kf_X11_44 dX11_law_29 (fun b3 mb3 hb3 => ?_)
    refine lv_aload_n hx hb dX11_law_32 rfl (lv_at hl 0 rfl) ?_
    refine th_getK hC cf_X11 hB.1 h0 ro_42 rfl (j := 5) (by decide) mtp kf_X11_37 dX11_law_33 ?_
    refine lv_aload_n hx hb dX11_law_36 rfl (lv_at hl 0 rfl) ?_
    refine th_getK hC cf_X11 hB.1 h0 ro_42 rfl (j := 0) (by decide) mb1 kf_X11_12 dX11_law_37 ?_
    refine th_getO (j := 1) (r2 := 33) hC cf_X8 hB.1 hb1 ro_32 rfl rfl kf_X11_199 dX11_law_40 (fun b4 mb4 hb4 => ?_)
    refine lv_aload_n hx hb dX11_law_43 rfl (lv_at hl 0 rfl) ?_
    refine th_getK hC cf_X11 hB.1 h0 ro_42 rfl (j := 0) (by decide) mb1 kf_X11_12 dX11_law_44 ?_
    refine th_getK hC cf_X8 hB.1 hb1 ro_32 rfl (j := 5) (by decide) mx2 kf_X11_196 dX11_law_47 ?_
    refine th_aaldF (r2 := 39) hC hB.1 hb4 ro_33 rfl (Eq.refl _) (by omega) (by omega) rfl dX11_law_50 (fun b5 mb5 hb5 => ?_)
    refine lv_iconst (v := 0) hx hb dX11_law_51 (by decide) ?_
    refine th_call (th_runVX (As := [.ref tp, .ref b5, .int 0]) (rest := [.ref a0]) th_mvZ (th_Z_k hX hB.2.1) hC mf_X5_read km_X11_203 im_X5_read se_X5_read (c_X5_read l G Γ H0 hB.1 hR b3 hb3 tp htp b5 hb5 0 (by decide) (by decide) k1) rfl rfl ⟨Nat.le_of_ble_eq_true rfl, Nat.le_of_ble_eq_true rfl⟩ hB.1 hb3 ro_20 rfl rfl hl.1 rfl (Nat.le_of_ble_eq_true rfl) dX11_law_52 ⟨Nat.le_refl _, Nat.le_refl _⟩) hB.2.1 (fun v52 H52 locs hp hz hS => ?_)
    obtain ⟨x6, rfl, hI1, hf, hR⟩ := hp
    have hB := th_B_c hB hI1 hS hf (by decide)
    have mm7 := (th_F_o hf h0 ro_42 (j := 5) (by decide) (by decide)).trans mtp
    have mm8 := (th_F_o hf h0 ro_42 (j := 0) (by decide) (by decide)).trans mb1
    have mm9 := (th_F_o hf hb1 ro_32 (j := 5) (by decide) (by decide)).trans mx2
    have tv_n_H52 : tv_f G H52 tp 9 1 = tv_f G H0 tp 9 1 := tv_f_F (j := 1) hf htp ro_37 (by decide) (by decide)
    refine W.eq (g2 := F0 m 55 ls [.int x6, .ref a0]) rfl ?_
    refine th_put hC cf_X11 hB h0 (Or.inl h0) ro_42 rfl (j := 15) rfl th_sIa (by decide) rfl rfl rfl kf_X11_98 dX11_law_55 (fun H55 locs hB hf hst55 => ?_)
    have mm10 := (th_F_o hf h0 ro_42 (j := 5) (by decide) (by decide)).trans mm7
    have mm11 := (th_F_o hf h0 ro_42 (j := 0) (by decide) (by decide)).trans mm8
    have mm12 := (th_F_o hf hb1 ro_32 (j := 5) (by decide) (by decide)).trans mm9
    have hR := th_RC_F hB.1 hR hf (th_T_s h0 ro_42 hst55) (by decide)
    have tv_n_H55 : tv_f G H55 tp 9 1 = tv_f G H0 tp 9 1 := (tv_f_F (j := 1) hf htp ro_37 (by decide) (by decide)).trans tv_n_H52
    have mm13 := hst55.2.1
    refine lv_aload_n hx hb dX11_law_58 rfl (lv_at hl 0 rfl) ?_
    refine th_getK hC cf_X11 hB.1 h0 ro_42 rfl (j := 5) (by decide) mm10 kf_X11_37 dX11_law_59 ?_
    refine lv_iconst (v := 0) hx hb dX11_law_62 (by decide) ?_
    refine th_put hC cf_X9 hB htp (Or.inl htp) ro_37 rfl (j := 1) rfl (th_sI (by decide) (by decide)) (by decide) rfl rfl rfl kf_X11_186 dX11_law_63 (fun H63 locs hB hf hst63 => ?_)
    have mm14 := (th_F_o hf h0 ro_42 (j := 5) (by decide) (by decide)).trans mm10
    have mm15 := (th_F_o hf h0 ro_42 (j := 0) (by decide) (by decide)).trans mm11
    have mm16 := (th_F_o hf hb1 ro_32 (j := 5) (by decide) (by decide)).trans mm12
    have mm17 := (th_F_o hf h0 ro_42 (j := 15) (by decide) (by decide)).trans mm13
    have hR := th_RC_F hB.1 hR hf (th_T_s htp ro_37 hst63) (by decide)
    have tv_n_H63 : tv_f G H63 tp 9 1 = 0 := (tv_f_St hst63).trans tk_0
    refine lv_aload_n hx hb dX11_law_66 rfl (lv_at hl 0 rfl) ?_
    refine th_getK hC cf_X11 hB.1 h0 ro_42 rfl (j := 15) (by decide) mm17 kf_X11_98 dX11_law_67 ?_
    refine lv_iconst (v := (-1)) hx hb dX11_law_70 (by decide) ?_
    refine tr_icmp_eq (tgt := 81) hx hb dX11_law_71 (by decide) (Eq.refl _) tk_m1 (fun c71 => ?_) (fun c71 => ?_)
    · refine lv_aload_n hx hb dX11_law_81 rfl (lv_at hl 0 rfl) ?_
      refine th_getK hC cf_X11 hB.1 h0 ro_42 rfl (j := 0) (by decide) mm15 kf_X11_12 dX11_law_82 ?_
      refine lv_dup hx hb dX11_law_85 rfl ?_
      refine th_getK hC cf_X8 hB.1 hb1 ro_32 rfl (j := 5) (by decide) mm16 kf_X11_196 dX11_law_86 ?_
      refine lv_iconst (v := 1) hx hb dX11_law_89 (by decide) ?_
      refine tr_iadd hx hb dX11_law_90 (Eq.refl _) tk_1 (by omega) (by omega) (fun x18 ex18 => ?_)
      refine th_put hC cf_X8 hB hb1 (Or.inl hb1) ro_32 rfl (j := 5) rfl (th_sI (by omega) (by omega)) (by decide) rfl rfl rfl kf_X11_196 dX11_law_91 (fun H91 locs hB hf hst91 => ?_)
      have mm19 := (th_F_o hf h0 ro_42 (j := 5) (by decide) (by decide)).trans mm14
      have mm20 := (th_F_o hf h0 ro_42 (j := 0) (by decide) (by decide)).trans mm15
      have mm21 := (th_F_o hf h0 ro_42 (j := 15) (by decide) (by decide)).trans mm17
      have hR := th_RC_F hB.1 hR hf (th_T_s hb1 ro_32 hst91) (by decide)
      have tv_n_H91 : tv_f G H91 tp 9 1 = 0 := (tv_f_F (j := 1) hf htp ro_37 (by decide) (by decide)).trans tv_n_H63
      have mm22 := hst91.2.1
      refine lv_aload_n hx hb dX11_law_94 rfl (lv_at hl 0 rfl) ?_
      refine lv_aload_n hx hb dX11_law_95 rfl (lv_at hl 0 rfl) ?_
      refine th_getK hC cf_X11 hB.1 h0 ro_42 rfl (j := 0) (by decide) mm20 kf_X11_12 dX11_law_96 ?_
      refine th_getK hC cf_X8 hB.1 hb1 ro_32 rfl (j := 5) (by decide) mm22 kf_X11_196 dX11_law_99 ?_
      refine lv_iconst (v := 1) hx hb dX11_law_102 (by decide) ?_
      refine tr_isub hx hb dX11_law_103 (Eq.refl _) tk_1 (by omega) (by omega) (fun x23 ex23 => ?_)
      refine th_call (th_runV (As := [.int x23]) (rest := []) hC mf_X11_answer km_X11_117 im_X11_answer se_X11_answer (c_X11_answer l G Γ H91 hB.1 hR a0 h0 x23) rfl rfl ⟨Nat.le_of_ble_eq_true rfl, Nat.le_of_ble_eq_true rfl⟩ hB.1 h0 ro_42 rfl rfl hl.1 rfl (Nat.le_of_ble_eq_true rfl) dX11_law_104 ⟨Nat.le_refl _, Nat.le_refl _⟩) hB.2.1 (fun v104 H104 locs hp hz hS => ?_)
      obtain ⟨x24, rfl, q104_0, hI1, hf, hR⟩ := hp
      have hB := th_B_c hB hI1 hS hf (by decide)
      have mm25 := (th_F_o hf h0 ro_42 (j := 5) (by decide) (by decide)).trans mm19
      have mm26 := (th_F_o hf h0 ro_42 (j := 0) (by decide) (by decide)).trans mm20
      have mm27 := (th_F_o hf h0 ro_42 (j := 15) (by decide) (by decide)).trans mm21
      have mm28 := (th_F_o hf hb1 ro_32 (j := 5) (by decide) (by decide)).trans mm22
      have tv_n_H104 : tv_f G H104 tp 9 1 = 0 := (tv_f_F (j := 1) hf htp ro_37 (by decide) (by decide)).trans tv_n_H91
      refine W.eq (g2 := F0 m 107 ls [.int x24]) rfl ?_
      exact th_iret hC hH hr hlocks rfl hB.2.1 ⟨_, rfl, hB.1, hB.2.2, hR, (by have q9 : tv_f G H104 tp 9 1 = 0 := tv_n_H104; omega)⟩ dX11_law_107
    · refine lv_aload_n hx hb dX11_law_74 rfl (lv_at hl 0 rfl) ?_
      refine lv_bipush (v := (-6)) hx hb dX11_law_75 (by decide) ?_
      refine th_call (th_runV (As := [.int (-6)]) (rest := []) hC mf_X11_answer km_X11_117 im_X11_answer se_X11_answer (c_X11_answer l G Γ H63 hB.1 hR a0 h0 (-6)) rfl rfl ⟨Nat.le_of_ble_eq_true rfl, Nat.le_of_ble_eq_true rfl⟩ hB.1 h0 ro_42 rfl rfl hl.1 rfl (Nat.le_of_ble_eq_true rfl) dX11_law_77 ⟨Nat.le_refl _, Nat.le_refl _⟩) hB.2.1 (fun v77 H77 locs hp hz hS => ?_)
      obtain ⟨x29, rfl, q77_0, hI1, hf, hR⟩ := hp
      have hB := th_B_c hB hI1 hS hf (by decide)
      have mm30 := (th_F_o hf h0 ro_42 (j := 5) (by decide) (by decide)).trans mm14
      have mm31 := (th_F_o hf h0 ro_42 (j := 0) (by decide) (by decide)).trans mm15
      have mm32 := (th_F_o hf hb1 ro_32 (j := 5) (by decide) (by decide)).trans mm16
      have mm33 := (th_F_o hf h0 ro_42 (j := 15) (by decide) (by decide)).trans mm17
      have tv_n_H77 : tv_f G H77 tp 9 1 = 0 := (tv_f_F (j := 1) hf htp ro_37 (by decide) (by decide)).trans tv_n_H63
      have w77_0 := tk_m6
      refine W.eq (g2 := F0 m 80 ls [.int x29]) rfl ?_
      exact th_iret hC hH hr hlocks rfl hB.2.1 ⟨_, rfl, hB.1, hB.2.2, hR, (by have q9 : tv_f G H77 tp 9 1 = 0 := tv_n_H77; omega)⟩ dX11_law_80
  · refine lv_aload_n hx hb dX11_law_12 rfl (lv_at hl 0 rfl) ?_
    refine th_getK hC cf_X11 hB.1 h0 ro_42 rfl (j := 5) (by decide) mtp kf_X11_37 dX11_law_13 ?_
    refine lv_iconst (v := 0) hx hb dX11_law_16 (by decide) ?_
    refine th_put hC cf_X9 hB htp (Or.inl htp) ro_37 rfl (j := 1) rfl (th_sI (by decide) (by decide)) (by decide) rfl rfl rfl kf_X11_186 dX11_law_17 (fun H17 locs hB hf hst17 => ?_)
    have mm34 := (th_F_o hf h0 ro_42 (j := 5) (by decide) (by decide)).trans mtp
    have mm35 := (th_F_o hf h0 ro_42 (j := 0) (by decide) (by decide)).trans mb1
    have mm36 := (th_F_o hf hb1 ro_32 (j := 5) (by decide) (by decide)).trans mx2
    have hR := th_RC_F hB.1 hR hf (th_T_s htp ro_37 hst17) (by decide)
    have tv_n_H17 : tv_f G H17 tp 9 1 = 0 := (tv_f_St hst17).trans tk_0
    refine lv_aload_n hx hb dX11_law_20 rfl (lv_at hl 0 rfl) ?_
    refine lv_bipush (v := (-5)) hx hb dX11_law_21 (by decide) ?_
    refine th_call (th_runV (As := [.int (-5)]) (rest := []) hC mf_X11_answer km_X11_117 im_X11_answer se_X11_answer (c_X11_answer l G Γ H17 hB.1 hR a0 h0 (-5)) rfl rfl ⟨Nat.le_of_ble_eq_true rfl, Nat.le_of_ble_eq_true rfl⟩ hB.1 h0 ro_42 rfl rfl hl.1 rfl (Nat.le_of_ble_eq_true rfl) dX11_law_23 ⟨Nat.le_refl _, Nat.le_refl _⟩) hB.2.1 (fun v23 H23 locs hp hz hS => ?_)
    obtain ⟨x37, rfl, q23_0, hI1, hf, hR⟩ := hp
    have hB := th_B_c hB hI1 hS hf (by decide)
    have mm38 := (th_F_o hf h0 ro_42 (j := 5) (by decide) (by decide)).trans mm34
    have mm39 := (th_F_o hf h0 ro_42 (j := 0) (by decide) (by decide)).trans mm35
    have mm40 := (th_F_o hf hb1 ro_32 (j := 5) (by decide) (by decide)).trans mm36
    have tv_n_H23 : tv_f G H23 tp 9 1 = 0 := (tv_f_F (j := 1) hf htp ro_37 (by decide) (by decide)).trans tv_n_H17
    have w23_0 := tk_m5
    refine W.eq (g2 := F0 m 26 ls [.int x37]) rfl ?_
    exact th_iret hC hH hr hlocks rfl hB.2.1 ⟨_, rfl, hB.1, hB.2.2, hR, (by have q9 : tv_f G H23 tp 9 1 = 0 := tv_n_H23; omega)⟩ dX11_law_26

set_option maxHeartbeats 4000000 in
set_option maxRecDepth 100000 in
theorem c_X11_orders_n (l : Launch) (G : th_G) (Γ : th_Ga) (H0 : Heap) (hI : th_I G Γ H0) (hR : th_RC G Γ H0) (a0 : Nat) (h0 : Γ a0 = (42, 0)) (tp : Nat) (htp : Γ tp = (37, 0)) (mtp : th_sl H0 a0 (G.1.2 11 5) = .ref tp) (k1 : ∀ a a1 o o1 : Nat, Γ a = (20, o) → Γ a1 = (20, o1) → a = a1) : Met l yX11_orders (.code yX11_orders cX11_orders 4 (some FieldType.int) :: th_tb) ({ frames := 46, cells := 0, slots := 0, locals := 1360 } : Room) (th_PX [.ref a0] G H0 (fun U => th_Z G U H0)) (th_Q (fun (v : Option Value) (H1 : Heap) => ∃ r : Int32, v = some (.int r) ∧ th_I G Γ H1 ∧ th_F G Γ [(45, 0), (42, 14), (20, 5), (20, 6), (20, 7), (20, 8), (40, 0), (39, 2), (41, 0), (39, 3), (21, 0), (22, 0), (20, 2), (20, 3), (20, 4), (37, 1), (42, 15), (42, 17), (24, 0), (23, 3), (26, 0), (25, 0), (18, 0), (17, 4), (4, 0), (5, 0), (6, 0), (9, 0), (3, 7), (3, 8), (3, 9), (3, 10), (7, 0), (8, 0), (19, 0), (17, 3)] H0 H1 ∧ th_RC G Γ H1 ∧ (tv_f G H1 tp 9 1 = 0)) G) 0 0 (fun q => G.2.2 ≤ q) := by
  refine th_metX RX11 (by decide) rfl (Nat.le_of_ble_eq_true rfl) ?_
  intro p e s m below meth c hC hX hH hr hlocks hnm ls hl
  have hx := hC.1
  have hb := hC.2.1
  have hB : th_B G Γ Γ [(45, 0), (42, 14), (20, 5), (20, 6), (20, 7), (20, 8), (40, 0), (39, 2), (41, 0), (39, 3), (21, 0), (22, 0), (20, 2), (20, 3), (20, 4), (37, 1), (42, 15), (42, 17), (24, 0), (23, 3), (26, 0), (25, 0), (18, 0), (17, 4), (4, 0), (5, 0), (6, 0), (9, 0), (3, 7), (3, 8), (3, 9), (3, 10), (7, 0), (8, 0), (19, 0), (17, 3)] H0 H0 [] := ⟨hI, va_S.rf, th_F_rf⟩
  have hl : lv_has ls 4 [(0, .ref a0)] := hl
  refine lv_aload_n hx hb dX11_orders_0 rfl (lv_at hl 0 rfl) ?_
  refine lv_iconst (v := (-1)) hx hb dX11_orders_1 (by decide) ?_
  refine th_put hC cf_X11 hB h0 (Or.inl h0) ro_42 rfl (j := 17) rfl th_sIa (by decide) rfl rfl rfl kf_X11_104 dX11_orders_2 (fun H2 locs hB hf hst2 => ?_)
  have mm1 := (th_F_o hf h0 ro_42 (j := 5) (by decide) (by decide)).trans mtp
  have hR := th_RC_F hB.1 hR hf (th_T_s h0 ro_42 hst2) (by decide)
  have tv_n_H2 : tv_f G H2 tp 9 1 = tv_f G H0 tp 9 1 := tv_f_F (j := 1) hf htp ro_37 (by decide) (by decide)
  refine lv_aload_n hx hb dX11_orders_5 rfl (lv_at hl 0 rfl) ?_
  refine lv_aload_n hx hb dX11_orders_6 rfl (lv_at hl 0 rfl) ?_
  refine th_getR (j := 6) (r2 := 20) hC cf_X11 hB.1 h0 ro_42 rfl rfl kf_X11_44 dX11_orders_7 (fun b2 mb2 hb2 => ?_)
  refine lv_aload_n hx hb dX11_orders_10 rfl (lv_at hl 0 rfl) ?_
  refine th_getK hC cf_X11 hB.1 h0 ro_42 rfl (j := 5) (by decide) mm1 kf_X11_37 dX11_orders_11 ?_
  refine lv_aload_n hx hb dX11_orders_14 rfl (lv_at hl 0 rfl) ?_
  refine th_getR (j := 7) (r2 := 39) hC cf_X11 hB.1 h0 ro_42 rfl rfl kf_X11_51 dX11_orders_15 (fun b3 mb3 hb3 => ?_)
  have sb3 := (th_F_o hB.2.2 h0 ro_42 (j := 7) (by decide) (by decide)).symm.trans mb3
  refine lv_iconst (v := 1) hx hb dX11_orders_18 (by decide) ?_
  refine th_call (th_runVX (As := [.ref tp, .ref b3, .int 1]) (rest := [.ref a0]) th_mvZ (th_Z_k hX hB.2.1) hC mf_X5_read km_X11_203 im_X5_read se_X5_read (c_X5_read l G Γ H2 hB.1 hR b2 hb2 tp htp b3 hb3 1 (by decide) (by decide) k1) rfl rfl ⟨Nat.le_of_ble_eq_true rfl, Nat.le_of_ble_eq_true rfl⟩ hB.1 hb2 ro_20 rfl rfl hl.1 rfl (Nat.le_of_ble_eq_true rfl) dX11_orders_19 ⟨Nat.le_refl _, Nat.le_refl _⟩) hB.2.1 (fun v19 H19 locs hp hz hS => ?_)
  obtain ⟨x4, rfl, hI1, hf, hR⟩ := hp
  have hB := th_B_c hB hI1 hS hf (by decide)
  have mm5 := (th_F_o hf h0 ro_42 (j := 5) (by decide) (by decide)).trans mm1
  have mm6 := (th_F_o hf h0 ro_42 (j := 7) (by decide) (by decide)).trans mb3
  have tv_n_H19 : tv_f G H19 tp 9 1 = tv_f G H0 tp 9 1 := (tv_f_F (j := 1) hf htp ro_37 (by decide) (by decide)).trans tv_n_H2
  refine W.eq (g2 := F0 m 22 ls [.int x4, .ref a0]) rfl ?_
  refine th_put hC cf_X11 hB h0 (Or.inl h0) ro_42 rfl (j := 15) rfl th_sIa (by decide) rfl rfl rfl kf_X11_98 dX11_orders_22 (fun H22 locs hB hf hst22 => ?_)
  have mm7 := (th_F_o hf h0 ro_42 (j := 5) (by decide) (by decide)).trans mm5
  have mm8 := (th_F_o hf h0 ro_42 (j := 7) (by decide) (by decide)).trans mm6
  have hR := th_RC_F hB.1 hR hf (th_T_s h0 ro_42 hst22) (by decide)
  have tv_n_H22 : tv_f G H22 tp 9 1 = tv_f G H0 tp 9 1 := (tv_f_F (j := 1) hf htp ro_37 (by decide) (by decide)).trans tv_n_H19
  have mm9 := hst22.2.1
  refine lv_aload_n hx hb dX11_orders_25 rfl (lv_at hl 0 rfl) ?_
  refine th_getK hC cf_X11 hB.1 h0 ro_42 rfl (j := 5) (by decide) mm7 kf_X11_37 dX11_orders_26 ?_
  refine lv_iconst (v := 0) hx hb dX11_orders_29 (by decide) ?_
  refine th_put hC cf_X9 hB htp (Or.inl htp) ro_37 rfl (j := 1) rfl (th_sI (by decide) (by decide)) (by decide) rfl rfl rfl kf_X11_186 dX11_orders_30 (fun H30 locs hB hf hst30 => ?_)
  have mm10 := (th_F_o hf h0 ro_42 (j := 5) (by decide) (by decide)).trans mm7
  have mm11 := (th_F_o hf h0 ro_42 (j := 7) (by decide) (by decide)).trans mm8
  have mm12 := (th_F_o hf h0 ro_42 (j := 15) (by decide) (by decide)).trans mm9
  have hR := th_RC_F hB.1 hR hf (th_T_s htp ro_37 hst30) (by decide)
  have tv_n_H30 : tv_f G H30 tp 9 1 = 0 := (tv_f_St hst30).trans tk_0
  refine lv_aload_n hx hb dX11_orders_33 rfl (lv_at hl 0 rfl) ?_
  refine th_getK hC cf_X11 hB.1 h0 ro_42 rfl (j := 15) (by decide) mm12 kf_X11_98 dX11_orders_34 ?_
  refine lv_iconst (v := (-1)) hx hb dX11_orders_37 (by decide) ?_
  refine tr_icmp_eq (tgt := 48) hx hb dX11_orders_38 (by decide) (Eq.refl _) tk_m1 (fun c38 => ?_) (fun c38 => ?_)
  · refine lv_aload_n hx hb dX11_orders_48 rfl (lv_at hl 0 rfl) ?_
    refine th_getR (j := 10) (r2 := 17) hC cf_X11 hB.1 h0 ro_42 rfl rfl kf_X11_72 dX11_orders_49 (fun b13 mb13 hb13 => ?_)
    have sb13 := (th_F_o hB.2.2 h0 ro_42 (j := 10) (by decide) (by decide)).symm.trans mb13
    refine lv_aload_n hx hb dX11_orders_52 rfl (lv_at hl 0 rfl) ?_
    refine th_getR (j := 0) (r2 := 32) hC cf_X11 hB.1 h0 ro_42 rfl rfl kf_X11_12 dX11_orders_53 (fun b14 mb14 hb14 => ?_)
    have sb14 := (th_F_o hB.2.2 h0 ro_42 (j := 0) (by decide) (by decide)).symm.trans mb14
    refine th_getR (j := 0) (r2 := 3) hC cf_X8 hB.1 hb14 ro_32 rfl rfl kf_X11_107 dX11_orders_56 (fun b15 mb15 hb15 => ?_)
    have sb15 := (th_F_o hB.2.2 hb14 ro_32 (j := 0) (by decide) (by decide)).symm.trans mb15
    refine th_call (th_runV (As := [.ref b15]) (rest := []) hC mf_X4_save km_X11_207 im_X4_save se_X4_save (c_X4_save l G Γ H30 hB.1 hR b13 hb13 b15 hb15) rfl rfl ⟨Nat.le_of_ble_eq_true rfl, Nat.le_of_ble_eq_true rfl⟩ hB.1 hb13 ro_17 rfl rfl hl.1 rfl (Nat.le_of_ble_eq_true rfl) dX11_orders_59 ⟨Nat.le_refl _, Nat.le_refl _⟩) hB.2.1 (fun v59 H59 locs hp hz hS => ?_)
    obtain ⟨rfl, hI1, hf, hR⟩ := hp
    have hB := th_B_c hB hI1 hS hf (by decide)
    have mm16 := (th_F_o hf h0 ro_42 (j := 5) (by decide) (by decide)).trans mm10
    have mm17 := (th_F_o hf h0 ro_42 (j := 7) (by decide) (by decide)).trans mm11
    have mm18 := (th_F_o hf h0 ro_42 (j := 15) (by decide) (by decide)).trans mm12
    have mm19 := (th_F_o hf h0 ro_42 (j := 10) (by decide) (by decide)).trans mb13
    have mm20 := (th_F_o hf h0 ro_42 (j := 0) (by decide) (by decide)).trans mb14
    have mm21 := (th_F_o hf hb14 ro_32 (j := 0) (by decide) (by decide)).trans mb15
    have tv_n_H59 : tv_f G H59 tp 9 1 = 0 := (tv_f_F (j := 1) hf htp ro_37 (by decide) (by decide)).trans tv_n_H30
    refine W.eq (g2 := F0 m 62 ls []) rfl ?_
    refine lv_aload_n hx hb dX11_orders_62 rfl (lv_at hl 0 rfl) ?_
    refine th_getR (j := 8) (r2 := 23) hC cf_X11 hB.1 h0 ro_42 rfl rfl kf_X11_58 dX11_orders_63 (fun b22 mb22 hb22 => ?_)
    have sb22 := (th_F_o hB.2.2 h0 ro_42 (j := 8) (by decide) (by decide)).symm.trans mb22
    refine th_getO (j := 1) (r2 := 25) hC cf_X6 hB.1 hb22 ro_23 rfl rfl kf_X11_211 dX11_orders_66 (fun b23 mb23 hb23 => ?_)
    have sb23 := (th_F_o hB.2.2 hb22 ro_23 (j := 1) (by decide) (by decide)).symm.trans mb23
    refine lv_iconst (v := 1) hx hb dX11_orders_69 (by decide) ?_
    refine lv_iconst (v := 0) hx hb dX11_orders_70 (by decide) ?_
    refine th_iastF hC hB hb23 (Or.inl hb23) ro_25 rfl (by decide) tk_1 (by omega) (by omega) th_sIa dX11_orders_71 (fun H71 locs hB hf71 hst71 => ?_)
    have hf := hf71
    have mm24 := (th_F_o hf h0 ro_42 (j := 5) (by decide) (by decide)).trans mm16
    have mm25 := (th_F_o hf h0 ro_42 (j := 7) (by decide) (by decide)).trans mm17
    have mm26 := (th_F_o hf h0 ro_42 (j := 15) (by decide) (by decide)).trans mm18
    have mm27 := (th_F_o hf h0 ro_42 (j := 10) (by decide) (by decide)).trans mm19
    have mm28 := (th_F_o hf h0 ro_42 (j := 0) (by decide) (by decide)).trans mm20
    have mm29 := (th_F_o hf hb14 ro_32 (j := 0) (by decide) (by decide)).trans mm21
    have mm30 := (th_F_o hf h0 ro_42 (j := 8) (by decide) (by decide)).trans mb22
    have mm31 := (th_F_o hf hb22 ro_23 (j := 1) (by decide) (by decide)).trans mb23
    have hR := th_RC_F hB.1 hR hf (th_T_s hb23 ro_25 hst71) (by decide)
    have tv_n_H71 : tv_f G H71 tp 9 1 = 0 := (tv_f_F (j := 1) hf htp ro_37 (by decide) (by decide)).trans tv_n_H59
    refine lv_aload_n hx hb dX11_orders_72 rfl (lv_at hl 0 rfl) ?_
    refine th_getK hC cf_X11 hB.1 h0 ro_42 rfl (j := 8) (by decide) mm30 kf_X11_58 dX11_orders_73 ?_
    refine th_getK hC cf_X6 hB.1 hb22 ro_23 rfl (j := 1) (by decide) mm31 kf_X11_211 dX11_orders_76 ?_
    refine lv_iconst (v := 2) hx hb dX11_orders_79 (by decide) ?_
    refine lv_iconst (v := (-1)) hx hb dX11_orders_80 (by decide) ?_
    refine th_iastF hC hB hb23 (Or.inl hb23) ro_25 rfl (by decide) tk_2 (by omega) (by omega) th_sIa dX11_orders_81 (fun H81 locs hB hf81 hst81 => ?_)
    have hf := hf81
    have mm32 := (th_F_o hf h0 ro_42 (j := 5) (by decide) (by decide)).trans mm24
    have mm33 := (th_F_o hf h0 ro_42 (j := 7) (by decide) (by decide)).trans mm25
    have mm34 := (th_F_o hf h0 ro_42 (j := 15) (by decide) (by decide)).trans mm26
    have mm35 := (th_F_o hf h0 ro_42 (j := 10) (by decide) (by decide)).trans mm27
    have mm36 := (th_F_o hf h0 ro_42 (j := 0) (by decide) (by decide)).trans mm28
    have mm37 := (th_F_o hf hb14 ro_32 (j := 0) (by decide) (by decide)).trans mm29
    have mm38 := (th_F_o hf h0 ro_42 (j := 8) (by decide) (by decide)).trans mm30
    have mm39 := (th_F_o hf hb22 ro_23 (j := 1) (by decide) (by decide)).trans mm31
    have hR := th_RC_F hB.1 hR hf (th_T_s hb23 ro_25 hst81) (by decide)
    have tv_n_H81 : tv_f G H81 tp 9 1 = 0 := (tv_f_F (j := 1) hf htp ro_37 (by decide) (by decide)).trans tv_n_H71
    refine lv_iconst (v := 0) hx hb dX11_orders_82 (by decide) ?_
    refine lv_istore_n (lv' := [(1, .int 0), (0, .ref a0)]) hx hb dX11_orders_83 rfl hl (by decide) rfl (fun ls hl => ?_)
    have lp84 : ∀ (n84 : Nat) (H84 : Heap) (locs : List Loc) (ls : Array Slot) (j84_1 : Int32), th_B G Γ Γ [(45, 0), (42, 14), (20, 5), (20, 6), (20, 7), (20, 8), (40, 0), (39, 2), (41, 0), (39, 3), (21, 0), (22, 0), (20, 2), (20, 3), (20, 4), (37, 1), (42, 15), (42, 17), (24, 0), (23, 3), (26, 0), (25, 0), (18, 0), (17, 4), (4, 0), (5, 0), (6, 0), (9, 0), (3, 7), (3, 8), (3, 9), (3, 10), (7, 0), (8, 0), (19, 0), (17, 3)] H0 H84 locs → th_RC G Γ H84 → lv_has ls 4 [(0, .ref a0), (1, .int j84_1)] → 0 ≤ j84_1.toInt → j84_1.toInt ≤ 12 → tv_f G H84 tp 9 1 = 0 → (2147483648 : Int) - j84_1.toInt ≤ (n84 : Int) → W p l e ({ frames := 46, cells := 0, slots := 0, locals := 1360 } : Room) s m ([.ref a0] : List Value).toArray below meth c H84 locs 0 0 (MQ below (th_Q (fun (v : Option Value) (H1 : Heap) => ∃ r : Int32, v = some (.int r) ∧ th_I G Γ H1 ∧ th_F G Γ [(45, 0), (42, 14), (20, 5), (20, 6), (20, 7), (20, 8), (40, 0), (39, 2), (41, 0), (39, 3), (21, 0), (22, 0), (20, 2), (20, 3), (20, 4), (37, 1), (42, 15), (42, 17), (24, 0), (23, 3), (26, 0), (25, 0), (18, 0), (17, 4), (4, 0), (5, 0), (6, 0), (9, 0), (3, 7), (3, 8), (3, 9), (3, 10), (7, 0), (8, 0), (19, 0), (17, 3)] H0 H1 ∧ th_RC G Γ H1 ∧ (tv_f G H1 tp 9 1 = 0)) G) ([.ref a0] : List Value).toArray s 0 0 (fun q => G.2.2 ≤ q)) (F0 m 84 ls []) := by
      intro n84
      induction n84 with
      | zero => intro H84 locs ls j84_1 hB hR hl g84_0 g84_1 g84_2 hm84; exact absurd hm84 (by have := ti_hi j84_1; omega)
      | succ n84 ih84 =>
        intro H84 locs ls j84_1 hB hR hl g84_0 g84_1 g84_2 hm84
        have lj84_1 := ti_lo j84_1; have uj84_1 := ti_hi j84_1
        have mm40 := (th_F_o hB.2.2 h0 ro_42 (j := 7) (by decide) (by decide)).trans sb3
        have mm41 := (th_F_o hB.2.2 h0 ro_42 (j := 10) (by decide) (by decide)).trans sb13
        have mm42 := (th_F_o hB.2.2 h0 ro_42 (j := 0) (by decide) (by decide)).trans sb14
        have mm43 := (th_F_o hB.2.2 hb14 ro_32 (j := 0) (by decide) (by decide)).trans sb15
        have mm44 := (th_F_o hB.2.2 h0 ro_42 (j := 8) (by decide) (by decide)).trans sb22
        have mm45 := (th_F_o hB.2.2 hb22 ro_23 (j := 1) (by decide) (by decide)).trans sb23
        have hm84 : (2147483648 : Int) - j84_1.toInt ≤ (n84 : Int) + 1 := by omega
        refine lv_iload_n hx hb dX11_orders_84 rfl (lv_at hl 1 rfl) ?_
        refine lv_aload_n hx hb dX11_orders_85 rfl (lv_at hl 0 rfl) ?_
        refine th_getK hC cf_X11 hB.1 h0 ro_42 rfl (j := 7) (by decide) mm40 kf_X11_51 dX11_orders_86 ?_
        refine th_getI (j := 3) hC cf_X10 hB.1 hb3 ro_39 rfl rfl kf_X11_214 dX11_orders_89 (fun x46 mx46 lx46 ux46 => ?_)
        refine tr_icmp_ge (tgt := 158) hx hb dX11_orders_92 (by decide) (Eq.refl _) (Eq.refl _) (fun c92 => ?_) (fun c92 => ?_)
        · refine lv_aload_n hx hb dX11_orders_158 rfl (lv_at hl 0 rfl) ?_
          refine lv_aload_n hx hb dX11_orders_159 rfl (lv_at hl 0 rfl) ?_
          refine th_getK hC cf_X11 hB.1 h0 ro_42 rfl (j := 8) (by decide) mm44 kf_X11_58 dX11_orders_160 ?_
          refine th_getK hC cf_X6 hB.1 hb22 ro_23 rfl (j := 1) (by decide) mm45 kf_X11_211 dX11_orders_163 ?_
          refine lv_iconst (v := 1) hx hb dX11_orders_166 (by decide) ?_
          refine th_ialdF hC hB.1 hb23 ro_25 rfl tk_1 (by omega) (by omega) rfl dX11_orders_167 (fun x47 mx47 lx47 ux47 => ?_)
          refine th_call (th_runV (As := [.int x47]) (rest := []) hC mf_X11_answer km_X11_117 im_X11_answer se_X11_answer (c_X11_answer l G Γ H84 hB.1 hR a0 h0 x47) rfl rfl ⟨Nat.le_of_ble_eq_true rfl, Nat.le_of_ble_eq_true rfl⟩ hB.1 h0 ro_42 rfl rfl hl.1 rfl (Nat.le_of_ble_eq_true rfl) dX11_orders_168 ⟨Nat.le_refl _, Nat.le_refl _⟩) hB.2.1 (fun v168 H168 locs hp hz hS => ?_)
          obtain ⟨x48, rfl, q168_0, hI1, hf, hR⟩ := hp
          have hB := th_B_c hB hI1 hS hf (by decide)
          have mm49 := (th_F_o hf h0 ro_42 (j := 7) (by decide) (by decide)).trans mm40
          have mm50 := (th_F_o hf h0 ro_42 (j := 10) (by decide) (by decide)).trans mm41
          have mm51 := (th_F_o hf h0 ro_42 (j := 0) (by decide) (by decide)).trans mm42
          have mm52 := (th_F_o hf hb14 ro_32 (j := 0) (by decide) (by decide)).trans mm43
          have mm53 := (th_F_o hf h0 ro_42 (j := 8) (by decide) (by decide)).trans mm44
          have mm54 := (th_F_o hf hb22 ro_23 (j := 1) (by decide) (by decide)).trans mm45
          have mm55 := (th_F_o hf hb3 ro_39 (j := 3) (by decide) (by decide)).trans mx46
          have tv_n_H168 : tv_f G H168 tp 9 1 = 0 := (tv_f_F (j := 1) hf htp ro_37 (by decide) (by decide)).trans g84_2
          refine W.eq (g2 := F0 m 171 ls [.int x48]) rfl ?_
          exact th_iret hC hH hr hlocks rfl hB.2.1 ⟨_, rfl, hB.1, hB.2.2, hR, (by have q9 : tv_f G H168 tp 9 1 = 0 := tv_n_H168; omega)⟩ dX11_orders_171
        · refine lv_aload_n hx hb dX11_orders_95 rfl (lv_at hl 0 rfl) ?_
          refine th_getK hC cf_X11 hB.1 h0 ro_42 rfl (j := 7) (by decide) mm40 kf_X11_51 dX11_orders_96 ?_
          refine lv_iload_n hx hb dX11_orders_99 rfl (lv_at hl 1 rfl) ?_
          refine lv_iconst (v := 1) hx hb dX11_orders_100 (by decide) ?_
          refine th_call (th_runV (As := [.int j84_1, .int 1]) (rest := []) hC mf_X10_mark km_X11_217 im_X10_mark se_X10_mark (c_X10_mark l G Γ H84 hB.1 b3 hb3 j84_1 (by omega) (by omega) 1 (by decide) (by decide)) rfl rfl ⟨Nat.le_of_ble_eq_true rfl, Nat.le_of_ble_eq_true rfl⟩ hB.1 hb3 ro_39 rfl rfl hl.1 rfl (Nat.le_of_ble_eq_true rfl) dX11_orders_101 ⟨Nat.le_refl _, Nat.le_refl _⟩) hB.2.1 (fun v101 H101 locs hp hz hS => ?_)
          obtain ⟨x56, rfl, q101_0, rfl⟩ := hp
          have hB := th_B_s hB hS
          have w101_1 := tk_1
          refine W.eq (g2 := F0 m 104 ls [.int x56]) rfl ?_
          have lx56 := ti_lo x56; have ux56 := ti_hi x56
          refine lv_istore_n (lv' := [(2, .int x56), (0, .ref a0), (1, .int j84_1)]) hx hb dX11_orders_104 rfl hl (by decide) rfl (fun ls hl => ?_)
          refine lv_iconst (v := 0) hx hb dX11_orders_105 (by decide) ?_
          refine lv_istore_n (lv' := [(3, .int 0), (2, .int x56), (0, .ref a0), (1, .int j84_1)]) hx hb dX11_orders_106 rfl hl (by decide) rfl (fun ls hl => ?_)
          have lp107 : ∀ (n107 : Nat) (H107 : Heap) (locs : List Loc) (ls : Array Slot) (j107_3 : Int32), th_B G Γ Γ [(45, 0), (42, 14), (20, 5), (20, 6), (20, 7), (20, 8), (40, 0), (39, 2), (41, 0), (39, 3), (21, 0), (22, 0), (20, 2), (20, 3), (20, 4), (37, 1), (42, 15), (42, 17), (24, 0), (23, 3), (26, 0), (25, 0), (18, 0), (17, 4), (4, 0), (5, 0), (6, 0), (9, 0), (3, 7), (3, 8), (3, 9), (3, 10), (7, 0), (8, 0), (19, 0), (17, 3)] H0 H107 locs → th_RC G Γ H107 → lv_has ls 4 [(2, .int x56), (0, .ref a0), (1, .int j84_1), (3, .int j107_3)] → 0 ≤ j107_3.toInt → th_sl H107 b3 (G.1.2 10 3) = .int x46 → tv_f G H107 tp 9 1 = 0 → (2147483648 : Int) - j107_3.toInt ≤ (n107 : Int) → W p l e ({ frames := 46, cells := 0, slots := 0, locals := 1360 } : Room) s m ([.ref a0] : List Value).toArray below meth c H107 locs 0 0 (MQ below (th_Q (fun (v : Option Value) (H1 : Heap) => ∃ r : Int32, v = some (.int r) ∧ th_I G Γ H1 ∧ th_F G Γ [(45, 0), (42, 14), (20, 5), (20, 6), (20, 7), (20, 8), (40, 0), (39, 2), (41, 0), (39, 3), (21, 0), (22, 0), (20, 2), (20, 3), (20, 4), (37, 1), (42, 15), (42, 17), (24, 0), (23, 3), (26, 0), (25, 0), (18, 0), (17, 4), (4, 0), (5, 0), (6, 0), (9, 0), (3, 7), (3, 8), (3, 9), (3, 10), (7, 0), (8, 0), (19, 0), (17, 3)] H0 H1 ∧ th_RC G Γ H1 ∧ (tv_f G H1 tp 9 1 = 0)) G) ([.ref a0] : List Value).toArray s 0 0 (fun q => G.2.2 ≤ q)) (F0 m 107 ls []) := by
            intro n107
            induction n107 with
            | zero => intro H107 locs ls j107_3 hB hR hl g107_0 g107_1 g107_2 hm107; exact absurd hm107 (by have := ti_hi j107_3; omega)
            | succ n107 ih107 =>
              intro H107 locs ls j107_3 hB hR hl g107_0 g107_1 g107_2 hm107
              have lj107_3 := ti_lo j107_3; have uj107_3 := ti_hi j107_3
              have mm57 := (th_F_o hB.2.2 h0 ro_42 (j := 7) (by decide) (by decide)).trans sb3
              have mm58 := (th_F_o hB.2.2 h0 ro_42 (j := 10) (by decide) (by decide)).trans sb13
              have mm59 := (th_F_o hB.2.2 h0 ro_42 (j := 0) (by decide) (by decide)).trans sb14
              have mm60 := (th_F_o hB.2.2 hb14 ro_32 (j := 0) (by decide) (by decide)).trans sb15
              have mm61 := (th_F_o hB.2.2 h0 ro_42 (j := 8) (by decide) (by decide)).trans sb22
              have mm62 := (th_F_o hB.2.2 hb22 ro_23 (j := 1) (by decide) (by decide)).trans sb23
              have hm107 : (2147483648 : Int) - j107_3.toInt ≤ (n107 : Int) + 1 := by omega
              refine lv_iload_n hx hb dX11_orders_107 rfl (lv_at hl 3 rfl) ?_
              refine lv_iload_n hx hb dX11_orders_108 rfl (lv_at hl 0 rfl) ?_
              refine tr_icmp_ge (tgt := 152) hx hb dX11_orders_109 (by decide) (Eq.refl _) (Eq.refl _) (fun c109 => ?_) (fun c109 => ?_)
              · refine tr_iinc (fun x63 => [(1, .int x63), (2, .int x56), (0, .ref a0), (3, .int j107_3)]) hx hb dX11_orders_152 hl (k := 2) rfl (Eq.refl _) tk_1 (by omega) (by omega) (by decide) (fun _ => rfl) (fun x63 ls ex63 hl => ?_)
                refine lv_goto (tgt := 84) hx hb dX11_orders_155 (by decide) ?_
                exact ih84 H107 locs ls x63 hB hR (lv_sub hl [2, 0] rfl) (by omega) (by omega) g107_2 (by omega)
              · refine lv_aload_n hx hb dX11_orders_112 rfl (lv_at hl 1 rfl) ?_
                refine lv_iload_n hx hb dX11_orders_113 rfl (lv_at hl 2 rfl) ?_
                refine th_call (th_runV (As := [.int j84_1]) (rest := []) hC mf_X11_runOnce km_X11_220 im_X11_runOnce se_X11_runOnce (c_X11_runOnce l G Γ H107 hB.1 hR a0 h0 j84_1 (by omega) (by omega)) rfl rfl ⟨Nat.le_of_ble_eq_true rfl, Nat.le_of_ble_eq_true rfl⟩ hB.1 h0 ro_42 rfl rfl hl.1 rfl (Nat.le_of_ble_eq_true rfl) dX11_orders_114 ⟨Nat.le_refl _, Nat.le_refl _⟩) hB.2.1 (fun v114 H114 locs hp hz hS => ?_)
                obtain ⟨x64, rfl, lx64, ux64, hI1, hf, hR⟩ := hp
                have hB := th_B_c hB hI1 hS hf (by decide)
                have mm65 := (th_F_o hf hb3 ro_39 (j := 3) (by decide) (by decide)).trans g107_1
                have mm66 := (th_F_o hf h0 ro_42 (j := 7) (by decide) (by decide)).trans mm57
                have mm67 := (th_F_o hf h0 ro_42 (j := 10) (by decide) (by decide)).trans mm58
                have mm68 := (th_F_o hf h0 ro_42 (j := 0) (by decide) (by decide)).trans mm59
                have mm69 := (th_F_o hf hb14 ro_32 (j := 0) (by decide) (by decide)).trans mm60
                have mm70 := (th_F_o hf h0 ro_42 (j := 8) (by decide) (by decide)).trans mm61
                have mm71 := (th_F_o hf hb22 ro_23 (j := 1) (by decide) (by decide)).trans mm62
                have tv_n_H114 : tv_f G H114 tp 9 1 = 0 := (tv_f_F (j := 1) hf htp ro_37 (by decide) (by decide)).trans g107_2
                refine W.eq (g2 := F0 m 117 ls [.int x64]) rfl ?_
                refine tr_if_ne (tgt := 146) hx hb dX11_orders_117 (by decide) (Eq.refl _) (fun c117 => ?_) (fun c117 => ?_)
                · refine tr_iinc (fun x72 => [(3, .int x72), (2, .int x56), (0, .ref a0), (1, .int j84_1)]) hx hb dX11_orders_146 hl (k := 3) rfl (Eq.refl _) tk_1 (by omega) (by omega) (by decide) (fun _ => rfl) (fun x72 ls ex72 hl => ?_)
                  refine lv_goto (tgt := 107) hx hb dX11_orders_149 (by decide) ?_
                  exact ih107 H114 locs ls x72 hB hR (lv_sub hl [1, 2, 3, 0] rfl) (by omega) mm65 tv_n_H114 (by omega)
                · refine lv_aload_n hx hb dX11_orders_120 rfl (lv_at hl 1 rfl) ?_
                  refine th_getK hC cf_X11 hB.1 h0 ro_42 rfl (j := 10) (by decide) mm67 kf_X11_72 dX11_orders_121 ?_
                  refine lv_aload_n hx hb dX11_orders_124 rfl (lv_at hl 1 rfl) ?_
                  refine th_getK hC cf_X11 hB.1 h0 ro_42 rfl (j := 0) (by decide) mm68 kf_X11_12 dX11_orders_125 ?_
                  refine th_getK hC cf_X8 hB.1 hb14 ro_32 rfl (j := 0) (by decide) mm69 kf_X11_107 dX11_orders_128 ?_
                  refine th_call (th_runV (As := [.ref b15]) (rest := []) hC mf_X4_restore km_X11_223 im_X4_restore se_X4_restore (c_X4_restore l G Γ H114 hB.1 hR b13 hb13 b15 hb15) rfl rfl ⟨Nat.le_of_ble_eq_true rfl, Nat.le_of_ble_eq_true rfl⟩ hB.1 hb13 ro_17 rfl rfl hl.1 rfl (Nat.le_of_ble_eq_true rfl) dX11_orders_131 ⟨Nat.le_refl _, Nat.le_refl _⟩) hB.2.1 (fun v131 H131 locs hp hz hS => ?_)
                  obtain ⟨rfl, hI1, hf, hR⟩ := hp
                  have hB := th_B_c hB hI1 hS hf (by decide)
                  have mm73 := (th_F_o hf hb3 ro_39 (j := 3) (by decide) (by decide)).trans mm65
                  have mm74 := (th_F_o hf h0 ro_42 (j := 7) (by decide) (by decide)).trans mm66
                  have mm75 := (th_F_o hf h0 ro_42 (j := 10) (by decide) (by decide)).trans mm67
                  have mm76 := (th_F_o hf h0 ro_42 (j := 0) (by decide) (by decide)).trans mm68
                  have mm77 := (th_F_o hf hb14 ro_32 (j := 0) (by decide) (by decide)).trans mm69
                  have mm78 := (th_F_o hf h0 ro_42 (j := 8) (by decide) (by decide)).trans mm70
                  have mm79 := (th_F_o hf hb22 ro_23 (j := 1) (by decide) (by decide)).trans mm71
                  have tv_n_H131 : tv_f G H131 tp 9 1 = 0 := (tv_f_F (j := 1) hf htp ro_37 (by decide) (by decide)).trans tv_n_H114
                  refine W.eq (g2 := F0 m 134 ls []) rfl ?_
                  refine lv_aload_n hx hb dX11_orders_134 rfl (lv_at hl 1 rfl) ?_
                  refine lv_iload_n hx hb dX11_orders_135 rfl (lv_at hl 2 rfl) ?_
                  refine th_put hC cf_X11 hB h0 (Or.inl h0) ro_42 rfl (j := 17) rfl th_sIa (by decide) rfl rfl rfl kf_X11_104 dX11_orders_136 (fun H136 locs hB hf hst136 => ?_)
                  have mm80 := (th_F_o hf hb3 ro_39 (j := 3) (by decide) (by decide)).trans mm73
                  have mm81 := (th_F_o hf h0 ro_42 (j := 7) (by decide) (by decide)).trans mm74
                  have mm82 := (th_F_o hf h0 ro_42 (j := 10) (by decide) (by decide)).trans mm75
                  have mm83 := (th_F_o hf h0 ro_42 (j := 0) (by decide) (by decide)).trans mm76
                  have mm84 := (th_F_o hf hb14 ro_32 (j := 0) (by decide) (by decide)).trans mm77
                  have mm85 := (th_F_o hf h0 ro_42 (j := 8) (by decide) (by decide)).trans mm78
                  have mm86 := (th_F_o hf hb22 ro_23 (j := 1) (by decide) (by decide)).trans mm79
                  have hR := th_RC_F hB.1 hR hf (th_T_s h0 ro_42 hst136) (by decide)
                  have tv_n_H136 : tv_f G H136 tp 9 1 = 0 := (tv_f_F (j := 1) hf htp ro_37 (by decide) (by decide)).trans tv_n_H131
                  refine lv_aload_n hx hb dX11_orders_139 rfl (lv_at hl 1 rfl) ?_
                  refine lv_bipush (v := (-3)) hx hb dX11_orders_140 (by decide) ?_
                  refine th_call (th_runV (As := [.int (-3)]) (rest := []) hC mf_X11_answer km_X11_117 im_X11_answer se_X11_answer (c_X11_answer l G Γ H136 hB.1 hR a0 h0 (-3)) rfl rfl ⟨Nat.le_of_ble_eq_true rfl, Nat.le_of_ble_eq_true rfl⟩ hB.1 h0 ro_42 rfl rfl hl.1 rfl (Nat.le_of_ble_eq_true rfl) dX11_orders_142 ⟨Nat.le_refl _, Nat.le_refl _⟩) hB.2.1 (fun v142 H142 locs hp hz hS => ?_)
                  obtain ⟨x87, rfl, q142_0, hI1, hf, hR⟩ := hp
                  have hB := th_B_c hB hI1 hS hf (by decide)
                  have mm88 := (th_F_o hf hb3 ro_39 (j := 3) (by decide) (by decide)).trans mm80
                  have mm89 := (th_F_o hf h0 ro_42 (j := 7) (by decide) (by decide)).trans mm81
                  have mm90 := (th_F_o hf h0 ro_42 (j := 10) (by decide) (by decide)).trans mm82
                  have mm91 := (th_F_o hf h0 ro_42 (j := 0) (by decide) (by decide)).trans mm83
                  have mm92 := (th_F_o hf hb14 ro_32 (j := 0) (by decide) (by decide)).trans mm84
                  have mm93 := (th_F_o hf h0 ro_42 (j := 8) (by decide) (by decide)).trans mm85
                  have mm94 := (th_F_o hf hb22 ro_23 (j := 1) (by decide) (by decide)).trans mm86
                  have tv_n_H142 : tv_f G H142 tp 9 1 = 0 := (tv_f_F (j := 1) hf htp ro_37 (by decide) (by decide)).trans tv_n_H136
                  have w142_0 := tk_m3
                  refine W.eq (g2 := F0 m 145 ls [.int x87]) rfl ?_
                  exact th_iret hC hH hr hlocks rfl hB.2.1 ⟨_, rfl, hB.1, hB.2.2, hR, (by have q9 : tv_f G H142 tp 9 1 = 0 := tv_n_H142; omega)⟩ dX11_orders_145
          exact lp107 ((2147483648 : Int) - (0)).toNat H84 locs ls 0 hB hR (lv_sub hl [1, 2, 3, 0] rfl) (by decide) mx46 g84_2 (by have w0 := tk_0; omega)
    exact lp84 ((2147483648 : Int) - (0)).toNat H81 locs ls 0 hB hR (lv_sub hl [1, 0] rfl) (by decide) (by decide) tv_n_H81 (by have w0 := tk_0; omega)
  · refine lv_aload_n hx hb dX11_orders_41 rfl (lv_at hl 0 rfl) ?_
    refine lv_bipush (v := (-6)) hx hb dX11_orders_42 (by decide) ?_
    refine th_call (th_runV (As := [.int (-6)]) (rest := []) hC mf_X11_answer km_X11_117 im_X11_answer se_X11_answer (c_X11_answer l G Γ H30 hB.1 hR a0 h0 (-6)) rfl rfl ⟨Nat.le_of_ble_eq_true rfl, Nat.le_of_ble_eq_true rfl⟩ hB.1 h0 ro_42 rfl rfl hl.1 rfl (Nat.le_of_ble_eq_true rfl) dX11_orders_44 ⟨Nat.le_refl _, Nat.le_refl _⟩) hB.2.1 (fun v44 H44 locs hp hz hS => ?_)
    obtain ⟨x95, rfl, q44_0, hI1, hf, hR⟩ := hp
    have hB := th_B_c hB hI1 hS hf (by decide)
    have mm96 := (th_F_o hf h0 ro_42 (j := 5) (by decide) (by decide)).trans mm10
    have mm97 := (th_F_o hf h0 ro_42 (j := 7) (by decide) (by decide)).trans mm11
    have mm98 := (th_F_o hf h0 ro_42 (j := 15) (by decide) (by decide)).trans mm12
    have tv_n_H44 : tv_f G H44 tp 9 1 = 0 := (tv_f_F (j := 1) hf htp ro_37 (by decide) (by decide)).trans tv_n_H30
    have w44_0 := tk_m6
    refine W.eq (g2 := F0 m 47 ls [.int x95]) rfl ?_
    exact th_iret hC hH hr hlocks rfl hB.2.1 ⟨_, rfl, hB.1, hB.2.2, hR, (by have q9 : tv_f G H44 tp 9 1 = 0 := tv_n_H44; omega)⟩ dX11_orders_47

set_option maxHeartbeats 4000000 in
set_option maxRecDepth 100000 in
theorem c_X12_feed_n (l : Launch) (G : th_G) (Γ : th_Ga) (H0 : Heap) (hI : th_I G Γ H0) (hR : th_RC G Γ H0) (a0 : Nat) (h0 : Γ a0 = (46, 0)) (p1 : Int32) (p2 : Int32) (p3 : Int32) (p4 : Int32) (p5 : Int32) : Met l yX12_feed (.code yX12_feed cX12_feed 7 (some FieldType.int) :: th_tb) ({ frames := 0, cells := 0, slots := 0, locals := 0 } : Room) (th_P [.ref a0, .int p1, .int p2, .int p3, .int p4, .int p5] G H0) (th_Q (fun (v : Option Value) (H1 : Heap) => ∃ r : Int32, v = some (.int r) ∧ (400 < mo_f G H0 a0 13 + 20 → r.toInt = -1) ∧ (mo_f G H0 a0 13 + 20 ≤ 400 → r.toInt = mo_f G H0 a0 13 + 20) ∧ th_I G Γ H1 ∧ th_F G Γ [(46, 13), (54, 0), (53, 0)] H0 H1 ∧ th_RC G Γ H1 ∧ (mo_f G H1 a0 13 = if 400 < mo_f G H0 a0 13 + 20 then mo_f G H0 a0 13 else mo_f G H0 a0 13 + 20)) G) 0 0 (fun q => G.2.2 ≤ q) := by
  refine th_met RX12 (by decide) rfl (Nat.le_of_ble_eq_true rfl) ?_
  intro p e s m below meth c hC hH hr hlocks hnm ls hl
  have hx := hC.1
  have hb := hC.2.1
  have hB : th_B G Γ Γ [(46, 13), (54, 0), (53, 0)] H0 H0 [] := ⟨hI, va_S.rf, th_F_rf⟩
  have hl : lv_has ls 7 [(0, .ref a0), (1, .int p1), (2, .int p2), (3, .int p3), (4, .int p4), (5, .int p5)] := hl
  have lp1 := ti_lo p1; have up1 := ti_hi p1
  have lp2 := ti_lo p2; have up2 := ti_hi p2
  have lp3 := ti_lo p3; have up3 := ti_hi p3
  have lp4 := ti_lo p4; have up4 := ti_hi p4
  have lp5 := ti_lo p5; have up5 := ti_hi p5
  refine lv_aload_n hx hb dX12_feed_0 rfl (lv_at hl 0 rfl) ?_
  refine th_getI (j := 13) hC cf_X12 hB.1 h0 ro_46 rfl rfl kf_X12_169 dX12_feed_1 (fun x1 mx1 lx1 ux1 => ?_)
  have fg2 : mo_f G H0 a0 13 = x1.toInt := mo_fat mx1
  refine lv_bipush (v := 20) hx hb dX12_feed_4 (by decide) ?_
  refine tr_iadd hx hb dX12_feed_6 (Eq.refl _) tk_20 (by omega) (by omega) (fun x3 ex3 => ?_)
  refine lv_sipush (v := 400) hx hb dX12_feed_7 (by decide) ?_
  refine tr_icmp_le (tgt := 15) hx hb dX12_feed_10 (by decide) (Eq.refl _) tk_400 (fun c10 => ?_) (fun c10 => ?_)
  · refine lv_aload_n hx hb dX12_feed_15 rfl (lv_at hl 0 rfl) ?_
    refine th_getO (j := 12) (r2 := 54) hC cf_X12 hB.1 h0 ro_46 rfl rfl kf_X12_48 dX12_feed_16 (fun b4 mb4 hb4 => ?_)
    refine lv_iconst (v := 0) hx hb dX12_feed_19 (by decide) ?_
    refine lv_iload_n hx hb dX12_feed_20 rfl (lv_at hl 1 rfl) ?_
    refine th_iastF hC hB hb4 (Or.inl hb4) ro_54 rfl (by decide) tk_0 (by omega) (by omega) th_sIa dX12_feed_21 (fun H21 locs hB hf21 hst21 => ?_)
    have hf := hf21
    have mm5 := (th_F_o hf h0 ro_46 (j := 13) (by decide) (by decide)).trans mx1
    have mm6 := (th_F_o hf h0 ro_46 (j := 12) (by decide) (by decide)).trans mb4
    have hR := th_RC_F hB.1 hR hf (th_T_s hb4 ro_54 hst21) (by decide)
    have fv_H21_13 : mo_f G H21 a0 13 = mo_f G H0 a0 13 := mo_f_F hf h0 (by decide) (by decide)
    refine lv_aload_n hx hb dX12_feed_22 rfl (lv_at hl 0 rfl) ?_
    refine th_getK hC cf_X12 hB.1 h0 ro_46 rfl (j := 12) (by decide) mm6 kf_X12_48 dX12_feed_23 ?_
    refine lv_iconst (v := 1) hx hb dX12_feed_26 (by decide) ?_
    refine lv_iload_n hx hb dX12_feed_27 rfl (lv_at hl 2 rfl) ?_
    refine th_iastF hC hB hb4 (Or.inl hb4) ro_54 rfl (by decide) tk_1 (by omega) (by omega) th_sIa dX12_feed_28 (fun H28 locs hB hf28 hst28 => ?_)
    have hf := hf28
    have mm7 := (th_F_o hf h0 ro_46 (j := 13) (by decide) (by decide)).trans mm5
    have mm8 := (th_F_o hf h0 ro_46 (j := 12) (by decide) (by decide)).trans mm6
    have hR := th_RC_F hB.1 hR hf (th_T_s hb4 ro_54 hst28) (by decide)
    have fv_H28_13 : mo_f G H28 a0 13 = mo_f G H21 a0 13 := mo_f_F hf h0 (by decide) (by decide)
    refine lv_aload_n hx hb dX12_feed_29 rfl (lv_at hl 0 rfl) ?_
    refine th_getK hC cf_X12 hB.1 h0 ro_46 rfl (j := 12) (by decide) mm8 kf_X12_48 dX12_feed_30 ?_
    refine lv_iconst (v := 2) hx hb dX12_feed_33 (by decide) ?_
    refine lv_iload_n hx hb dX12_feed_34 rfl (lv_at hl 3 rfl) ?_
    refine th_iastF hC hB hb4 (Or.inl hb4) ro_54 rfl (by decide) tk_2 (by omega) (by omega) th_sIa dX12_feed_35 (fun H35 locs hB hf35 hst35 => ?_)
    have hf := hf35
    have mm9 := (th_F_o hf h0 ro_46 (j := 13) (by decide) (by decide)).trans mm7
    have mm10 := (th_F_o hf h0 ro_46 (j := 12) (by decide) (by decide)).trans mm8
    have hR := th_RC_F hB.1 hR hf (th_T_s hb4 ro_54 hst35) (by decide)
    have fv_H35_13 : mo_f G H35 a0 13 = mo_f G H28 a0 13 := mo_f_F hf h0 (by decide) (by decide)
    refine lv_aload_n hx hb dX12_feed_36 rfl (lv_at hl 0 rfl) ?_
    refine th_getK hC cf_X12 hB.1 h0 ro_46 rfl (j := 12) (by decide) mm10 kf_X12_48 dX12_feed_37 ?_
    refine lv_iconst (v := 3) hx hb dX12_feed_40 (by decide) ?_
    refine lv_iload hx hb dX12_feed_41 (lv_at hl 4 rfl) ?_
    refine th_iastF hC hB hb4 (Or.inl hb4) ro_54 rfl (by decide) tk_3 (by omega) (by omega) th_sIa dX12_feed_43 (fun H43 locs hB hf43 hst43 => ?_)
    have hf := hf43
    have mm11 := (th_F_o hf h0 ro_46 (j := 13) (by decide) (by decide)).trans mm9
    have mm12 := (th_F_o hf h0 ro_46 (j := 12) (by decide) (by decide)).trans mm10
    have hR := th_RC_F hB.1 hR hf (th_T_s hb4 ro_54 hst43) (by decide)
    have fv_H43_13 : mo_f G H43 a0 13 = mo_f G H35 a0 13 := mo_f_F hf h0 (by decide) (by decide)
    refine lv_aload_n hx hb dX12_feed_44 rfl (lv_at hl 0 rfl) ?_
    refine th_getK hC cf_X12 hB.1 h0 ro_46 rfl (j := 12) (by decide) mm12 kf_X12_48 dX12_feed_45 ?_
    refine lv_iconst (v := 4) hx hb dX12_feed_48 (by decide) ?_
    refine lv_iload hx hb dX12_feed_49 (lv_at hl 5 rfl) ?_
    refine th_iastF hC hB hb4 (Or.inl hb4) ro_54 rfl (by decide) tk_4 (by omega) (by omega) th_sIa dX12_feed_51 (fun H51 locs hB hf51 hst51 => ?_)
    have hf := hf51
    have mm13 := (th_F_o hf h0 ro_46 (j := 13) (by decide) (by decide)).trans mm11
    have mm14 := (th_F_o hf h0 ro_46 (j := 12) (by decide) (by decide)).trans mm12
    have hR := th_RC_F hB.1 hR hf (th_T_s hb4 ro_54 hst51) (by decide)
    have fv_H51_13 : mo_f G H51 a0 13 = mo_f G H43 a0 13 := mo_f_F hf h0 (by decide) (by decide)
    refine lv_iconst (v := 0) hx hb dX12_feed_52 (by decide) ?_
    refine lv_istore (lv' := [(6, .int 0), (0, .ref a0), (1, .int p1), (2, .int p2), (3, .int p3), (4, .int p4), (5, .int p5)]) hx hb dX12_feed_53 hl (by decide) rfl (fun ls hl => ?_)
    have lp55 : ∀ (n55 : Nat) (H55 : Heap) (locs : List Loc) (ls : Array Slot) (j55_6 : Int32), th_B G Γ Γ [(46, 13), (54, 0), (53, 0)] H0 H55 locs → th_RC G Γ H55 → lv_has ls 7 [(0, .ref a0), (6, .int j55_6)] → 0 ≤ j55_6.toInt → j55_6.toInt ≤ 20 → mo_f G H55 a0 13 ≤ 380 → mo_f G H55 a0 13 = mo_f G H0 a0 13 → th_sl H55 a0 (G.1.2 12 13) = .int x1 → (2147483648 : Int) - j55_6.toInt ≤ (n55 : Int) → W p l e ({ frames := 0, cells := 0, slots := 0, locals := 0 } : Room) s m ([.ref a0, .int p1, .int p2, .int p3, .int p4, .int p5] : List Value).toArray below meth c H55 locs 0 0 (MQ below (th_Q (fun (v : Option Value) (H1 : Heap) => ∃ r : Int32, v = some (.int r) ∧ (400 < mo_f G H0 a0 13 + 20 → r.toInt = -1) ∧ (mo_f G H0 a0 13 + 20 ≤ 400 → r.toInt = mo_f G H0 a0 13 + 20) ∧ th_I G Γ H1 ∧ th_F G Γ [(46, 13), (54, 0), (53, 0)] H0 H1 ∧ th_RC G Γ H1 ∧ (mo_f G H1 a0 13 = if 400 < mo_f G H0 a0 13 + 20 then mo_f G H0 a0 13 else mo_f G H0 a0 13 + 20)) G) ([.ref a0, .int p1, .int p2, .int p3, .int p4, .int p5] : List Value).toArray s 0 0 (fun q => G.2.2 ≤ q)) (F0 m 55 ls []) := by
      intro n55
      induction n55 with
      | zero => intro H55 locs ls j55_6 hB hR hl g55_0 g55_1 g55_2 g55_3 g55_4 hm55; exact absurd hm55 (by have := ti_hi j55_6; omega)
      | succ n55 ih55 =>
        intro H55 locs ls j55_6 hB hR hl g55_0 g55_1 g55_2 g55_3 g55_4 hm55
        have lj55_6 := ti_lo j55_6; have uj55_6 := ti_hi j55_6
        have mm15 := (th_F_o hB.2.2 h0 ro_46 (j := 12) (by decide) (by decide)).trans mb4
        have hm55 : (2147483648 : Int) - j55_6.toInt ≤ (n55 : Int) + 1 := by omega
        refine lv_iload hx hb dX12_feed_55 (lv_at hl 1 rfl) ?_
        refine lv_bipush (v := 20) hx hb dX12_feed_57 (by decide) ?_
        refine tr_icmp_ge (tgt := 101) hx hb dX12_feed_59 (by decide) (Eq.refl _) tk_20 (fun c59 => ?_) (fun c59 => ?_)
        · refine lv_aload_n hx hb dX12_feed_101 rfl (lv_at hl 0 rfl) ?_
          refine lv_dup hx hb dX12_feed_102 rfl ?_
          refine th_getK hC cf_X12 hB.1 h0 ro_46 rfl (j := 13) (by decide) g55_4 kf_X12_169 dX12_feed_103 ?_
          have fg16 : mo_f G H55 a0 13 = x1.toInt := mo_fat g55_4
          refine lv_bipush (v := 20) hx hb dX12_feed_106 (by decide) ?_
          refine tr_iadd hx hb dX12_feed_108 (Eq.refl _) tk_20 (by omega) (by omega) (fun x17 ex17 => ?_)
          refine th_put hC cf_X12 hB h0 (Or.inl h0) ro_46 rfl (j := 13) rfl (th_sI (by omega) (by omega)) (by decide) rfl rfl rfl kf_X12_169 dX12_feed_109 (fun H109 locs hB hf hst109 => ?_)
          have mm18 := (th_F_o hf h0 ro_46 (j := 12) (by decide) (by decide)).trans mm15
          have hR := th_RC_F hB.1 hR hf (th_T_s h0 ro_46 hst109) (by decide)
          have fp109 : mo_f G H109 a0 13 = x17.toInt := mo_f_St hst109
          have mm19 := hst109.2.1
          refine lv_aload_n hx hb dX12_feed_112 rfl (lv_at hl 0 rfl) ?_
          refine th_getK hC cf_X12 hB.1 h0 ro_46 rfl (j := 13) (by decide) mm19 kf_X12_169 dX12_feed_113 ?_
          have fg20 : mo_f G H109 a0 13 = x17.toInt := mo_fat mm19
          exact th_iret hC hH hr hlocks rfl hB.2.1 ⟨_, rfl, by intros; omega, by intros; omega, hB.1, hB.2.2, hR, (by split <;> omega)⟩ dX12_feed_116
        · refine lv_aload_n hx hb dX12_feed_62 rfl (lv_at hl 0 rfl) ?_
          refine th_getO (j := 11) (r2 := 53) hC cf_X12 hB.1 h0 ro_46 rfl rfl kf_X12_45 dX12_feed_63 (fun b21 mb21 hb21 => ?_)
          have sb21 := (th_F_o hB.2.2 h0 ro_46 (j := 11) (by decide) (by decide)).symm.trans mb21
          refine lv_aload_n hx hb dX12_feed_66 rfl (lv_at hl 0 rfl) ?_
          refine th_getK hC cf_X12 hB.1 h0 ro_46 rfl (j := 13) (by decide) g55_4 kf_X12_169 dX12_feed_67 ?_
          have fg22 : mo_f G H55 a0 13 = x1.toInt := mo_fat g55_4
          refine lv_iload hx hb dX12_feed_70 (lv_at hl 1 rfl) ?_
          refine tr_iadd hx hb dX12_feed_72 (Eq.refl _) (Eq.refl _) (by omega) (by omega) (fun x23 ex23 => ?_)
          refine lv_aload_n hx hb dX12_feed_73 rfl (lv_at hl 0 rfl) ?_
          refine th_getK hC cf_X12 hB.1 h0 ro_46 rfl (j := 12) (by decide) mm15 kf_X12_48 dX12_feed_74 ?_
          refine lv_iload hx hb dX12_feed_77 (lv_at hl 1 rfl) ?_
          refine lv_iconst (v := 4) hx hb dX12_feed_79 (by decide) ?_
          refine tr_idiv hx hb dX12_feed_80 (Eq.refl _) tk_4 (by omega) (by omega) (fun x24 ex24 => ?_)
          refine th_ialdF hC hB.1 hb4 ro_54 rfl (Eq.refl _) (by omega) (by omega) rfl dX12_feed_81 (fun x25 mx25 lx25 ux25 => ?_)
          refine lv_bipush (v := 24) hx hb dX12_feed_82 (by decide) ?_
          refine lv_bipush (v := 8) hx hb dX12_feed_84 (by decide) ?_
          refine lv_iload hx hb dX12_feed_86 (lv_at hl 1 rfl) ?_
          refine lv_iconst (v := 4) hx hb dX12_feed_88 (by decide) ?_
          refine tr_irem hx hb dX12_feed_89 (Eq.refl _) tk_4 (by omega) (by omega) (fun x26 ex26 => ?_)
          refine tr_imul hx hb dX12_feed_90 tk_8 (Eq.refl _) (by omega) (by omega) (fun x27 ex27 => ?_)
          refine tr_isub hx hb dX12_feed_91 tk_24 (Eq.refl _) (by omega) (by omega) (fun x28 ex28 => ?_)
          refine lv_ishr hx hb dX12_feed_92 ?_
          refine lv_topi (fun x29 ex29 => ?_)
          have lx29 := ti_lo x29; have ux29 := ti_hi x29
          refine lv_i2b hx hb dX12_feed_93 rfl ?_
          refine lv_topi (fun x30 ex30 => ?_)
          have lx30 := ti_lo x30; have ux30 := ti_hi x30
          refine th_bastF hC hB hb21 (Or.inl hb21) ro_53 rfl (by decide) (Eq.refl _) (by omega) (by omega) (th_sI (ti_byte _).1 (ti_byte _).2) (narrow_byte _) dX12_feed_94 (fun H94 locs hB hf94 hst94 => ?_)
          have hf := hf94
          have mm31 := (th_F_o hf h0 ro_46 (j := 13) (by decide) (by decide)).trans g55_4
          have mm32 := (th_F_o hf h0 ro_46 (j := 12) (by decide) (by decide)).trans mm15
          have mm33 := (th_F_o hf h0 ro_46 (j := 11) (by decide) (by decide)).trans mb21
          have hR := th_RC_F hB.1 hR hf (th_T_s hb21 ro_53 hst94) (by decide)
          have fv_H94_13 : mo_f G H94 a0 13 = mo_f G H55 a0 13 := mo_f_F hf h0 (by decide) (by decide)
          refine tr_iinc (fun x34 => [(6, .int x34), (0, .ref a0)]) hx hb dX12_feed_95 hl (k := 1) rfl (Eq.refl _) tk_1 (by omega) (by omega) (by decide) (fun _ => rfl) (fun x34 ls ex34 hl => ?_)
          refine lv_goto (tgt := 55) hx hb dX12_feed_98 (by decide) ?_
          exact ih55 H94 locs ls x34 hB hR (lv_sub hl [1, 0] rfl) (by omega) (by omega) (by omega) (by omega) mm31 (by omega)
    exact lp55 ((2147483648 : Int) - (0)).toNat H51 locs ls 0 hB hR (lv_sub hl [1, 0] rfl) (by decide) (by decide) (by have w0 := tk_0; omega) (by have w0 := tk_0; omega) mm13 (by have w0 := tk_0; omega)
  · refine lv_iconst (v := (-1)) hx hb dX12_feed_13 (by decide) ?_
    exact th_iret hC hH hr hlocks rfl hB.2.1 ⟨_, rfl, by first | (intro h9; exact absurd h9 (by decide)) | (have w9 := tk_m1; intros; omega), by first | (intro h9; exact absurd h9 (by decide)) | (have w9 := tk_m1; intros; omega), hB.1, hB.2.2, hR, (by split <;> omega)⟩ dX12_feed_14

set_option maxHeartbeats 4000000 in
set_option maxRecDepth 100000 in
theorem c_X12_end_n (l : Launch) (G : th_G) (Γ : th_Ga) (H0 : Heap) (hI : th_I G Γ H0) (hR : th_RC G Γ H0) (a0 : Nat) (h0 : Γ a0 = (46, 0)) (p1 : Int32) : Met l yX12_end (.code yX12_end cX12_end 2 (some FieldType.int) :: th_tb) ({ frames := 1, cells := 0, slots := 0, locals := 22 } : Room) (th_P [.ref a0, .int p1] G H0) (th_Q (fun (v : Option Value) (H1 : Heap) => ∃ r : Int32, v = some (.int r) ∧ (p1.toInt < 0 ∨ mo_f G H0 a0 13 < p1.toInt → r.toInt = -1) ∧ (0 ≤ p1.toInt ∧ p1.toInt ≤ mo_f G H0 a0 13 → r.toInt = p1.toInt) ∧ th_I G Γ H1 ∧ th_F G Γ [(46, 13)] H0 H1 ∧ th_RC G Γ H1 ∧ (mo_f G H1 a0 13 = if 0 ≤ p1.toInt ∧ p1.toInt ≤ mo_f G H0 a0 13 then p1.toInt else mo_f G H0 a0 13)) G) 0 0 (fun q => G.2.2 ≤ q) := by
  refine th_met RX12 (by decide) rfl (Nat.le_of_ble_eq_true rfl) ?_
  intro p e s m below meth c hC hH hr hlocks hnm ls hl
  have hx := hC.1
  have hb := hC.2.1
  have hB : th_B G Γ Γ [(46, 13)] H0 H0 [] := ⟨hI, va_S.rf, th_F_rf⟩
  have hl : lv_has ls 2 [(0, .ref a0), (1, .int p1)] := hl
  have lp1 := ti_lo p1; have up1 := ti_hi p1
  refine lv_iload_n hx hb dX12_end_0 rfl (lv_at hl 1 rfl) ?_
  refine lv_iconst (v := 0) hx hb dX12_end_1 (by decide) ?_
  refine lv_aload_n hx hb dX12_end_2 rfl (lv_at hl 0 rfl) ?_
  refine th_getI (j := 13) hC cf_X12 hB.1 h0 ro_46 rfl rfl kf_X12_169 dX12_end_3 (fun x1 mx1 lx1 ux1 => ?_)
  have fg2 : mo_f G H0 a0 13 = x1.toInt := mo_fat mx1
  refine th_call (th_runS (As := [.int p1, .int 0, .int x1]) (rest := []) hC mf_X12_lies km_X12_18 st_X12_lies (c_X12_lies l G Γ H0 hB.1 p1 0 x1) rfl rfl ⟨Nat.le_of_ble_eq_true rfl, Nat.le_of_ble_eq_true rfl⟩ rfl hl.1 rfl (Nat.le_of_ble_eq_true rfl) dX12_end_6 ⟨Nat.le_refl _, Nat.le_refl _⟩) hB.2.1 (fun v6 H6 locs hp hz hS => ?_)
  obtain ⟨x3, rfl, lx3, ux3, q6_0, q6_1, rfl⟩ := hp
  have hB := th_B_s hB hS
  have w6_1 := tk_0
  refine W.eq (g2 := F0 m 9 ls [.int x3]) rfl ?_
  refine tr_if_ne (tgt := 14) hx hb dX12_end_9 (by decide) (Eq.refl _) (fun c9 => ?_) (fun c9 => ?_)
  · refine lv_aload_n hx hb dX12_end_14 rfl (lv_at hl 0 rfl) ?_
    refine lv_iload_n hx hb dX12_end_15 rfl (lv_at hl 1 rfl) ?_
    refine th_put hC cf_X12 hB h0 (Or.inl h0) ro_46 rfl (j := 13) rfl (th_sI (by omega) (by omega)) (by decide) rfl rfl rfl kf_X12_169 dX12_end_16 (fun H16 locs hB hf hst16 => ?_)
    have hR := th_RC_F hB.1 hR hf (th_T_s h0 ro_46 hst16) (by decide)
    have fp16 : mo_f G H16 a0 13 = p1.toInt := mo_f_St hst16
    refine lv_iload_n hx hb dX12_end_19 rfl (lv_at hl 1 rfl) ?_
    exact th_iret hC hH hr hlocks rfl hB.2.1 ⟨_, rfl, by intros; omega, by intros; omega, hB.1, hB.2.2, hR, (by split <;> omega)⟩ dX12_end_20
  · refine lv_iconst (v := (-1)) hx hb dX12_end_12 (by decide) ?_
    exact th_iret hC hH hr hlocks rfl hB.2.1 ⟨_, rfl, by first | (intro h9; exact absurd h9 (by decide)) | (have w9 := tk_m1; intros; omega), by first | (intro h9; exact absurd h9 (by decide)) | (have w9 := tk_m1; intros; omega), hB.1, hB.2.2, hR, (by split <;> omega)⟩ dX12_end_13

set_option maxHeartbeats 4000000 in
set_option maxRecDepth 100000 in
theorem c_X12_row_n (l : Launch) (G : th_G) (Γ : th_Ga) (H0 : Heap) (hI : th_I G Γ H0) (a0 : Nat) (h0 : Γ a0 = (46, 0)) (hR : th_RN a0 G Γ H0) : Met l yX12_row (.code yX12_row cX12_row 5 (some FieldType.int) :: th_tb) ({ frames := 3, cells := 0, slots := 0, locals := 64 } : Room) (th_P [.ref a0] G H0) (th_Q (fun (v : Option Value) (H1 : Heap) => ∃ r : Int32, v = some (.int r) ∧ th_I G Γ H1 ∧ th_F G Γ [(47, 0), (46, 0), (48, 0), (46, 33), (46, 6), (46, 13)] H0 H1 ∧ th_RN a0 G Γ H1 ∧ (mo_f G H1 a0 13 = 0)) G) 0 0 (fun q => G.2.2 ≤ q) := by
  refine th_met RX12 (by decide) rfl (Nat.le_of_ble_eq_true rfl) ?_
  intro p e s m below meth c hC hH hr hlocks hnm ls hl
  have hx := hC.1
  have hb := hC.2.1
  have hB : th_B G Γ Γ [(47, 0), (46, 0), (48, 0), (46, 33), (46, 6), (46, 13)] H0 H0 [] := ⟨hI, va_S.rf, th_F_rf⟩
  have hl : lv_has ls 5 [(0, .ref a0)] := hl
  refine lv_aload_n hx hb dX12_row_0 rfl (lv_at hl 0 rfl) ?_
  refine th_getI (j := 13) hC cf_X12 hB.1 h0 ro_46 rfl rfl kf_X12_169 dX12_row_1 (fun x1 mx1 lx1 ux1 => ?_)
  have fg2 : mo_f G H0 a0 13 = x1.toInt := mo_fat mx1
  refine lv_istore_n (lv' := [(1, .int x1), (0, .ref a0)]) hx hb dX12_row_4 rfl hl (by decide) rfl (fun ls hl => ?_)
  refine lv_aload_n hx hb dX12_row_5 rfl (lv_at hl 1 rfl) ?_
  refine lv_iconst (v := 0) hx hb dX12_row_6 (by decide) ?_
  refine th_put hC cf_X12 hB h0 (Or.inl h0) ro_46 rfl (j := 13) rfl (th_sI (by decide) (by decide)) (by decide) rfl rfl rfl kf_X12_169 dX12_row_7 (fun H7 locs hB hf hst7 => ?_)
  have hR := th_RN_F hB.1 hR h0 hf (th_T_s h0 ro_46 hst7) (by decide)
  have fv_H7_33 : mo_f G H7 a0 33 = mo_f G H0 a0 33 := mo_f_F hf h0 (by decide) (by decide)
  have vv_H7_2 : mo_v G H7 a0 2 = mo_v G H0 a0 2 := mo_v_F (r := 48) hB.1 hf h0 rfl ro_48 (by decide) (by decide)
  have vv_H7_3 : mo_v G H7 a0 3 = mo_v G H0 a0 3 := mo_v_F (r := 49) hB.1 hf h0 rfl ro_49 (by decide) (by decide)
  have vv_H7_4 : mo_v G H7 a0 4 = mo_v G H0 a0 4 := mo_v_F (r := 50) hB.1 hf h0 rfl ro_50 (by decide) (by decide)
  have vv_H7_31 : mo_v G H7 a0 31 = mo_v G H0 a0 31 := mo_v_F (r := 61) hB.1 hf h0 rfl ro_61 (by decide) (by decide)
  have fp7 : mo_f G H7 a0 13 = 0 := (mo_f_St hst7).trans tk_0
  refine lv_iload_n hx hb dX12_row_10 rfl (lv_at hl 0 rfl) ?_
  refine tr_if_ne (tgt := 21) hx hb dX12_row_11 (by decide) (Eq.refl _) (fun c11 => ?_) (fun c11 => ?_)
  · refine lv_iconst (v := 0) hx hb dX12_row_21 (by decide) ?_
    have hR := th_NZ hR
    refine lv_istore_n (lv' := [(2, .int 0), (1, .int x1), (0, .ref a0)]) hx hb dX12_row_22 rfl hl (by decide) rfl (fun ls hl => ?_)
    refine lv_aload_n hx hb dX12_row_23 rfl (lv_at hl 2 rfl) ?_
    refine lv_iload_n hx hb dX12_row_24 rfl (lv_at hl 1 rfl) ?_
    refine lv_iconst (v := 3) hx hb dX12_row_25 (by decide) ?_
    refine tr_irem hx hb dX12_row_26 (Eq.refl _) tk_3 (by omega) (by omega) (fun x3 ex3 => ?_)
    have jn35 : ∀ (locs : List Loc) (ls : Array Slot) (s35_1 : Int32), th_B G Γ Γ [(47, 0), (46, 0), (48, 0), (46, 33), (46, 6), (46, 13)] H0 H7 locs → lv_has ls 5 [(2, .int 0), (1, .int x1), (0, .ref a0)] → 0 ≤ s35_1.toInt → s35_1.toInt ≤ 1 → W p l e ({ frames := 3, cells := 0, slots := 0, locals := 64 } : Room) s m ([.ref a0] : List Value).toArray below meth c H7 locs 0 0 (MQ below (th_Q (fun (v : Option Value) (H1 : Heap) => ∃ r : Int32, v = some (.int r) ∧ th_I G Γ H1 ∧ th_F G Γ [(47, 0), (46, 0), (48, 0), (46, 33), (46, 6), (46, 13)] H0 H1 ∧ th_RN a0 G Γ H1 ∧ (mo_f G H1 a0 13 = 0)) G) ([.ref a0] : List Value).toArray s 0 0 (fun q => G.2.2 ≤ q)) (F0 m 35 ls [.int s35_1, .ref a0]) := by
      intro locs ls s35_1 hB hl g35_0 g35_1
      have ls35_1 := ti_lo s35_1; have us35_1 := ti_hi s35_1
      refine th_put hC cf_X12 hB h0 (Or.inl h0) ro_46 rfl (j := 6) rfl th_sIa (by decide) rfl rfl rfl kf_X12_172 dX12_row_35 (fun H35 locs hB hf hst35 => ?_)
      have hR := th_RZ_F hB.1 hR h0 hf (th_T_s h0 ro_46 hst35) (by decide)
      have fv_H35_33 : mo_f G H35 a0 33 = mo_f G H7 a0 33 := mo_f_F hf h0 (by decide) (by decide)
      have fv_H35_13 : mo_f G H35 a0 13 = mo_f G H7 a0 13 := mo_f_F hf h0 (by decide) (by decide)
      have vv_H35_2 : mo_v G H35 a0 2 = mo_v G H7 a0 2 := mo_v_F (r := 48) hB.1 hf h0 rfl ro_48 (by decide) (by decide)
      have vv_H35_3 : mo_v G H35 a0 3 = mo_v G H7 a0 3 := mo_v_F (r := 49) hB.1 hf h0 rfl ro_49 (by decide) (by decide)
      have vv_H35_4 : mo_v G H35 a0 4 = mo_v G H7 a0 4 := mo_v_F (r := 50) hB.1 hf h0 rfl ro_50 (by decide) (by decide)
      have vv_H35_31 : mo_v G H35 a0 31 = mo_v G H7 a0 31 := mo_v_F (r := 61) hB.1 hf h0 rfl ro_61 (by decide) (by decide)
      have mm4 := hst35.2.1
      refine lv_iconst (v := 0) hx hb dX12_row_38 (by decide) ?_
      refine lv_istore_n (lv' := [(3, .int 0), (2, .int 0), (1, .int x1), (0, .ref a0)]) hx hb dX12_row_39 rfl hl (by decide) rfl (fun ls hl => ?_)
      have lp40 : ∀ (n40 : Nat) (H40 : Heap) (locs : List Loc) (ls : Array Slot) (j40_2 : Int32) (j40_3 : Int32), th_B G Γ Γ [(47, 0), (46, 0), (48, 0), (46, 33), (46, 6), (46, 13)] H0 H40 locs → th_RZ a0 G Γ H40 → lv_has ls 5 [(1, .int x1), (0, .ref a0), (2, .int j40_2), (3, .int j40_3)] → 0 ≤ j40_3.toInt → j40_3.toInt ≤ 400 → mo_f G H40 a0 13 = 0 → (2147483648 : Int) - j40_3.toInt ≤ (n40 : Int) → W p l e ({ frames := 3, cells := 0, slots := 0, locals := 64 } : Room) s m ([.ref a0] : List Value).toArray below meth c H40 locs 0 0 (MQ below (th_Q (fun (v : Option Value) (H1 : Heap) => ∃ r : Int32, v = some (.int r) ∧ th_I G Γ H1 ∧ th_F G Γ [(47, 0), (46, 0), (48, 0), (46, 33), (46, 6), (46, 13)] H0 H1 ∧ th_RN a0 G Γ H1 ∧ (mo_f G H1 a0 13 = 0)) G) ([.ref a0] : List Value).toArray s 0 0 (fun q => G.2.2 ≤ q)) (F0 m 40 ls []) := by
        intro n40
        induction n40 with
        | zero => intro H40 locs ls j40_2 j40_3 hB hR hl g40_0 g40_1 g40_2 hm40; exact absurd hm40 (by have := ti_hi j40_3; omega)
        | succ n40 ih40 =>
          intro H40 locs ls j40_2 j40_3 hB hR hl g40_0 g40_1 g40_2 hm40
          have lj40_2 := ti_lo j40_2; have uj40_2 := ti_hi j40_2
          have lj40_3 := ti_lo j40_3; have uj40_3 := ti_hi j40_3
          have vw_H40_3 : mo_v G H40 a0 3 = mo_v G H0 a0 3 := mo_v_F (r := 49) hB.1 hB.2.2 h0 rfl ro_49 (by decide) (by decide)
          have vw_H40_4 : mo_v G H40 a0 4 = mo_v G H0 a0 4 := mo_v_F (r := 50) hB.1 hB.2.2 h0 rfl ro_50 (by decide) (by decide)
          have vw_H40_31 : mo_v G H40 a0 31 = mo_v G H0 a0 31 := mo_v_F (r := 61) hB.1 hB.2.2 h0 rfl ro_61 (by decide) (by decide)
          have hm40 : (2147483648 : Int) - j40_3.toInt ≤ (n40 : Int) + 1 := by omega
          refine lv_iload_n hx hb dX12_row_40 rfl (lv_at hl 3 rfl) ?_
          refine lv_iconst (v := 3) hx hb dX12_row_41 (by decide) ?_
          refine tr_iadd hx hb dX12_row_42 (Eq.refl _) tk_3 (by omega) (by omega) (fun x5 ex5 => ?_)
          refine lv_iload_n hx hb dX12_row_43 rfl (lv_at hl 0 rfl) ?_
          refine tr_icmp_gt (tgt := 160) hx hb dX12_row_44 (by decide) (Eq.refl _) (Eq.refl _) (fun c44 => ?_) (fun c44 => ?_)
          · refine lv_aload_n hx hb dX12_row_160 rfl (lv_at hl 1 rfl) ?_
            refine lv_iload_n hx hb dX12_row_161 rfl (lv_at hl 2 rfl) ?_
            refine th_call (th_runV (As := [.int j40_2]) (rest := []) hC mf_X12_settled km_X12_112 im_X12_settled se_X12_settled (c_X12_settled l G Γ H40 hB.1 hR.1 a0 h0 j40_2) rfl rfl ⟨Nat.le_of_ble_eq_true rfl, Nat.le_of_ble_eq_true rfl⟩ hB.1 h0 ro_46 rfl rfl hl.1 rfl (Nat.le_of_ble_eq_true rfl) dX12_row_162 ⟨Nat.le_refl _, Nat.le_refl _⟩) hB.2.1 (fun v162 H162 locs hp hz hS => ?_)
            have hRD := hR
            obtain ⟨x6, rfl, q162_0, hI1, hf, hR, z162_0⟩ := hp
            have hR := th_RZ_c hR hRD hI1 h0 hf (by decide)
            have hB := th_B_c hB hI1 hS hf (by decide)
            have fv_H162_13 : mo_f G H162 a0 13 = mo_f G H40 a0 13 := mo_f_F hf h0 (by decide) (by decide)
            have vv_H162_2 : mo_v G H162 a0 2 = mo_v G H40 a0 2 := mo_v_F (r := 48) hB.1 hf h0 rfl ro_48 (by decide) (by decide)
            have vv_H162_3 : mo_v G H162 a0 3 = mo_v G H40 a0 3 := mo_v_F (r := 49) hB.1 hf h0 rfl ro_49 (by decide) (by decide)
            have vv_H162_4 : mo_v G H162 a0 4 = mo_v G H40 a0 4 := mo_v_F (r := 50) hB.1 hf h0 rfl ro_50 (by decide) (by decide)
            have vv_H162_31 : mo_v G H162 a0 31 = mo_v G H40 a0 31 := mo_v_F (r := 61) hB.1 hf h0 rfl ro_61 (by decide) (by decide)
            refine W.eq (g2 := F0 m 165 ls [.int x6]) rfl ?_
            have hR := th_ZN hR z162_0
            exact th_iret hC hH hr hlocks rfl hB.2.1 ⟨_, rfl, hB.1, hB.2.2, hR, (by omega)⟩ dX12_row_165
          · refine lv_aload_n hx hb dX12_row_47 rfl (lv_at hl 1 rfl) ?_
            refine th_call (th_runV (As := []) (rest := []) hC mf_X12_many km_X12_115 im_X12_many se_X12_many (c_X12_many l G Γ H40 hB.1 a0 h0) rfl rfl ⟨Nat.le_of_ble_eq_true rfl, Nat.le_of_ble_eq_true rfl⟩ hB.1 h0 ro_46 rfl rfl hl.1 rfl (Nat.le_of_ble_eq_true rfl) dX12_row_48 ⟨Nat.le_refl _, Nat.le_refl _⟩) hB.2.1 (fun v48 H48 locs hp hz hS => ?_)
            obtain ⟨x7, rfl, lx7, ux7, q48_0, rfl⟩ := hp
            have hB := th_B_s hB hS
            refine W.eq (g2 := F0 m 51 ls [.int x7]) rfl ?_
            refine lv_bipush (v := 9) hx hb dX12_row_51 (by decide) ?_
            refine tr_icmp_ge (tgt := 88) hx hb dX12_row_53 (by decide) (Eq.refl _) tk_9 (fun c53 => ?_) (fun c53 => ?_)
            · refine lv_iconst (v := 0) hx hb dX12_row_88 (by decide) ?_
              refine lv_istore (lv' := [(4, .int 0), (1, .int x1), (0, .ref a0), (2, .int j40_2), (3, .int j40_3)]) hx hb dX12_row_89 hl (by decide) rfl (fun ls hl => ?_)
              refine lv_iload hx hb dX12_row_91 (lv_at hl 0 rfl) ?_
              have jn122 : ∀ (H122 : Heap) (locs : List Loc) (ls : Array Slot) , th_B G Γ Γ [(47, 0), (46, 0), (48, 0), (46, 33), (46, 6), (46, 13)] H0 H122 locs → th_RZ a0 G Γ H122 → lv_has ls 5 [(4, .int 0), (1, .int x1), (0, .ref a0), (2, .int j40_2), (3, .int j40_3)] → mo_f G H122 a0 13 = 0 → W p l e ({ frames := 3, cells := 0, slots := 0, locals := 64 } : Room) s m ([.ref a0] : List Value).toArray below meth c H122 locs 0 0 (MQ below (th_Q (fun (v : Option Value) (H1 : Heap) => ∃ r : Int32, v = some (.int r) ∧ th_I G Γ H1 ∧ th_F G Γ [(47, 0), (46, 0), (48, 0), (46, 33), (46, 6), (46, 13)] H0 H1 ∧ th_RN a0 G Γ H1 ∧ (mo_f G H1 a0 13 = 0)) G) ([.ref a0] : List Value).toArray s 0 0 (fun q => G.2.2 ≤ q)) (F0 m 122 ls []) := by
                intro H122 locs ls hB hR hl g122_0
                have vw_H122_3 : mo_v G H122 a0 3 = mo_v G H0 a0 3 := mo_v_F (r := 49) hB.1 hB.2.2 h0 rfl ro_49 (by decide) (by decide)
                have vw_H122_4 : mo_v G H122 a0 4 = mo_v G H0 a0 4 := mo_v_F (r := 50) hB.1 hB.2.2 h0 rfl ro_50 (by decide) (by decide)
                have vw_H122_31 : mo_v G H122 a0 31 = mo_v G H0 a0 31 := mo_v_F (r := 61) hB.1 hB.2.2 h0 rfl ro_61 (by decide) (by decide)
                refine lv_iload_n hx hb dX12_row_122 rfl (lv_at hl 3 rfl) ?_
                refine lv_iload hx hb dX12_row_123 (lv_at hl 0 rfl) ?_
                refine tr_if_eq (tgt := 132) hx hb dX12_row_125 (by decide) tk_0 (fun c125 => ?_) (fun c125 => ?_)
                · refine lv_iconst (v := 0) hx hb dX12_row_132 (by decide) ?_
                  refine tr_iadd hx hb dX12_row_133 (Eq.refl _) tk_0 (by omega) (by omega) (fun x8 ex8 => ?_)
                  refine lv_istore_n (lv' := [(2, .int x8), (4, .int 0), (1, .int x1), (0, .ref a0), (3, .int j40_3)]) hx hb dX12_row_134 rfl hl (by decide) rfl (fun ls hl => ?_)
                  refine lv_aload_n hx hb dX12_row_135 rfl (lv_at hl 3 rfl) ?_
                  refine lv_dup hx hb dX12_row_136 rfl ?_
                  refine th_getI (j := 6) hC cf_X12 hB.1 h0 ro_46 rfl rfl kf_X12_172 dX12_row_137 (fun x9 mx9 lx9 ux9 => ?_)
                  refine lv_iload hx hb dX12_row_140 (lv_at hl 1 rfl) ?_
                  refine tr_if_eq (tgt := 149) hx hb dX12_row_142 (by decide) tk_0 (fun c142 => ?_) (fun c142 => ?_)
                  · refine lv_iconst (v := 1) hx hb dX12_row_149 (by decide) ?_
                    refine lv_iadd hx hb dX12_row_150 ?_
                    refine lv_topi (fun x10 ex10 => ?_)
                    have lx10 := ti_lo x10; have ux10 := ti_hi x10
                    refine th_put hC cf_X12 hB h0 (Or.inl h0) ro_46 rfl (j := 6) rfl th_sIa (by decide) rfl rfl rfl kf_X12_172 dX12_row_151 (fun H151 locs hB hf hst151 => ?_)
                    have hR := th_RZ_F hB.1 hR h0 hf (th_T_s h0 ro_46 hst151) (by decide)
                    have fv_H151_33 : mo_f G H151 a0 33 = mo_f G H122 a0 33 := mo_f_F hf h0 (by decide) (by decide)
                    have fv_H151_13 : mo_f G H151 a0 13 = mo_f G H122 a0 13 := mo_f_F hf h0 (by decide) (by decide)
                    have vv_H151_2 : mo_v G H151 a0 2 = mo_v G H122 a0 2 := mo_v_F (r := 48) hB.1 hf h0 rfl ro_48 (by decide) (by decide)
                    have vv_H151_3 : mo_v G H151 a0 3 = mo_v G H122 a0 3 := mo_v_F (r := 49) hB.1 hf h0 rfl ro_49 (by decide) (by decide)
                    have vv_H151_4 : mo_v G H151 a0 4 = mo_v G H122 a0 4 := mo_v_F (r := 50) hB.1 hf h0 rfl ro_50 (by decide) (by decide)
                    have vv_H151_31 : mo_v G H151 a0 31 = mo_v G H122 a0 31 := mo_v_F (r := 61) hB.1 hf h0 rfl ro_61 (by decide) (by decide)
                    have mm11 := hst151.2.1
                    refine tr_iinc (fun x12 => [(3, .int x12), (2, .int x8), (4, .int 0), (1, .int x1), (0, .ref a0)]) hx hb dX12_row_154 hl (k := 4) rfl (Eq.refl _) tk_3 (by omega) (by omega) (by decide) (fun _ => rfl) (fun x12 ls ex12 hl => ?_)
                    refine lv_goto (tgt := 40) hx hb dX12_row_157 (by decide) ?_
                    exact ih40 H151 locs ls x8 x12 hB hR (lv_sub hl [3, 4, 1, 0] rfl) (by omega) (by omega) (by omega) (by omega)
                  · exfalso; omega
                · exfalso; omega
              refine tr_if_eq (tgt := 122) hx hb dX12_row_93 (by decide) tk_0 (fun c93 => ?_) (fun c93 => ?_)
              · exact jn122 H40 locs ls hB hR (lv_sub hl [0, 1, 2, 3, 4] rfl) (by omega)
              · exfalso; omega
            · refine lv_aload_n hx hb dX12_row_56 rfl (lv_at hl 1 rfl) ?_
              refine th_getO (j := 11) (r2 := 53) hC cf_X12 hB.1 h0 ro_46 rfl rfl kf_X12_45 dX12_row_57 (fun b13 mb13 hb13 => ?_)
              have sb13 := (th_F_o hB.2.2 h0 ro_46 (j := 11) (by decide) (by decide)).symm.trans mb13
              refine lv_iload_n hx hb dX12_row_60 rfl (lv_at hl 3 rfl) ?_
              refine th_baldF hC hB.1 hb13 ro_53 rfl (Eq.refl _) (by omega) (by omega) rfl dX12_row_61 (fun x14 mx14 lx14 ux14 => ?_)
              refine lv_aload_n hx hb dX12_row_62 rfl (lv_at hl 1 rfl) ?_
              refine th_getK hC cf_X12 hB.1 h0 ro_46 rfl (j := 11) (by decide) mb13 kf_X12_45 dX12_row_63 ?_
              refine lv_iload_n hx hb dX12_row_66 rfl (lv_at hl 3 rfl) ?_
              refine lv_iconst (v := 1) hx hb dX12_row_67 (by decide) ?_
              refine tr_iadd hx hb dX12_row_68 (Eq.refl _) tk_1 (by omega) (by omega) (fun x15 ex15 => ?_)
              refine th_baldF hC hB.1 hb13 ro_53 rfl (Eq.refl _) (by omega) (by omega) rfl dX12_row_69 (fun x16 mx16 lx16 ux16 => ?_)
              refine lv_aload_n hx hb dX12_row_70 rfl (lv_at hl 1 rfl) ?_
              refine th_getK hC cf_X12 hB.1 h0 ro_46 rfl (j := 11) (by decide) mb13 kf_X12_45 dX12_row_71 ?_
              refine lv_iload_n hx hb dX12_row_74 rfl (lv_at hl 3 rfl) ?_
              refine lv_iconst (v := 2) hx hb dX12_row_75 (by decide) ?_
              refine tr_iadd hx hb dX12_row_76 (Eq.refl _) tk_2 (by omega) (by omega) (fun x17 ex17 => ?_)
              refine th_baldF hC hB.1 hb13 ro_53 rfl (Eq.refl _) (by omega) (by omega) rfl dX12_row_77 (fun x18 mx18 lx18 ux18 => ?_)
              refine th_call (th_runS (As := [.int x14, .int x16, .int x18]) (rest := []) hC mf_X12_canBe km_X12_127 st_X12_canBe (c_X12_canBe l G Γ H40 hB.1 x14 x16 x18) rfl rfl ⟨Nat.le_of_ble_eq_true rfl, Nat.le_of_ble_eq_true rfl⟩ rfl hl.1 rfl (Nat.le_of_ble_eq_true rfl) dX12_row_78 ⟨Nat.le_refl _, Nat.le_refl _⟩) hB.2.1 (fun v78 H78 locs hp hz hS => ?_)
              obtain ⟨x19, rfl, lx19, ux19, q78_0, rfl⟩ := hp
              have hB := th_B_s hB hS
              refine W.eq (g2 := F0 m 81 ls [.int x19]) rfl ?_
              refine tr_if_eq (tgt := 88) hx hb dX12_row_81 (by decide) (Eq.refl _) (fun c81 => ?_) (fun c81 => ?_)
              · refine lv_iconst (v := 0) hx hb dX12_row_88 (by decide) ?_
                refine lv_istore (lv' := [(4, .int 0), (1, .int x1), (0, .ref a0), (2, .int j40_2), (3, .int j40_3)]) hx hb dX12_row_89 hl (by decide) rfl (fun ls hl => ?_)
                refine lv_iload hx hb dX12_row_91 (lv_at hl 0 rfl) ?_
                have jn122 : ∀ (H122 : Heap) (locs : List Loc) (ls : Array Slot) , th_B G Γ Γ [(47, 0), (46, 0), (48, 0), (46, 33), (46, 6), (46, 13)] H0 H122 locs → th_RZ a0 G Γ H122 → lv_has ls 5 [(4, .int 0), (1, .int x1), (0, .ref a0), (2, .int j40_2), (3, .int j40_3)] → mo_f G H122 a0 13 = 0 → W p l e ({ frames := 3, cells := 0, slots := 0, locals := 64 } : Room) s m ([.ref a0] : List Value).toArray below meth c H122 locs 0 0 (MQ below (th_Q (fun (v : Option Value) (H1 : Heap) => ∃ r : Int32, v = some (.int r) ∧ th_I G Γ H1 ∧ th_F G Γ [(47, 0), (46, 0), (48, 0), (46, 33), (46, 6), (46, 13)] H0 H1 ∧ th_RN a0 G Γ H1 ∧ (mo_f G H1 a0 13 = 0)) G) ([.ref a0] : List Value).toArray s 0 0 (fun q => G.2.2 ≤ q)) (F0 m 122 ls []) := by
                  intro H122 locs ls hB hR hl g122_0
                  have mm20 := (th_F_o hB.2.2 h0 ro_46 (j := 11) (by decide) (by decide)).trans sb13
                  have vw_H122_3 : mo_v G H122 a0 3 = mo_v G H0 a0 3 := mo_v_F (r := 49) hB.1 hB.2.2 h0 rfl ro_49 (by decide) (by decide)
                  have vw_H122_4 : mo_v G H122 a0 4 = mo_v G H0 a0 4 := mo_v_F (r := 50) hB.1 hB.2.2 h0 rfl ro_50 (by decide) (by decide)
                  have vw_H122_31 : mo_v G H122 a0 31 = mo_v G H0 a0 31 := mo_v_F (r := 61) hB.1 hB.2.2 h0 rfl ro_61 (by decide) (by decide)
                  refine lv_iload_n hx hb dX12_row_122 rfl (lv_at hl 3 rfl) ?_
                  refine lv_iload hx hb dX12_row_123 (lv_at hl 0 rfl) ?_
                  refine tr_if_eq (tgt := 132) hx hb dX12_row_125 (by decide) tk_0 (fun c125 => ?_) (fun c125 => ?_)
                  · refine lv_iconst (v := 0) hx hb dX12_row_132 (by decide) ?_
                    refine tr_iadd hx hb dX12_row_133 (Eq.refl _) tk_0 (by omega) (by omega) (fun x21 ex21 => ?_)
                    refine lv_istore_n (lv' := [(2, .int x21), (4, .int 0), (1, .int x1), (0, .ref a0), (3, .int j40_3)]) hx hb dX12_row_134 rfl hl (by decide) rfl (fun ls hl => ?_)
                    refine lv_aload_n hx hb dX12_row_135 rfl (lv_at hl 3 rfl) ?_
                    refine lv_dup hx hb dX12_row_136 rfl ?_
                    refine th_getI (j := 6) hC cf_X12 hB.1 h0 ro_46 rfl rfl kf_X12_172 dX12_row_137 (fun x22 mx22 lx22 ux22 => ?_)
                    refine lv_iload hx hb dX12_row_140 (lv_at hl 1 rfl) ?_
                    refine tr_if_eq (tgt := 149) hx hb dX12_row_142 (by decide) tk_0 (fun c142 => ?_) (fun c142 => ?_)
                    · refine lv_iconst (v := 1) hx hb dX12_row_149 (by decide) ?_
                      refine lv_iadd hx hb dX12_row_150 ?_
                      refine lv_topi (fun x23 ex23 => ?_)
                      have lx23 := ti_lo x23; have ux23 := ti_hi x23
                      refine th_put hC cf_X12 hB h0 (Or.inl h0) ro_46 rfl (j := 6) rfl th_sIa (by decide) rfl rfl rfl kf_X12_172 dX12_row_151 (fun H151 locs hB hf hst151 => ?_)
                      have mm24 := (th_F_o hf h0 ro_46 (j := 11) (by decide) (by decide)).trans mm20
                      have hR := th_RZ_F hB.1 hR h0 hf (th_T_s h0 ro_46 hst151) (by decide)
                      have fv_H151_33 : mo_f G H151 a0 33 = mo_f G H122 a0 33 := mo_f_F hf h0 (by decide) (by decide)
                      have fv_H151_13 : mo_f G H151 a0 13 = mo_f G H122 a0 13 := mo_f_F hf h0 (by decide) (by decide)
                      have vv_H151_2 : mo_v G H151 a0 2 = mo_v G H122 a0 2 := mo_v_F (r := 48) hB.1 hf h0 rfl ro_48 (by decide) (by decide)
                      have vv_H151_3 : mo_v G H151 a0 3 = mo_v G H122 a0 3 := mo_v_F (r := 49) hB.1 hf h0 rfl ro_49 (by decide) (by decide)
                      have vv_H151_4 : mo_v G H151 a0 4 = mo_v G H122 a0 4 := mo_v_F (r := 50) hB.1 hf h0 rfl ro_50 (by decide) (by decide)
                      have vv_H151_31 : mo_v G H151 a0 31 = mo_v G H122 a0 31 := mo_v_F (r := 61) hB.1 hf h0 rfl ro_61 (by decide) (by decide)
                      have mm25 := hst151.2.1
                      refine tr_iinc (fun x26 => [(3, .int x26), (2, .int x21), (4, .int 0), (1, .int x1), (0, .ref a0)]) hx hb dX12_row_154 hl (k := 4) rfl (Eq.refl _) tk_3 (by omega) (by omega) (by decide) (fun _ => rfl) (fun x26 ls ex26 hl => ?_)
                      refine lv_goto (tgt := 40) hx hb dX12_row_157 (by decide) ?_
                      exact ih40 H151 locs ls x21 x26 hB hR (lv_sub hl [3, 4, 1, 0] rfl) (by omega) (by omega) (by omega) (by omega)
                    · exfalso; omega
                  · exfalso; omega
                refine tr_if_eq (tgt := 122) hx hb dX12_row_93 (by decide) tk_0 (fun c93 => ?_) (fun c93 => ?_)
                · exact jn122 H40 locs ls hB hR (lv_sub hl [0, 1, 2, 3, 4] rfl) (by omega)
                · exfalso; omega
              · refine lv_iconst (v := 1) hx hb dX12_row_84 (by decide) ?_
                refine lv_goto (tgt := 89) hx hb dX12_row_85 (by decide) ?_
                refine lv_istore (lv' := [(4, .int 1), (1, .int x1), (0, .ref a0), (2, .int j40_2), (3, .int j40_3)]) hx hb dX12_row_89 hl (by decide) rfl (fun ls hl => ?_)
                refine lv_iload hx hb dX12_row_91 (lv_at hl 0 rfl) ?_
                have jn122 : ∀ (H122 : Heap) (locs : List Loc) (ls : Array Slot) , th_B G Γ Γ [(47, 0), (46, 0), (48, 0), (46, 33), (46, 6), (46, 13)] H0 H122 locs → th_RZ a0 G Γ H122 → lv_has ls 5 [(4, .int 1), (1, .int x1), (0, .ref a0), (2, .int j40_2), (3, .int j40_3)] → mo_f G H122 a0 13 = 0 → W p l e ({ frames := 3, cells := 0, slots := 0, locals := 64 } : Room) s m ([.ref a0] : List Value).toArray below meth c H122 locs 0 0 (MQ below (th_Q (fun (v : Option Value) (H1 : Heap) => ∃ r : Int32, v = some (.int r) ∧ th_I G Γ H1 ∧ th_F G Γ [(47, 0), (46, 0), (48, 0), (46, 33), (46, 6), (46, 13)] H0 H1 ∧ th_RN a0 G Γ H1 ∧ (mo_f G H1 a0 13 = 0)) G) ([.ref a0] : List Value).toArray s 0 0 (fun q => G.2.2 ≤ q)) (F0 m 122 ls []) := by
                  intro H122 locs ls hB hR hl g122_0
                  have mm27 := (th_F_o hB.2.2 h0 ro_46 (j := 11) (by decide) (by decide)).trans sb13
                  have vw_H122_3 : mo_v G H122 a0 3 = mo_v G H0 a0 3 := mo_v_F (r := 49) hB.1 hB.2.2 h0 rfl ro_49 (by decide) (by decide)
                  have vw_H122_4 : mo_v G H122 a0 4 = mo_v G H0 a0 4 := mo_v_F (r := 50) hB.1 hB.2.2 h0 rfl ro_50 (by decide) (by decide)
                  have vw_H122_31 : mo_v G H122 a0 31 = mo_v G H0 a0 31 := mo_v_F (r := 61) hB.1 hB.2.2 h0 rfl ro_61 (by decide) (by decide)
                  refine lv_iload_n hx hb dX12_row_122 rfl (lv_at hl 3 rfl) ?_
                  refine lv_iload hx hb dX12_row_123 (lv_at hl 0 rfl) ?_
                  refine tr_if_eq (tgt := 132) hx hb dX12_row_125 (by decide) tk_1 (fun c125 => ?_) (fun c125 => ?_)
                  · exfalso; omega
                  · refine lv_iconst (v := 1) hx hb dX12_row_128 (by decide) ?_
                    refine lv_goto (tgt := 133) hx hb dX12_row_129 (by decide) ?_
                    refine lv_iadd hx hb dX12_row_133 ?_
                    refine lv_topi (fun x28 ex28 => ?_)
                    have lx28 := ti_lo x28; have ux28 := ti_hi x28
                    refine lv_istore_n (lv' := [(2, .int x28), (4, .int 1), (1, .int x1), (0, .ref a0), (3, .int j40_3)]) hx hb dX12_row_134 rfl hl (by decide) rfl (fun ls hl => ?_)
                    refine lv_aload_n hx hb dX12_row_135 rfl (lv_at hl 3 rfl) ?_
                    refine lv_dup hx hb dX12_row_136 rfl ?_
                    refine th_getI (j := 6) hC cf_X12 hB.1 h0 ro_46 rfl rfl kf_X12_172 dX12_row_137 (fun x29 mx29 lx29 ux29 => ?_)
                    refine lv_iload hx hb dX12_row_140 (lv_at hl 1 rfl) ?_
                    refine tr_if_eq (tgt := 149) hx hb dX12_row_142 (by decide) tk_1 (fun c142 => ?_) (fun c142 => ?_)
                    · exfalso; omega
                    · refine lv_iconst (v := 0) hx hb dX12_row_145 (by decide) ?_
                      refine lv_goto (tgt := 150) hx hb dX12_row_146 (by decide) ?_
                      refine tr_iadd hx hb dX12_row_150 (Eq.refl _) tk_0 (by omega) (by omega) (fun x30 ex30 => ?_)
                      refine th_put hC cf_X12 hB h0 (Or.inl h0) ro_46 rfl (j := 6) rfl th_sIa (by decide) rfl rfl rfl kf_X12_172 dX12_row_151 (fun H151 locs hB hf hst151 => ?_)
                      have mm31 := (th_F_o hf h0 ro_46 (j := 11) (by decide) (by decide)).trans mm27
                      have hR := th_RZ_F hB.1 hR h0 hf (th_T_s h0 ro_46 hst151) (by decide)
                      have fv_H151_33 : mo_f G H151 a0 33 = mo_f G H122 a0 33 := mo_f_F hf h0 (by decide) (by decide)
                      have fv_H151_13 : mo_f G H151 a0 13 = mo_f G H122 a0 13 := mo_f_F hf h0 (by decide) (by decide)
                      have vv_H151_2 : mo_v G H151 a0 2 = mo_v G H122 a0 2 := mo_v_F (r := 48) hB.1 hf h0 rfl ro_48 (by decide) (by decide)
                      have vv_H151_3 : mo_v G H151 a0 3 = mo_v G H122 a0 3 := mo_v_F (r := 49) hB.1 hf h0 rfl ro_49 (by decide) (by decide)
                      have vv_H151_4 : mo_v G H151 a0 4 = mo_v G H122 a0 4 := mo_v_F (r := 50) hB.1 hf h0 rfl ro_50 (by decide) (by decide)
                      have vv_H151_31 : mo_v G H151 a0 31 = mo_v G H122 a0 31 := mo_v_F (r := 61) hB.1 hf h0 rfl ro_61 (by decide) (by decide)
                      have mm32 := hst151.2.1
                      refine tr_iinc (fun x33 => [(3, .int x33), (2, .int x28), (4, .int 1), (1, .int x1), (0, .ref a0)]) hx hb dX12_row_154 hl (k := 4) rfl (Eq.refl _) tk_3 (by omega) (by omega) (by decide) (fun _ => rfl) (fun x33 ls ex33 hl => ?_)
                      refine lv_goto (tgt := 40) hx hb dX12_row_157 (by decide) ?_
                      exact ih40 H151 locs ls x28 x33 hB hR (lv_sub hl [3, 4, 1, 0] rfl) (by omega) (by omega) (by omega) (by omega)
                refine tr_if_eq (tgt := 122) hx hb dX12_row_93 (by decide) tk_1 (fun c93 => ?_) (fun c93 => ?_)
                · exfalso; omega
                · refine lv_aload_n hx hb dX12_row_96 rfl (lv_at hl 2 rfl) ?_
                  refine lv_aload_n hx hb dX12_row_97 rfl (lv_at hl 2 rfl) ?_
                  refine th_getK hC cf_X12 hB.1 h0 ro_46 rfl (j := 11) (by decide) mb13 kf_X12_45 dX12_row_98 ?_
                  refine lv_iload_n hx hb dX12_row_101 rfl (lv_at hl 4 rfl) ?_
                  refine th_baldF hC hB.1 hb13 ro_53 rfl (Eq.refl _) (by omega) (by omega) rfl dX12_row_102 (fun x34 mx34 lx34 ux34 => ?_)
                  have qx34 : x34.toInt = x14.toInt := by rw [show x34 = x14 from Value.int.inj (mx34.symm.trans mx14)]
                  refine lv_aload_n hx hb dX12_row_103 rfl (lv_at hl 2 rfl) ?_
                  refine th_getK hC cf_X12 hB.1 h0 ro_46 rfl (j := 11) (by decide) mb13 kf_X12_45 dX12_row_104 ?_
                  refine lv_iload_n hx hb dX12_row_107 rfl (lv_at hl 4 rfl) ?_
                  refine lv_iconst (v := 1) hx hb dX12_row_108 (by decide) ?_
                  refine tr_iadd hx hb dX12_row_109 (Eq.refl _) tk_1 (by omega) (by omega) (fun x35 ex35 => ?_)
                  refine th_baldF hC hB.1 hb13 ro_53 rfl (Eq.refl _) (by omega) (by omega) rfl dX12_row_110 (fun x36 mx36 lx36 ux36 => ?_)
                  refine lv_aload_n hx hb dX12_row_111 rfl (lv_at hl 2 rfl) ?_
                  refine th_getK hC cf_X12 hB.1 h0 ro_46 rfl (j := 11) (by decide) mb13 kf_X12_45 dX12_row_112 ?_
                  refine lv_iload_n hx hb dX12_row_115 rfl (lv_at hl 4 rfl) ?_
                  refine lv_iconst (v := 2) hx hb dX12_row_116 (by decide) ?_
                  refine tr_iadd hx hb dX12_row_117 (Eq.refl _) tk_2 (by omega) (by omega) (fun x37 ex37 => ?_)
                  refine th_baldF hC hB.1 hb13 ro_53 rfl (Eq.refl _) (by omega) (by omega) rfl dX12_row_118 (fun x38 mx38 lx38 ux38 => ?_)
                  refine th_call (th_runV (As := [.int x34, .int x36, .int x38]) (rest := []) hC mf_X12_adds km_X12_130 im_X12_adds se_X12_adds (c_X12_adds l G Γ H40 hB.1 a0 h0 (th_KE (th_ZK hR)) x34 (by omega) (by omega) x36 x38 (by omega)) rfl rfl ⟨Nat.le_of_ble_eq_true rfl, Nat.le_of_ble_eq_true rfl⟩ hB.1 h0 ro_46 rfl rfl hl.1 rfl (Nat.le_of_ble_eq_true rfl) dX12_row_119 ⟨Nat.le_refl _, Nat.le_refl _⟩) hB.2.1 (fun v119 H119 locs hp hz hS => ?_)
                  have hRD := hR
                  obtain ⟨rfl, hI1, hf, hR, z119_0⟩ := hp
                  have hRc119 := hR
                  have hR := hRD
                  have hRC := hRc119.1
                  have hB := th_B_c hB hI1 hS hf (by decide)
                  have mm39 := (th_F_o hf h0 ro_46 (j := 11) (by decide) (by decide)).trans mb13
                  have fv_H119_33 : mo_f G H119 a0 33 = mo_f G H40 a0 33 := mo_f_F hf h0 (by decide) (by decide)
                  have fv_H119_13 : mo_f G H119 a0 13 = mo_f G H40 a0 13 := mo_f_F hf h0 (by decide) (by decide)
                  have vv_H119_3 : mo_v G H119 a0 3 = mo_v G H40 a0 3 := mo_v_F (r := 49) hB.1 hf h0 rfl ro_49 (by decide) (by decide)
                  have vv_H119_4 : mo_v G H119 a0 4 = mo_v G H40 a0 4 := mo_v_F (r := 50) hB.1 hf h0 rfl ro_50 (by decide) (by decide)
                  have vv_H119_31 : mo_v G H119 a0 31 = mo_v G H40 a0 31 := mo_v_F (r := 61) hB.1 hf h0 rfl ro_61 (by decide) (by decide)
                  refine W.eq (g2 := F0 m 122 ls []) rfl ?_
                  have hR : th_RZ a0 G Γ H119 := ⟨hRC, by rw [z119_0, vv_H119_3, vv_H119_4]; exact ⟨mo_kg_ad hR.2.1 rfl (by omega) (by omega) (by omega), hR.2.2⟩⟩
                  exact jn122 H119 locs ls hB hR (lv_sub hl [0, 1, 2, 3, 4] rfl) (by omega)
      exact lp40 ((2147483648 : Int) - (0)).toNat H35 locs ls 0 0 hB hR (lv_sub hl [2, 3, 1, 0] rfl) (by decide) (by decide) (by have w0 := tk_0; omega) (by have w0 := tk_0; omega)
    refine tr_if_ne (tgt := 34) hx hb dX12_row_27 (by decide) (Eq.refl _) (fun c27 => ?_) (fun c27 => ?_)
    · refine lv_iconst (v := 1) hx hb dX12_row_34 (by decide) ?_
      exact jn35 locs ls 1 hB (lv_sub hl [0, 1, 2] rfl) (by decide) (by decide)
    · refine lv_iconst (v := 0) hx hb dX12_row_30 (by decide) ?_
      refine lv_goto (tgt := 35) hx hb dX12_row_31 (by decide) ?_
      exact jn35 locs ls 0 hB (lv_sub hl [0, 1, 2] rfl) (by decide) (by decide)
  · refine lv_aload_n hx hb dX12_row_14 rfl (lv_at hl 1 rfl) ?_
    refine lv_bipush (v := (-6)) hx hb dX12_row_15 (by decide) ?_
    refine th_call (th_runV (As := [.int (-6)]) (rest := []) hC mf_X12_refuses km_X12_109 im_X12_refuses se_X12_refuses (c_X12_refuses l G Γ H7 hB.1 hR.1 a0 h0 (-6) (by decide) (by decide)) rfl rfl ⟨Nat.le_of_ble_eq_true rfl, Nat.le_of_ble_eq_true rfl⟩ hB.1 h0 ro_46 rfl rfl hl.1 rfl (Nat.le_of_ble_eq_true rfl) dX12_row_17 ⟨Nat.le_refl _, Nat.le_refl _⟩) hB.2.1 (fun v17 H17 locs hp hz hS => ?_)
    have hRD := hR
    obtain ⟨x40, rfl, q17_0, hI1, hf, hR⟩ := hp
    have hR := th_RN_c hR hRD hI1 h0 hf (by decide)
    have hB := th_B_c hB hI1 hS hf (by decide)
    have fv_H17_33 : mo_f G H17 a0 33 = mo_f G H7 a0 33 := mo_f_F hf h0 (by decide) (by decide)
    have fv_H17_13 : mo_f G H17 a0 13 = mo_f G H7 a0 13 := mo_f_F hf h0 (by decide) (by decide)
    have vv_H17_2 : mo_v G H17 a0 2 = mo_v G H7 a0 2 := mo_v_F (r := 48) hB.1 hf h0 rfl ro_48 (by decide) (by decide)
    have vv_H17_3 : mo_v G H17 a0 3 = mo_v G H7 a0 3 := mo_v_F (r := 49) hB.1 hf h0 rfl ro_49 (by decide) (by decide)
    have vv_H17_4 : mo_v G H17 a0 4 = mo_v G H7 a0 4 := mo_v_F (r := 50) hB.1 hf h0 rfl ro_50 (by decide) (by decide)
    have vv_H17_31 : mo_v G H17 a0 31 = mo_v G H7 a0 31 := mo_v_F (r := 61) hB.1 hf h0 rfl ro_61 (by decide) (by decide)
    have w17_0 := tk_m6
    refine W.eq (g2 := F0 m 20 ls [.int x40]) rfl ?_
    exact th_iret hC hH hr hlocks rfl hB.2.1 ⟨_, rfl, hB.1, hB.2.2, hR, (by omega)⟩ dX12_row_20

set_option maxHeartbeats 4000000 in
set_option maxRecDepth 100000 in
theorem c_X12_reads_n (l : Launch) (G : th_G) (Γ : th_Ga) (H0 : Heap) (hI : th_I G Γ H0) (hR : th_RC G Γ H0) (a0 : Nat) (h0 : Γ a0 = (46, 0)) (o : Int) (k1 : mo_wd G H0 a0 o) : Met l yX12_reads (.code yX12_reads cX12_reads 2 (some FieldType.boolean) :: th_tb) ({ frames := 73, cells := 0, slots := 0, locals := 2205 } : Room) (th_P [.ref a0] G H0) (th_Q (fun (v : Option Value) (H1 : Heap) => ∃ r : Int32, v = some (.int r) ∧ 0 ≤ r.toInt ∧ r.toInt ≤ 1 ∧ th_I G Γ H1 ∧ th_F G Γ [(46, 19), (46, 20), (46, 21), (46, 18), (57, 0), (56, 0), (55, 0), (46, 13), (46, 14)] H0 H1 ∧ th_RC G Γ H1 ∧ (r.toInt = 1 → mo_text o (mo_cr G H1 a0) (mo_f G H1 a0 18)) ∧ (mo_f G H1 a0 13 = 0)) G) 0 0 (fun q => G.2.2 ≤ q) := by
  refine th_met RX12 (by decide) rfl (Nat.le_of_ble_eq_true rfl) ?_
  intro p e s m below meth c hC hH hr hlocks hnm ls hl
  have hx := hC.1
  have hb := hC.2.1
  have hB : th_B G Γ Γ [(46, 19), (46, 20), (46, 21), (46, 18), (57, 0), (56, 0), (55, 0), (46, 13), (46, 14)] H0 H0 [] := ⟨hI, va_S.rf, th_F_rf⟩
  have hl : lv_has ls 2 [(0, .ref a0)] := hl
  refine lv_aload_n hx hb dX12_reads_0 rfl (lv_at hl 0 rfl) ?_
  refine lv_aload_n hx hb dX12_reads_1 rfl (lv_at hl 0 rfl) ?_
  refine th_getI (j := 13) hC cf_X12 hB.1 h0 ro_46 rfl rfl kf_X12_169 dX12_reads_2 (fun x1 mx1 lx1 ux1 => ?_)
  have fg2 : mo_f G H0 a0 13 = x1.toInt := mo_fat mx1
  refine th_call (th_runV (As := [.int x1]) (rest := []) hC mf_X12_splits km_X12_259 im_X12_splits se_X12_splits (c_X12_splits l G Γ H0 hB.1 hR a0 h0 x1 (by omega) (by omega)) rfl rfl ⟨Nat.le_of_ble_eq_true rfl, Nat.le_of_ble_eq_true rfl⟩ hB.1 h0 ro_46 rfl rfl hl.1 rfl (Nat.le_of_ble_eq_true rfl) dX12_reads_5 ⟨Nat.le_refl _, Nat.le_refl _⟩) hB.2.1 (fun v5 H5 locs hp hz hS => ?_)
  obtain ⟨rfl, hI1, hf, hR, z5_0⟩ := hp
  have hB := th_B_c hB hI1 hS hf (by decide)
  have fv_H5_19 : mo_f G H5 a0 19 = mo_f G H0 a0 19 := mo_f_F hf h0 (by decide) (by decide)
  have fv_H5_21 : mo_f G H5 a0 21 = mo_f G H0 a0 21 := mo_f_F hf h0 (by decide) (by decide)
  have fv_H5_13 : mo_f G H5 a0 13 = mo_f G H0 a0 13 := mo_f_F hf h0 (by decide) (by decide)
  refine W.eq (g2 := F0 m 8 ls []) rfl ?_
  refine lv_aload_n hx hb dX12_reads_8 rfl (lv_at hl 0 rfl) ?_
  refine lv_iconst (v := 0) hx hb dX12_reads_9 (by decide) ?_
  refine th_put hC cf_X12 hB h0 (Or.inl h0) ro_46 rfl (j := 13) rfl (th_sI (by decide) (by decide)) (by decide) rfl rfl rfl kf_X12_169 dX12_reads_10 (fun H10 locs hB hf hst10 => ?_)
  have hR := th_RC_F hB.1 hR hf (th_T_s h0 ro_46 hst10) (by decide)
  have fv_H10_18 : mo_f G H10 a0 18 = mo_f G H5 a0 18 := mo_f_F hf h0 (by decide) (by decide)
  have fv_H10_19 : mo_f G H10 a0 19 = mo_f G H5 a0 19 := mo_f_F hf h0 (by decide) (by decide)
  have fv_H10_21 : mo_f G H10 a0 21 = mo_f G H5 a0 21 := mo_f_F hf h0 (by decide) (by decide)
  have vv_H10_15 : mo_v G H10 a0 15 = mo_v G H5 a0 15 := mo_v_F (r := 55) hB.1 hf h0 rfl ro_55 (by decide) (by decide)
  have fp10 : mo_f G H10 a0 13 = 0 := (mo_f_St hst10).trans tk_0
  refine lv_aload_n hx hb dX12_reads_13 rfl (lv_at hl 0 rfl) ?_
  refine lv_iconst (v := 0) hx hb dX12_reads_14 (by decide) ?_
  refine th_put hC cf_X12 hB h0 (Or.inl h0) ro_46 rfl (j := 19) rfl (th_sI (by decide) (by decide)) (by decide) rfl rfl rfl kf_X12_196 dX12_reads_15 (fun H15 locs hB hf hst15 => ?_)
  have hR := th_RC_F hB.1 hR hf (th_T_s h0 ro_46 hst15) (by decide)
  have fv_H15_18 : mo_f G H15 a0 18 = mo_f G H10 a0 18 := mo_f_F hf h0 (by decide) (by decide)
  have fv_H15_21 : mo_f G H15 a0 21 = mo_f G H10 a0 21 := mo_f_F hf h0 (by decide) (by decide)
  have fv_H15_13 : mo_f G H15 a0 13 = mo_f G H10 a0 13 := mo_f_F hf h0 (by decide) (by decide)
  have vv_H15_15 : mo_v G H15 a0 15 = mo_v G H10 a0 15 := mo_v_F (r := 55) hB.1 hf h0 rfl ro_55 (by decide) (by decide)
  have fp15 : mo_f G H15 a0 19 = 0 := (mo_f_St hst15).trans tk_0
  have mm3 := hst15.2.1
  refine lv_aload_n hx hb dX12_reads_18 rfl (lv_at hl 0 rfl) ?_
  refine lv_iconst (v := 0) hx hb dX12_reads_19 (by decide) ?_
  refine th_put hC cf_X12 hB h0 (Or.inl h0) ro_46 rfl (j := 20) rfl th_sIa (by decide) rfl rfl rfl kf_X12_205 dX12_reads_20 (fun H20 locs hB hf hst20 => ?_)
  have mm4 := (th_F_o hf h0 ro_46 (j := 19) (by decide) (by decide)).trans mm3
  have hR := th_RC_F hB.1 hR hf (th_T_s h0 ro_46 hst20) (by decide)
  have fv_H20_18 : mo_f G H20 a0 18 = mo_f G H15 a0 18 := mo_f_F hf h0 (by decide) (by decide)
  have fv_H20_19 : mo_f G H20 a0 19 = mo_f G H15 a0 19 := mo_f_F hf h0 (by decide) (by decide)
  have fv_H20_21 : mo_f G H20 a0 21 = mo_f G H15 a0 21 := mo_f_F hf h0 (by decide) (by decide)
  have fv_H20_13 : mo_f G H20 a0 13 = mo_f G H15 a0 13 := mo_f_F hf h0 (by decide) (by decide)
  have vv_H20_15 : mo_v G H20 a0 15 = mo_v G H15 a0 15 := mo_v_F (r := 55) hB.1 hf h0 rfl ro_55 (by decide) (by decide)
  refine lv_aload_n hx hb dX12_reads_23 rfl (lv_at hl 0 rfl) ?_
  refine lv_iconst (v := (-1)) hx hb dX12_reads_24 (by decide) ?_
  refine th_put hC cf_X12 hB h0 (Or.inl h0) ro_46 rfl (j := 21) rfl (th_sI (by decide) (by decide)) (by decide) rfl rfl rfl kf_X12_189 dX12_reads_25 (fun H25 locs hB hf hst25 => ?_)
  have mm5 := (th_F_o hf h0 ro_46 (j := 19) (by decide) (by decide)).trans mm4
  have hR := th_RC_F hB.1 hR hf (th_T_s h0 ro_46 hst25) (by decide)
  have fv_H25_18 : mo_f G H25 a0 18 = mo_f G H20 a0 18 := mo_f_F hf h0 (by decide) (by decide)
  have fv_H25_19 : mo_f G H25 a0 19 = mo_f G H20 a0 19 := mo_f_F hf h0 (by decide) (by decide)
  have fv_H25_13 : mo_f G H25 a0 13 = mo_f G H20 a0 13 := mo_f_F hf h0 (by decide) (by decide)
  have vv_H25_15 : mo_v G H25 a0 15 = mo_v G H20 a0 15 := mo_v_F (r := 55) hB.1 hf h0 rfl ro_55 (by decide) (by decide)
  have fp25 : mo_f G H25 a0 21 = (-1) := (mo_f_St hst25).trans tk_m1
  have mm6 := hst25.2.1
  obtain ⟨cv, ecv⟩ : ∃ cv, mo_cr G H25 a0 = cv := ⟨_, rfl⟩
  have cr_H25 : mo_rd G H25 a0 cv := ⟨ecv, by rw [vv_H25_15, vv_H20_15, vv_H15_15, vv_H10_15, show mo_f G H25 a0 18 = mo_f G H5 a0 18 by omega]; exact z5_0⟩
  have t18 := mo_f_rg hB.1 h0 (j := 18) rfl
  obtain ⟨n0, en0⟩ : ∃ n : Int, n = mo_f G H25 a0 18 := ⟨_, rfl⟩
  refine lv_aload_n hx hb dX12_reads_28 rfl (lv_at hl 0 rfl) ?_
  refine th_call (th_runV (As := []) (rest := []) hC mf_X12_readOne km_X12_262 im_X12_readOne se_X12_readOne (c_X12_readOne l G Γ H25 hB.1 hR a0 h0 o cv 0 cr_H25 ⟨by omega, by omega, by omega⟩ (mo_wd_F hB.2.2 h0 (by decide) k1)) rfl rfl ⟨Nat.le_of_ble_eq_true rfl, Nat.le_of_ble_eq_true rfl⟩ hB.1 h0 ro_46 rfl rfl hl.1 rfl (Nat.le_of_ble_eq_true rfl) dX12_reads_29 ⟨Nat.le_refl _, Nat.le_refl _⟩) hB.2.1 (fun v29 H29 locs hp hz hS => ?_)
  obtain ⟨rfl, hI1, hf, hR, z29_0, z29_1⟩ := hp
  have hB := th_B_c hB hI1 hS hf (by decide)
  have fv_H29_18 : mo_f G H29 a0 18 = mo_f G H25 a0 18 := mo_f_F hf h0 (by decide) (by decide)
  have fv_H29_13 : mo_f G H29 a0 13 = mo_f G H25 a0 13 := mo_f_F hf h0 (by decide) (by decide)
  have vv_H29_15 : mo_v G H29 a0 15 = mo_v G H25 a0 15 := mo_v_F (r := 55) hB.1 hf h0 rfl ro_55 (by decide) (by decide)
  refine W.eq (g2 := F0 m 32 ls []) rfl ?_
  have cr_H29 : mo_rd G H29 a0 cv := mo_rd_F hB.1 hf h0 (by decide) cr_H25
  refine lv_iconst (v := 1) hx hb dX12_reads_32 (by decide) ?_
  refine lv_istore_n (lv' := [(1, .int 1), (0, .ref a0)]) hx hb dX12_reads_33 rfl hl (by decide) rfl (fun ls hl => ?_)
  have lp34 : ∀ (n34 : Nat) (H34 : Heap) (locs : List Loc) (ls : Array Slot) (j34_1 : Int32), th_B G Γ Γ [(46, 19), (46, 20), (46, 21), (46, 18), (57, 0), (56, 0), (55, 0), (46, 13), (46, 14)] H0 H34 locs → th_RC G Γ H34 → lv_has ls 2 [(0, .ref a0), (1, .int j34_1)] → mo_rd G H34 a0 cv → (∃ m : Int, mo_f G H34 a0 19 = m ∧ 0 ≤ m ∧ m ≤ n0 ∧ (mo_f G H34 a0 21 = -1 → mo_pre cv (mo_clause o cv) (mo_is 159) 0 m)) → mo_f G H34 a0 18 = n0 → mo_f G H34 a0 13 = 0 → n0 - mo_f G H34 a0 19 + 1 ≤ (n34 : Int) → W p l e ({ frames := 73, cells := 0, slots := 0, locals := 2205 } : Room) s m ([.ref a0] : List Value).toArray below meth c H34 locs 0 0 (MQ below (th_Q (fun (v : Option Value) (H1 : Heap) => ∃ r : Int32, v = some (.int r) ∧ 0 ≤ r.toInt ∧ r.toInt ≤ 1 ∧ th_I G Γ H1 ∧ th_F G Γ [(46, 19), (46, 20), (46, 21), (46, 18), (57, 0), (56, 0), (55, 0), (46, 13), (46, 14)] H0 H1 ∧ th_RC G Γ H1 ∧ (r.toInt = 1 → mo_text o (mo_cr G H1 a0) (mo_f G H1 a0 18)) ∧ (mo_f G H1 a0 13 = 0)) G) ([.ref a0] : List Value).toArray s 0 0 (fun q => G.2.2 ≤ q)) (F0 m 34 ls []) := by
    intro n34
    induction n34 with
    | zero => intro H34 locs ls j34_1 hB hR hl g34_0 g34_1 g34_2 g34_3 hm34; exact absurd hm34 (by have := mo_lpr g34_1; omega)
    | succ n34 ih34 =>
      intro H34 locs ls j34_1 hB hR hl g34_0 g34_1 g34_2 g34_3 hm34
      have lj34_1 := ti_lo j34_1; have uj34_1 := ti_hi j34_1
      have hm34 : n0 - mo_f G H34 a0 19 + 1 ≤ (n34 : Int) + 1 := by omega
      refine lv_aload_n hx hb dX12_reads_34 rfl (lv_at hl 0 rfl) ?_
      have cr_H34 := g34_0
      obtain ⟨m5, a5, b5, c5, e5⟩ := g34_1
      have n18 := g34_2
      refine lv_bipush (v := 59) hx hb dX12_reads_35 (by decide) ?_
      refine th_call (th_runS (As := [.int 59]) (rest := [.ref a0]) hC mf_X12_sign km_X12_240 st_X12_sign (c_X12_sign l G Γ H34 hB.1 59 (by decide) (by decide)) rfl rfl ⟨Nat.le_of_ble_eq_true rfl, Nat.le_of_ble_eq_true rfl⟩ rfl hl.1 rfl (Nat.le_of_ble_eq_true rfl) dX12_reads_37 ⟨Nat.le_refl _, Nat.le_refl _⟩) hB.2.1 (fun v37 H37 locs hp hz hS => ?_)
      obtain ⟨x7, rfl, lx7, ux7, q37_0, rfl⟩ := hp
      have hB := th_B_s hB hS
      have w37_0 := tk_59
      refine W.eq (g2 := F0 m 40 ls [.int x7, .ref a0]) rfl ?_
      refine th_call (th_runV (As := [.int x7]) (rest := []) hC mf_X12_takes0 km_X12_199 im_X12_takes0 se_X12_takes0 (c_X12_takes0 l G Γ H34 hB.1 hR a0 h0 x7 (by omega) cv m5 cr_H34 ⟨by omega, by omega, by omega⟩) rfl rfl ⟨Nat.le_of_ble_eq_true rfl, Nat.le_of_ble_eq_true rfl⟩ hB.1 h0 ro_46 rfl rfl hl.1 rfl (Nat.le_of_ble_eq_true rfl) dX12_reads_40 ⟨Nat.le_refl _, Nat.le_refl _⟩) hB.2.1 (fun v40 H40 locs hp hz hS => ?_)
      obtain ⟨x8, rfl, lx8, ux8, hI1, hf, hR, z40_0, z40_1, z40_2⟩ := hp
      have hB := th_B_c hB hI1 hS hf (by decide)
      have fv_H40_18 : mo_f G H40 a0 18 = mo_f G H34 a0 18 := mo_f_F hf h0 (by decide) (by decide)
      have fv_H40_21 : mo_f G H40 a0 21 = mo_f G H34 a0 21 := mo_f_F hf h0 (by decide) (by decide)
      have fv_H40_13 : mo_f G H40 a0 13 = mo_f G H34 a0 13 := mo_f_F hf h0 (by decide) (by decide)
      have vv_H40_15 : mo_v G H40 a0 15 = mo_v G H34 a0 15 := mo_v_F (r := 55) hB.1 hf h0 rfl ro_55 (by decide) (by decide)
      refine W.eq (g2 := F0 m 43 ls [.int x8]) rfl ?_
      have cr_H40 : mo_rd G H40 a0 cv := mo_rd_F hB.1 hf h0 (by decide) cr_H34
      have tks := tk_59
      refine tr_if_eq (tgt := 73) hx hb dX12_reads_43 (by decide) (Eq.refl _) (fun c43 => ?_) (fun c43 => ?_)
      · specialize z40_1 (by omega); clear z40_0
        refine lv_aload_n hx hb dX12_reads_73 rfl (lv_at hl 0 rfl) ?_
        refine th_call (th_runV (As := []) (rest := []) hC mf_X12_fine km_X12_192 im_X12_fine se_X12_fine (c_X12_fine l G Γ H40 hB.1 a0 h0) rfl rfl ⟨Nat.le_of_ble_eq_true rfl, Nat.le_of_ble_eq_true rfl⟩ hB.1 h0 ro_46 rfl rfl hl.1 rfl (Nat.le_of_ble_eq_true rfl) dX12_reads_74 ⟨Nat.le_refl _, Nat.le_refl _⟩) hB.2.1 (fun v74 H74 locs hp hz hS => ?_)
        obtain ⟨x9, rfl, lx9, ux9, q74_0, q74_1, rfl⟩ := hp
        have hB := th_B_s hB hS
        refine W.eq (g2 := F0 m 77 ls [.int x9]) rfl ?_
        refine tr_if_eq (tgt := 95) hx hb dX12_reads_77 (by decide) (Eq.refl _) (fun c77 => ?_) (fun c77 => ?_)
        · specialize q74_1 (by omega); clear q74_0
          refine lv_aload_n hx hb dX12_reads_95 rfl (lv_at hl 0 rfl) ?_
          refine lv_aload_n hx hb dX12_reads_96 rfl (lv_at hl 0 rfl) ?_
          refine th_getI (j := 21) hC cf_X12 hB.1 h0 ro_46 rfl rfl kf_X12_189 dX12_reads_97 (fun x10 mx10 lx10 ux10 => ?_)
          have fg11 : mo_f G H40 a0 21 = x10.toInt := mo_fat mx10
          refine th_put hC cf_X12 hB h0 (Or.inl h0) ro_46 rfl (j := 14) rfl th_sIa (by decide) rfl rfl rfl kf_X12_51 dX12_reads_100 (fun H100 locs hB hf hst100 => ?_)
          have hR := th_RC_F hB.1 hR hf (th_T_s h0 ro_46 hst100) (by decide)
          have fv_H100_18 : mo_f G H100 a0 18 = mo_f G H40 a0 18 := mo_f_F hf h0 (by decide) (by decide)
          have fv_H100_19 : mo_f G H100 a0 19 = mo_f G H40 a0 19 := mo_f_F hf h0 (by decide) (by decide)
          have fv_H100_21 : mo_f G H100 a0 21 = mo_f G H40 a0 21 := mo_f_F hf h0 (by decide) (by decide)
          have fv_H100_13 : mo_f G H100 a0 13 = mo_f G H40 a0 13 := mo_f_F hf h0 (by decide) (by decide)
          have vv_H100_15 : mo_v G H100 a0 15 = mo_v G H40 a0 15 := mo_v_F (r := 55) hB.1 hf h0 rfl ro_55 (by decide) (by decide)
          have hf100x := hf
          refine lv_aload_n hx hb dX12_reads_103 rfl (lv_at hl 0 rfl) ?_
          refine th_call (th_runV (As := []) (rest := []) hC mf_X12_fine km_X12_192 im_X12_fine se_X12_fine (c_X12_fine l G Γ H100 hB.1 a0 h0) rfl rfl ⟨Nat.le_of_ble_eq_true rfl, Nat.le_of_ble_eq_true rfl⟩ hB.1 h0 ro_46 rfl rfl hl.1 rfl (Nat.le_of_ble_eq_true rfl) dX12_reads_104 ⟨Nat.le_refl _, Nat.le_refl _⟩) hB.2.1 (fun v104 H104 locs hp hz hS => ?_)
          obtain ⟨x12, rfl, lx12, ux12, q104_0, q104_1, rfl⟩ := hp
          have hB := th_B_s hB hS
          refine W.eq (g2 := F0 m 107 ls [.int x12]) rfl ?_
          exact th_iret hC hH hr hlocks (th_nb (by omega) (by omega)) hB.2.1 ⟨_, rfl, by omega, by omega, hB.1, hB.2.2, hR, fun h9 => absurd (q104_0 h9) (by omega), (by omega)⟩ dX12_reads_107
        · specialize q74_0 (by omega); clear q74_1
          refine lv_aload_n hx hb dX12_reads_80 rfl (lv_at hl 0 rfl) ?_
          refine th_getI (j := 19) hC cf_X12 hB.1 h0 ro_46 rfl rfl kf_X12_196 dX12_reads_81 (fun x13 mx13 lx13 ux13 => ?_)
          have fg14 : mo_f G H40 a0 19 = x13.toInt := mo_fat mx13
          refine lv_aload_n hx hb dX12_reads_84 rfl (lv_at hl 0 rfl) ?_
          refine th_getI (j := 18) hC cf_X12 hB.1 h0 ro_46 rfl rfl kf_X12_175 dX12_reads_85 (fun x15 mx15 lx15 ux15 => ?_)
          have fg16 : mo_f G H40 a0 18 = x15.toInt := mo_fat mx15
          refine tr_icmp_ge (tgt := 95) hx hb dX12_reads_88 (by decide) (Eq.refl _) (Eq.refl _) (fun c88 => ?_) (fun c88 => ?_)
          · refine lv_aload_n hx hb dX12_reads_95 rfl (lv_at hl 0 rfl) ?_
            refine lv_aload_n hx hb dX12_reads_96 rfl (lv_at hl 0 rfl) ?_
            refine th_getI (j := 21) hC cf_X12 hB.1 h0 ro_46 rfl rfl kf_X12_189 dX12_reads_97 (fun x17 mx17 lx17 ux17 => ?_)
            have fg18 : mo_f G H40 a0 21 = x17.toInt := mo_fat mx17
            refine th_put hC cf_X12 hB h0 (Or.inl h0) ro_46 rfl (j := 14) rfl th_sIa (by decide) rfl rfl rfl kf_X12_51 dX12_reads_100 (fun H100 locs hB hf hst100 => ?_)
            have hR := th_RC_F hB.1 hR hf (th_T_s h0 ro_46 hst100) (by decide)
            have fv_H100_18 : mo_f G H100 a0 18 = mo_f G H40 a0 18 := mo_f_F hf h0 (by decide) (by decide)
            have fv_H100_19 : mo_f G H100 a0 19 = mo_f G H40 a0 19 := mo_f_F hf h0 (by decide) (by decide)
            have fv_H100_21 : mo_f G H100 a0 21 = mo_f G H40 a0 21 := mo_f_F hf h0 (by decide) (by decide)
            have fv_H100_13 : mo_f G H100 a0 13 = mo_f G H40 a0 13 := mo_f_F hf h0 (by decide) (by decide)
            have vv_H100_15 : mo_v G H100 a0 15 = mo_v G H40 a0 15 := mo_v_F (r := 55) hB.1 hf h0 rfl ro_55 (by decide) (by decide)
            have hf100x := hf
            refine lv_aload_n hx hb dX12_reads_103 rfl (lv_at hl 0 rfl) ?_
            refine th_call (th_runV (As := []) (rest := []) hC mf_X12_fine km_X12_192 im_X12_fine se_X12_fine (c_X12_fine l G Γ H100 hB.1 a0 h0) rfl rfl ⟨Nat.le_of_ble_eq_true rfl, Nat.le_of_ble_eq_true rfl⟩ hB.1 h0 ro_46 rfl rfl hl.1 rfl (Nat.le_of_ble_eq_true rfl) dX12_reads_104 ⟨Nat.le_refl _, Nat.le_refl _⟩) hB.2.1 (fun v104 H104 locs hp hz hS => ?_)
            obtain ⟨x19, rfl, lx19, ux19, q104_0, q104_1, rfl⟩ := hp
            have hB := th_B_s hB hS
            refine W.eq (g2 := F0 m 107 ls [.int x19]) rfl ?_
            exact th_iret hC hH hr hlocks (th_nb (by omega) (by omega)) hB.2.1 ⟨_, rfl, by omega, by omega, hB.1, hB.2.2, hR, fun h9 => by have q1 := q104_0 h9; obtain ⟨q2, q3⟩ := z40_1; have q4 := mo_pre_e (e5 (by omega)) (show ¬ (cv m5 = 159) by have q5 := q3 (by omega); omega); have q6 := mo_rd_F hB.1 hf100x h0 (by decide) cr_H40; rw [q6.1, show mo_f G H100 a0 18 = m5 by omega]; exact q4, (by omega)⟩ dX12_reads_107
          · refine lv_aload_n hx hb dX12_reads_91 rfl (lv_at hl 0 rfl) ?_
            refine th_call (th_runV (As := []) (rest := []) hC mf_X12_faults km_X12_202 im_X12_faults se_X12_faults (c_X12_faults l G Γ H40 hB.1 hR a0 h0) rfl rfl ⟨Nat.le_of_ble_eq_true rfl, Nat.le_of_ble_eq_true rfl⟩ hB.1 h0 ro_46 rfl rfl hl.1 rfl (Nat.le_of_ble_eq_true rfl) dX12_reads_92 ⟨Nat.le_refl _, Nat.le_refl _⟩) hB.2.1 (fun v92 H92 locs hp hz hS => ?_)
            obtain ⟨rfl, hI1, hf, hR, z92_0⟩ := hp
            have hB := th_B_c hB hI1 hS hf (by decide)
            have fv_H92_18 : mo_f G H92 a0 18 = mo_f G H40 a0 18 := mo_f_F hf h0 (by decide) (by decide)
            have fv_H92_19 : mo_f G H92 a0 19 = mo_f G H40 a0 19 := mo_f_F hf h0 (by decide) (by decide)
            have fv_H92_13 : mo_f G H92 a0 13 = mo_f G H40 a0 13 := mo_f_F hf h0 (by decide) (by decide)
            have vv_H92_15 : mo_v G H92 a0 15 = mo_v G H40 a0 15 := mo_v_F (r := 55) hB.1 hf h0 rfl ro_55 (by decide) (by decide)
            refine W.eq (g2 := F0 m 95 ls []) rfl ?_
            refine lv_aload_n hx hb dX12_reads_95 rfl (lv_at hl 0 rfl) ?_
            refine lv_aload_n hx hb dX12_reads_96 rfl (lv_at hl 0 rfl) ?_
            refine th_getI (j := 21) hC cf_X12 hB.1 h0 ro_46 rfl rfl kf_X12_189 dX12_reads_97 (fun x20 mx20 lx20 ux20 => ?_)
            have fg21 : mo_f G H92 a0 21 = x20.toInt := mo_fat mx20
            refine th_put hC cf_X12 hB h0 (Or.inl h0) ro_46 rfl (j := 14) rfl th_sIa (by decide) rfl rfl rfl kf_X12_51 dX12_reads_100 (fun H100 locs hB hf hst100 => ?_)
            have hR := th_RC_F hB.1 hR hf (th_T_s h0 ro_46 hst100) (by decide)
            have fv_H100_18 : mo_f G H100 a0 18 = mo_f G H92 a0 18 := mo_f_F hf h0 (by decide) (by decide)
            have fv_H100_19 : mo_f G H100 a0 19 = mo_f G H92 a0 19 := mo_f_F hf h0 (by decide) (by decide)
            have fv_H100_21 : mo_f G H100 a0 21 = mo_f G H92 a0 21 := mo_f_F hf h0 (by decide) (by decide)
            have fv_H100_13 : mo_f G H100 a0 13 = mo_f G H92 a0 13 := mo_f_F hf h0 (by decide) (by decide)
            have vv_H100_15 : mo_v G H100 a0 15 = mo_v G H92 a0 15 := mo_v_F (r := 55) hB.1 hf h0 rfl ro_55 (by decide) (by decide)
            have hf100x := hf
            refine lv_aload_n hx hb dX12_reads_103 rfl (lv_at hl 0 rfl) ?_
            refine th_call (th_runV (As := []) (rest := []) hC mf_X12_fine km_X12_192 im_X12_fine se_X12_fine (c_X12_fine l G Γ H100 hB.1 a0 h0) rfl rfl ⟨Nat.le_of_ble_eq_true rfl, Nat.le_of_ble_eq_true rfl⟩ hB.1 h0 ro_46 rfl rfl hl.1 rfl (Nat.le_of_ble_eq_true rfl) dX12_reads_104 ⟨Nat.le_refl _, Nat.le_refl _⟩) hB.2.1 (fun v104 H104 locs hp hz hS => ?_)
            obtain ⟨x22, rfl, lx22, ux22, q104_0, q104_1, rfl⟩ := hp
            have hB := th_B_s hB hS
            refine W.eq (g2 := F0 m 107 ls [.int x22]) rfl ?_
            exact th_iret hC hH hr hlocks (th_nb (by omega) (by omega)) hB.2.1 ⟨_, rfl, by omega, by omega, hB.1, hB.2.2, hR, fun h9 => absurd (q104_0 h9) (by omega), (by omega)⟩ dX12_reads_107
      · specialize z40_0 (by omega); clear z40_1
        refine lv_iload_n hx hb dX12_reads_46 rfl (lv_at hl 1 rfl) ?_
        refine lv_bipush (v := 12) hx hb dX12_reads_47 (by decide) ?_
        refine tr_icmp_ne (tgt := 56) hx hb dX12_reads_49 (by decide) (Eq.refl _) tk_12 (fun c49 => ?_) (fun c49 => ?_)
        · refine lv_aload_n hx hb dX12_reads_56 rfl (lv_at hl 0 rfl) ?_
          refine th_call (th_runV (As := []) (rest := []) hC mf_X12_fine km_X12_192 im_X12_fine se_X12_fine (c_X12_fine l G Γ H40 hB.1 a0 h0) rfl rfl ⟨Nat.le_of_ble_eq_true rfl, Nat.le_of_ble_eq_true rfl⟩ hB.1 h0 ro_46 rfl rfl hl.1 rfl (Nat.le_of_ble_eq_true rfl) dX12_reads_57 ⟨Nat.le_refl _, Nat.le_refl _⟩) hB.2.1 (fun v57 H57 locs hp hz hS => ?_)
          obtain ⟨x23, rfl, lx23, ux23, q57_0, q57_1, rfl⟩ := hp
          have hB := th_B_s hB hS
          refine W.eq (g2 := F0 m 60 ls [.int x23]) rfl ?_
          refine tr_if_eq (tgt := 67) hx hb dX12_reads_60 (by decide) (Eq.refl _) (fun c60 => ?_) (fun c60 => ?_)
          · specialize q57_1 (by omega); clear q57_0
            refine tr_iincA (fun x24 => [(1, .int x24), (0, .ref a0)]) hx hb dX12_reads_67 hl (k := 1) rfl (by decide) (fun _ => rfl) (fun x24 ls hl => ?_)
            have lx24 := ti_lo x24; have ux24 := ti_hi x24
            refine lv_goto (tgt := 34) hx hb dX12_reads_70 (by decide) ?_
            exact ih34 H40 locs ls x24 hB hR (lv_sub hl [1, 0] rfl) cr_H40 ⟨_, rfl, by omega, by omega, fun h9 => absurd h9 (by omega)⟩ (by omega) (by omega) (by omega)
          · specialize q57_0 (by omega); clear q57_1
            refine lv_aload_n hx hb dX12_reads_63 rfl (lv_at hl 0 rfl) ?_
            refine th_call (th_runV (As := []) (rest := []) hC mf_X12_readOne km_X12_262 im_X12_readOne se_X12_readOne (c_X12_readOne l G Γ H40 hB.1 hR a0 h0 o cv (m5 + 1) cr_H40 ⟨by omega, by omega, by omega⟩ (mo_wd_F hB.2.2 h0 (by decide) k1)) rfl rfl ⟨Nat.le_of_ble_eq_true rfl, Nat.le_of_ble_eq_true rfl⟩ hB.1 h0 ro_46 rfl rfl hl.1 rfl (Nat.le_of_ble_eq_true rfl) dX12_reads_64 ⟨Nat.le_refl _, Nat.le_refl _⟩) hB.2.1 (fun v64 H64 locs hp hz hS => ?_)
            obtain ⟨rfl, hI1, hf, hR, z64_0, z64_1⟩ := hp
            have hB := th_B_c hB hI1 hS hf (by decide)
            have fv_H64_18 : mo_f G H64 a0 18 = mo_f G H40 a0 18 := mo_f_F hf h0 (by decide) (by decide)
            have fv_H64_13 : mo_f G H64 a0 13 = mo_f G H40 a0 13 := mo_f_F hf h0 (by decide) (by decide)
            have vv_H64_15 : mo_v G H64 a0 15 = mo_v G H40 a0 15 := mo_v_F (r := 55) hB.1 hf h0 rfl ro_55 (by decide) (by decide)
            refine W.eq (g2 := F0 m 67 ls []) rfl ?_
            have cr_H64 : mo_rd G H64 a0 cv := mo_rd_F hB.1 hf h0 (by decide) cr_H40
            refine tr_iincA (fun x25 => [(1, .int x25), (0, .ref a0)]) hx hb dX12_reads_67 hl (k := 1) rfl (by decide) (fun _ => rfl) (fun x25 ls hl => ?_)
            have lx25 := ti_lo x25; have ux25 := ti_hi x25
            refine lv_goto (tgt := 34) hx hb dX12_reads_70 (by decide) ?_
            exact ih34 H64 locs ls x25 hB hR (lv_sub hl [1, 0] rfl) cr_H64 ⟨_, rfl, by omega, by omega, fun h9 => by obtain ⟨q1, q2⟩ := z64_1 h9; obtain ⟨q3, q4, q5⟩ := z40_0; exact mo_pre_s (e5 (by omega)) (show cv m5 = 159 by omega) q2⟩ (by omega) (by omega) (by omega)
        · refine lv_aload_n hx hb dX12_reads_52 rfl (lv_at hl 0 rfl) ?_
          refine th_call (th_runV (As := []) (rest := []) hC mf_X12_faults km_X12_202 im_X12_faults se_X12_faults (c_X12_faults l G Γ H40 hB.1 hR a0 h0) rfl rfl ⟨Nat.le_of_ble_eq_true rfl, Nat.le_of_ble_eq_true rfl⟩ hB.1 h0 ro_46 rfl rfl hl.1 rfl (Nat.le_of_ble_eq_true rfl) dX12_reads_53 ⟨Nat.le_refl _, Nat.le_refl _⟩) hB.2.1 (fun v53 H53 locs hp hz hS => ?_)
          obtain ⟨rfl, hI1, hf, hR, z53_0⟩ := hp
          have hB := th_B_c hB hI1 hS hf (by decide)
          have fv_H53_18 : mo_f G H53 a0 18 = mo_f G H40 a0 18 := mo_f_F hf h0 (by decide) (by decide)
          have fv_H53_19 : mo_f G H53 a0 19 = mo_f G H40 a0 19 := mo_f_F hf h0 (by decide) (by decide)
          have fv_H53_13 : mo_f G H53 a0 13 = mo_f G H40 a0 13 := mo_f_F hf h0 (by decide) (by decide)
          have vv_H53_15 : mo_v G H53 a0 15 = mo_v G H40 a0 15 := mo_v_F (r := 55) hB.1 hf h0 rfl ro_55 (by decide) (by decide)
          refine W.eq (g2 := F0 m 56 ls []) rfl ?_
          have cr_H53 : mo_rd G H53 a0 cv := mo_rd_F hB.1 hf h0 (by decide) cr_H40
          refine lv_aload_n hx hb dX12_reads_56 rfl (lv_at hl 0 rfl) ?_
          refine th_call (th_runV (As := []) (rest := []) hC mf_X12_fine km_X12_192 im_X12_fine se_X12_fine (c_X12_fine l G Γ H53 hB.1 a0 h0) rfl rfl ⟨Nat.le_of_ble_eq_true rfl, Nat.le_of_ble_eq_true rfl⟩ hB.1 h0 ro_46 rfl rfl hl.1 rfl (Nat.le_of_ble_eq_true rfl) dX12_reads_57 ⟨Nat.le_refl _, Nat.le_refl _⟩) hB.2.1 (fun v57 H57 locs hp hz hS => ?_)
          obtain ⟨x26, rfl, lx26, ux26, q57_0, q57_1, rfl⟩ := hp
          have hB := th_B_s hB hS
          refine W.eq (g2 := F0 m 60 ls [.int x26]) rfl ?_
          refine tr_if_eq (tgt := 67) hx hb dX12_reads_60 (by decide) (Eq.refl _) (fun c60 => ?_) (fun c60 => ?_)
          · specialize q57_1 (by omega); clear q57_0
            refine tr_iinc (fun x27 => [(1, .int x27), (0, .ref a0)]) hx hb dX12_reads_67 hl (k := 1) rfl (Eq.refl _) tk_1 (by omega) (by omega) (by decide) (fun _ => rfl) (fun x27 ls ex27 hl => ?_)
            refine lv_goto (tgt := 34) hx hb dX12_reads_70 (by decide) ?_
            exact ih34 H53 locs ls x27 hB hR (lv_sub hl [1, 0] rfl) cr_H53 ⟨_, rfl, by omega, by omega, fun h9 => absurd h9 (by omega)⟩ (by omega) (by omega) (by omega)
          · specialize q57_0 (by omega); clear q57_1
            refine lv_aload_n hx hb dX12_reads_63 rfl (lv_at hl 0 rfl) ?_
            refine th_call (th_runV (As := []) (rest := []) hC mf_X12_readOne km_X12_262 im_X12_readOne se_X12_readOne (c_X12_readOne l G Γ H53 hB.1 hR a0 h0 o cv (m5 + 1) cr_H53 ⟨by omega, by omega, by omega⟩ (mo_wd_F hB.2.2 h0 (by decide) k1)) rfl rfl ⟨Nat.le_of_ble_eq_true rfl, Nat.le_of_ble_eq_true rfl⟩ hB.1 h0 ro_46 rfl rfl hl.1 rfl (Nat.le_of_ble_eq_true rfl) dX12_reads_64 ⟨Nat.le_refl _, Nat.le_refl _⟩) hB.2.1 (fun v64 H64 locs hp hz hS => ?_)
            obtain ⟨rfl, hI1, hf, hR, z64_0, z64_1⟩ := hp
            have hB := th_B_c hB hI1 hS hf (by decide)
            have fv_H64_18 : mo_f G H64 a0 18 = mo_f G H53 a0 18 := mo_f_F hf h0 (by decide) (by decide)
            have fv_H64_13 : mo_f G H64 a0 13 = mo_f G H53 a0 13 := mo_f_F hf h0 (by decide) (by decide)
            have vv_H64_15 : mo_v G H64 a0 15 = mo_v G H53 a0 15 := mo_v_F (r := 55) hB.1 hf h0 rfl ro_55 (by decide) (by decide)
            refine W.eq (g2 := F0 m 67 ls []) rfl ?_
            have cr_H64 : mo_rd G H64 a0 cv := mo_rd_F hB.1 hf h0 (by decide) cr_H53
            refine tr_iinc (fun x28 => [(1, .int x28), (0, .ref a0)]) hx hb dX12_reads_67 hl (k := 1) rfl (Eq.refl _) tk_1 (by omega) (by omega) (by decide) (fun _ => rfl) (fun x28 ls ex28 hl => ?_)
            refine lv_goto (tgt := 34) hx hb dX12_reads_70 (by decide) ?_
            exact ih34 H64 locs ls x28 hB hR (lv_sub hl [1, 0] rfl) cr_H64 ⟨_, rfl, by omega, by omega, fun h9 => by obtain ⟨q1, q2⟩ := z64_1 h9; obtain ⟨q3, q4, q5⟩ := z40_0; exact mo_pre_s (e5 (by omega)) (show cv m5 = 159 by omega) q2⟩ (by omega) (by omega) (by omega)
  exact lp34 (n0 - mo_f G H29 a0 19 + 1).toNat H29 locs ls 1 hB hR (lv_sub hl [1, 0] rfl) cr_H29 ⟨_, rfl, by omega, by omega, fun h9 => mo_pre_0 (z29_1 h9).2⟩ (by have w0 := tk_1; omega) (by have w0 := tk_1; omega) (by have w0 := tk_1; omega)

set_option maxHeartbeats 4000000 in
set_option maxRecDepth 100000 in
theorem c_X12_readsAs_n (l : Launch) (G : th_G) (Γ : th_Ga) (H0 : Heap) (hI : th_I G Γ H0) (hR : th_RC G Γ H0) (a0 : Nat) (h0 : Γ a0 = (46, 0)) (p1 : Int32) (f1 : 0 ≤ p1.toInt) (g1 : p1.toInt ≤ 1) : Met l yX12_readsAs (.code yX12_readsAs cX12_readsAs 2 (some FieldType.boolean) :: th_tb) ({ frames := 74, cells := 0, slots := 0, locals := 2226 } : Room) (th_P [.ref a0, .int p1] G H0) (th_Q (fun (v : Option Value) (H1 : Heap) => ∃ r : Int32, v = some (.int r) ∧ 0 ≤ r.toInt ∧ r.toInt ≤ 1 ∧ th_I G Γ H1 ∧ th_F G Γ [(46, 19), (46, 20), (46, 21), (46, 18), (57, 0), (56, 0), (55, 0), (46, 13), (46, 14), (46, 8), (46, 9), (46, 10)] H0 H1 ∧ th_RC G Γ H1 ∧ (r.toInt = 1 → mo_text p1.toInt (mo_cr G H1 a0) (mo_f G H1 a0 18)) ∧ (mo_f G H1 a0 13 = 0)) G) 0 0 (fun q => G.2.2 ≤ q) := by
  refine th_met RX12 (by decide) rfl (Nat.le_of_ble_eq_true rfl) ?_
  intro p e s m below meth c hC hH hr hlocks hnm ls hl
  have hx := hC.1
  have hb := hC.2.1
  have hB : th_B G Γ Γ [(46, 19), (46, 20), (46, 21), (46, 18), (57, 0), (56, 0), (55, 0), (46, 13), (46, 14), (46, 8), (46, 9), (46, 10)] H0 H0 [] := ⟨hI, va_S.rf, th_F_rf⟩
  have hl : lv_has ls 2 [(0, .ref a0), (1, .int p1)] := hl
  have lp1 := ti_lo p1; have up1 := ti_hi p1
  refine lv_aload_n hx hb dX12_readsAs_0 rfl (lv_at hl 0 rfl) ?_
  refine lv_iload_n hx hb dX12_readsAs_1 rfl (lv_at hl 1 rfl) ?_
  refine th_put hC cf_X12 hB h0 (Or.inl h0) ro_46 rfl (j := 10) rfl (th_sI (by omega) (by omega)) (by decide) rfl (th_nb (by omega) (by omega)) (th_fb (by omega) (by omega)) kf_X12_224 dX12_readsAs_2 (fun H2 locs hB hf hst2 => ?_)
  have hR := th_RC_F hB.1 hR hf (th_T_s h0 ro_46 hst2) (by decide)
  have fv_H2_8 : mo_f G H2 a0 8 = mo_f G H0 a0 8 := mo_f_F hf h0 (by decide) (by decide)
  have fv_H2_9 : mo_f G H2 a0 9 = mo_f G H0 a0 9 := mo_f_F hf h0 (by decide) (by decide)
  have fv_H2_13 : mo_f G H2 a0 13 = mo_f G H0 a0 13 := mo_f_F hf h0 (by decide) (by decide)
  have fp2 : mo_f G H2 a0 10 = p1.toInt := mo_f_St hst2
  refine lv_aload_n hx hb dX12_readsAs_5 rfl (lv_at hl 0 rfl) ?_
  refine lv_iload_n hx hb dX12_readsAs_6 rfl (lv_at hl 1 rfl) ?_
  refine tr_if_eq (tgt := 15) hx hb dX12_readsAs_7 (by decide) (Eq.refl _) (fun c7 => ?_) (fun c7 => ?_)
  · refine lv_bipush (v := 8) hx hb dX12_readsAs_15 (by decide) ?_
    refine th_put hC cf_X12 hB h0 (Or.inl h0) ro_46 rfl (j := 8) rfl th_sIa (by decide) rfl rfl rfl kf_X12_250 dX12_readsAs_17 (fun H17 locs hB hf hst17 => ?_)
    have hR := th_RC_F hB.1 hR hf (th_T_s h0 ro_46 hst17) (by decide)
    have fv_H17_9 : mo_f G H17 a0 9 = mo_f G H2 a0 9 := mo_f_F hf h0 (by decide) (by decide)
    have fv_H17_10 : mo_f G H17 a0 10 = mo_f G H2 a0 10 := mo_f_F hf h0 (by decide) (by decide)
    have fv_H17_13 : mo_f G H17 a0 13 = mo_f G H2 a0 13 := mo_f_F hf h0 (by decide) (by decide)
    have fp17 : mo_f G H17 a0 8 = 8 := (mo_f_St hst17).trans tk_8
    refine lv_aload_n hx hb dX12_readsAs_20 rfl (lv_at hl 0 rfl) ?_
    refine lv_iload_n hx hb dX12_readsAs_21 rfl (lv_at hl 1 rfl) ?_
    refine tr_if_eq (tgt := 30) hx hb dX12_readsAs_22 (by decide) (Eq.refl _) (fun c22 => ?_) (fun c22 => ?_)
    · refine lv_bipush (v := 15) hx hb dX12_readsAs_30 (by decide) ?_
      refine th_put hC cf_X12 hB h0 (Or.inl h0) ro_46 rfl (j := 9) rfl th_sIa (by decide) rfl rfl rfl kf_X12_253 dX12_readsAs_32 (fun H32 locs hB hf hst32 => ?_)
      have hR := th_RC_F hB.1 hR hf (th_T_s h0 ro_46 hst32) (by decide)
      have fv_H32_8 : mo_f G H32 a0 8 = mo_f G H17 a0 8 := mo_f_F hf h0 (by decide) (by decide)
      have fv_H32_10 : mo_f G H32 a0 10 = mo_f G H17 a0 10 := mo_f_F hf h0 (by decide) (by decide)
      have fv_H32_13 : mo_f G H32 a0 13 = mo_f G H17 a0 13 := mo_f_F hf h0 (by decide) (by decide)
      have fp32 : mo_f G H32 a0 9 = 15 := (mo_f_St hst32).trans tk_15
      refine lv_aload_n hx hb dX12_readsAs_35 rfl (lv_at hl 0 rfl) ?_
      refine th_call (th_runV (As := []) (rest := []) hC mf_X12_reads km_X12_265 im_X12_reads se_X12_reads (c_X12_reads_n l G Γ H32 hB.1 hR a0 h0 p1.toInt (show mo_wd G H32 a0 p1.toInt from ⟨by omega, by omega⟩)) rfl rfl ⟨Nat.le_of_ble_eq_true rfl, Nat.le_of_ble_eq_true rfl⟩ hB.1 h0 ro_46 rfl rfl hl.1 rfl (Nat.le_of_ble_eq_true rfl) dX12_readsAs_36 ⟨Nat.le_refl _, Nat.le_refl _⟩) hB.2.1 (fun v36 H36 locs hp hz hS => ?_)
      obtain ⟨x1, rfl, lx1, ux1, hI1, hf, hR, z36_0, z36_1⟩ := hp
      have hB := th_B_c hB hI1 hS hf (by decide)
      have fv_H36_8 : mo_f G H36 a0 8 = mo_f G H32 a0 8 := mo_f_F hf h0 (by decide) (by decide)
      have fv_H36_9 : mo_f G H36 a0 9 = mo_f G H32 a0 9 := mo_f_F hf h0 (by decide) (by decide)
      have fv_H36_10 : mo_f G H36 a0 10 = mo_f G H32 a0 10 := mo_f_F hf h0 (by decide) (by decide)
      refine W.eq (g2 := F0 m 39 ls [.int x1]) rfl ?_
      exact th_iret hC hH hr hlocks (th_nb (by omega) (by omega)) hB.2.1 ⟨_, rfl, by omega, by omega, hB.1, hB.2.2, hR, z36_0, (by omega)⟩ dX12_readsAs_39
    · exfalso; omega
  · refine lv_bipush (v := 14) hx hb dX12_readsAs_10 (by decide) ?_
    refine lv_goto (tgt := 17) hx hb dX12_readsAs_12 (by decide) ?_
    refine th_put hC cf_X12 hB h0 (Or.inl h0) ro_46 rfl (j := 8) rfl th_sIa (by decide) rfl rfl rfl kf_X12_250 dX12_readsAs_17 (fun H17 locs hB hf hst17 => ?_)
    have hR := th_RC_F hB.1 hR hf (th_T_s h0 ro_46 hst17) (by decide)
    have fv_H17_9 : mo_f G H17 a0 9 = mo_f G H2 a0 9 := mo_f_F hf h0 (by decide) (by decide)
    have fv_H17_10 : mo_f G H17 a0 10 = mo_f G H2 a0 10 := mo_f_F hf h0 (by decide) (by decide)
    have fv_H17_13 : mo_f G H17 a0 13 = mo_f G H2 a0 13 := mo_f_F hf h0 (by decide) (by decide)
    have fp17 : mo_f G H17 a0 8 = 14 := (mo_f_St hst17).trans tk_14
    refine lv_aload_n hx hb dX12_readsAs_20 rfl (lv_at hl 0 rfl) ?_
    refine lv_iload_n hx hb dX12_readsAs_21 rfl (lv_at hl 1 rfl) ?_
    refine tr_if_eq (tgt := 30) hx hb dX12_readsAs_22 (by decide) (Eq.refl _) (fun c22 => ?_) (fun c22 => ?_)
    · exfalso; omega
    · refine lv_bipush (v := 20) hx hb dX12_readsAs_25 (by decide) ?_
      refine lv_goto (tgt := 32) hx hb dX12_readsAs_27 (by decide) ?_
      refine th_put hC cf_X12 hB h0 (Or.inl h0) ro_46 rfl (j := 9) rfl th_sIa (by decide) rfl rfl rfl kf_X12_253 dX12_readsAs_32 (fun H32 locs hB hf hst32 => ?_)
      have hR := th_RC_F hB.1 hR hf (th_T_s h0 ro_46 hst32) (by decide)
      have fv_H32_8 : mo_f G H32 a0 8 = mo_f G H17 a0 8 := mo_f_F hf h0 (by decide) (by decide)
      have fv_H32_10 : mo_f G H32 a0 10 = mo_f G H17 a0 10 := mo_f_F hf h0 (by decide) (by decide)
      have fv_H32_13 : mo_f G H32 a0 13 = mo_f G H17 a0 13 := mo_f_F hf h0 (by decide) (by decide)
      have fp32 : mo_f G H32 a0 9 = 20 := (mo_f_St hst32).trans tk_20
      refine lv_aload_n hx hb dX12_readsAs_35 rfl (lv_at hl 0 rfl) ?_
      refine th_call (th_runV (As := []) (rest := []) hC mf_X12_reads km_X12_265 im_X12_reads se_X12_reads (c_X12_reads_n l G Γ H32 hB.1 hR a0 h0 p1.toInt (show mo_wd G H32 a0 p1.toInt from ⟨by omega, by omega⟩)) rfl rfl ⟨Nat.le_of_ble_eq_true rfl, Nat.le_of_ble_eq_true rfl⟩ hB.1 h0 ro_46 rfl rfl hl.1 rfl (Nat.le_of_ble_eq_true rfl) dX12_readsAs_36 ⟨Nat.le_refl _, Nat.le_refl _⟩) hB.2.1 (fun v36 H36 locs hp hz hS => ?_)
      obtain ⟨x2, rfl, lx2, ux2, hI1, hf, hR, z36_0, z36_1⟩ := hp
      have hB := th_B_c hB hI1 hS hf (by decide)
      have fv_H36_8 : mo_f G H36 a0 8 = mo_f G H32 a0 8 := mo_f_F hf h0 (by decide) (by decide)
      have fv_H36_9 : mo_f G H36 a0 9 = mo_f G H32 a0 9 := mo_f_F hf h0 (by decide) (by decide)
      have fv_H36_10 : mo_f G H36 a0 10 = mo_f G H32 a0 10 := mo_f_F hf h0 (by decide) (by decide)
      refine W.eq (g2 := F0 m 39 ls [.int x2]) rfl ?_
      exact th_iret hC hH hr hlocks (th_nb (by omega) (by omega)) hB.2.1 ⟨_, rfl, by omega, by omega, hB.1, hB.2.2, hR, z36_0, (by omega)⟩ dX12_readsAs_39

set_option maxHeartbeats 4000000 in
set_option maxRecDepth 100000 in
theorem c_X12_law_n (l : Launch) (G : th_G) (Γ : th_Ga) (H0 : Heap) (hI : th_I G Γ H0) (a0 : Nat) (h0 : Γ a0 = (46, 0)) (hR : th_RN a0 G Γ H0) : Met l yX12_law (.code yX12_law cX12_law 1 (some FieldType.int) :: th_tb) ({ frames := 75, cells := 0, slots := 0, locals := 2247 } : Room) (th_P [.ref a0] G H0) (th_Q (fun (v : Option Value) (H1 : Heap) => ∃ r : Int32, v = some (.int r) ∧ th_I G Γ H1 ∧ th_F G Γ [(47, 0), (46, 0), (48, 0), (46, 19), (46, 20), (46, 21), (46, 18), (57, 0), (56, 0), (55, 0), (46, 13), (46, 14), (46, 8), (46, 9), (46, 10)] H0 H1 ∧ th_RN a0 G Γ H1 ∧ (mo_f G H1 a0 13 = 0)) G) 0 0 (fun q => G.2.2 ≤ q) := by
  refine th_met RX12 (by decide) rfl (Nat.le_of_ble_eq_true rfl) ?_
  intro p e s m below meth c hC hH hr hlocks hnm ls hl
  have hx := hC.1
  have hb := hC.2.1
  have hB : th_B G Γ Γ [(47, 0), (46, 0), (48, 0), (46, 19), (46, 20), (46, 21), (46, 18), (57, 0), (56, 0), (55, 0), (46, 13), (46, 14), (46, 8), (46, 9), (46, 10)] H0 H0 [] := ⟨hI, va_S.rf, th_F_rf⟩
  have hl : lv_has ls 1 [(0, .ref a0)] := hl
  refine lv_aload_n hx hb dX12_law_0 rfl (lv_at hl 0 rfl) ?_
  refine th_getO (j := 2) (r2 := 48) hC cf_X12 hB.1 h0 ro_46 rfl rfl kf_X12_28 dX12_law_1 (fun b1 mb1 hb1 => ?_)
  refine lv_bipush (v := 71) hx hb dX12_law_4 (by decide) ?_
  refine th_ialdF hC hB.1 hb1 ro_48 rfl tk_71 (by omega) (by omega) (ek_told (by omega) (by omega)) dX12_law_6 (fun x2 mx2 lx2 ux2 => ?_)
  have vgx2 : mo_v G H0 a0 2 71 = x2.toInt := by rw [show (71 : Int) = 71 by omega]; exact mo_vat mb1 mx2 (by omega)
  refine lv_bipush (v := 6) hx hb dX12_law_7 (by decide) ?_
  refine tr_icmp_ne (tgt := 24) hx hb dX12_law_9 (by decide) (Eq.refl _) tk_6 (fun c9 => ?_) (fun c9 => ?_)
  · refine lv_aload_n hx hb dX12_law_24 rfl (lv_at hl 0 rfl) ?_
    refine lv_iconst (v := 0) hx hb dX12_law_25 (by decide) ?_
    refine th_call (th_runV (As := [.int 0]) (rest := []) hC mf_X12_readsAs km_X12_268 im_X12_readsAs se_X12_readsAs (c_X12_readsAs_n l G Γ H0 hB.1 hR.1 a0 h0 0 (by decide) (by decide)) rfl rfl ⟨Nat.le_of_ble_eq_true rfl, Nat.le_of_ble_eq_true rfl⟩ hB.1 h0 ro_46 rfl rfl hl.1 rfl (Nat.le_of_ble_eq_true rfl) dX12_law_26 ⟨Nat.le_refl _, Nat.le_refl _⟩) hB.2.1 (fun v26 H26 locs hp hz hS => ?_)
    have hRD := hR
    obtain ⟨x3, rfl, lx3, ux3, hI1, hf, hR, z26_0, z26_1⟩ := hp
    have hR := th_RN_c hR hRD hI1 h0 hf (by decide)
    have hB := th_B_c hB hI1 hS hf (by decide)
    have mm4 := (th_F_o hf h0 ro_46 (j := 2) (by decide) (by decide)).trans mb1
    have fv_H26_33 : mo_f G H26 a0 33 = mo_f G H0 a0 33 := mo_f_F hf h0 (by decide) (by decide)
    have vv_H26_2 : mo_v G H26 a0 2 = mo_v G H0 a0 2 := mo_v_F (r := 48) hB.1 hf h0 rfl ro_48 (by decide) (by decide)
    have vv_H26_3 : mo_v G H26 a0 3 = mo_v G H0 a0 3 := mo_v_F (r := 49) hB.1 hf h0 rfl ro_49 (by decide) (by decide)
    have vv_H26_4 : mo_v G H26 a0 4 = mo_v G H0 a0 4 := mo_v_F (r := 50) hB.1 hf h0 rfl ro_50 (by decide) (by decide)
    have vv_H26_31 : mo_v G H26 a0 31 = mo_v G H0 a0 31 := mo_v_F (r := 61) hB.1 hf h0 rfl ro_61 (by decide) (by decide)
    refine W.eq (g2 := F0 m 29 ls [.int x3]) rfl ?_
    have hB26 := hB
    refine tr_if_ne (tgt := 39) hx hb dX12_law_29 (by decide) (Eq.refl _) (fun c29 => ?_) (fun c29 => ?_)
    · refine lv_aload_n hx hb dX12_law_39 rfl (lv_at hl 0 rfl) ?_
      refine lv_aload_n hx hb dX12_law_40 rfl (lv_at hl 0 rfl) ?_
      refine th_getK hC cf_X12 hB.1 h0 ro_46 rfl (j := 2) (by decide) mm4 kf_X12_28 dX12_law_41 ?_
      refine lv_bipush (v := 71) hx hb dX12_law_44 (by decide) ?_
      refine th_ialdF hC hB.1 hb1 ro_48 rfl tk_71 (by omega) (by omega) (ek_told (by omega) (by omega)) dX12_law_46 (fun x5 mx5 lx5 ux5 => ?_)
      have vgx5 : mo_v G H26 a0 2 71 = x5.toInt := by rw [show (71 : Int) = 71 by omega]; exact mo_vat mm4 mx5 (by omega)
      have e46 : mo_v G H26 a0 2 71 = mo_v G H0 a0 2 71 := by rw [vv_H26_2]
      refine th_call (th_runV (As := [.int x5]) (rest := []) hC mf_X12_lays km_X12_272 im_X12_lays se_X12_lays (c_X12_lays l G Γ H26 hB.1 hR.1 a0 h0 x5 (by omega) (by omega)) rfl rfl ⟨Nat.le_of_ble_eq_true rfl, Nat.le_of_ble_eq_true rfl⟩ hB.1 h0 ro_46 rfl rfl hl.1 rfl (Nat.le_of_ble_eq_true rfl) dX12_law_47 ⟨Nat.le_refl _, Nat.le_refl _⟩) hB.2.1 (fun v47 H47 locs hp hz hS => ?_)
      have hRD := hR
      obtain ⟨rfl, hI1, hf, hR, z47_0⟩ := hp
      have hRc47 := hR
      have hR := hRD
      have hRC := hRc47
      have hB := th_B_c hB hI1 hS hf (by decide)
      have mm6 := (th_F_o hf h0 ro_46 (j := 2) (by decide) (by decide)).trans mm4
      have fv_H47_33 : mo_f G H47 a0 33 = mo_f G H26 a0 33 := mo_f_F hf h0 (by decide) (by decide)
      have fv_H47_13 : mo_f G H47 a0 13 = mo_f G H26 a0 13 := mo_f_F hf h0 (by decide) (by decide)
      have vv_H47_3 : mo_v G H47 a0 3 = mo_v G H26 a0 3 := mo_v_F (r := 49) hB.1 hf h0 rfl ro_49 (by decide) (by decide)
      have vv_H47_4 : mo_v G H47 a0 4 = mo_v G H26 a0 4 := mo_v_F (r := 50) hB.1 hf h0 rfl ro_50 (by decide) (by decide)
      have vv_H47_31 : mo_v G H47 a0 31 = mo_v G H26 a0 31 := mo_v_F (r := 61) hB.1 hf h0 rfl ro_61 (by decide) (by decide)
      refine W.eq (g2 := F0 m 50 ls []) rfl ?_
      refine lv_aload_n hx hb dX12_law_50 rfl (lv_at hl 0 rfl) ?_
      refine th_getK hC cf_X12 hB.1 h0 ro_46 rfl (j := 2) (by decide) mm6 kf_X12_28 dX12_law_51 ?_
      refine lv_bipush (v := 71) hx hb dX12_law_54 (by decide) ?_
      refine lv_dup2_11 hx hb dX12_law_56 rfl rfl ?_
      refine th_ialdF hC hB.1 hb1 ro_48 rfl tk_71 (by omega) (by omega) (ek_told (by omega) (by omega)) dX12_law_57 (fun x7 mx7 lx7 ux7 => ?_)
      have vgx7 : mo_v G H47 a0 2 71 = x7.toInt := by rw [show (71 : Int) = 71 by omega]; exact mo_vat mm6 mx7 (by omega)
      have e57 : x7.toInt = x5.toInt := by have q9 := vgx7; rw [z47_0 71 (by omega)] at q9; unfold mo_ly at q9; rw [if_neg (by omega), if_neg (by omega)] at q9; omega
      refine lv_iconst (v := 1) hx hb dX12_law_58 (by decide) ?_
      refine tr_iadd hx hb dX12_law_59 (Eq.refl _) tk_1 (by omega) (by omega) (fun x8 ex8 => ?_)
      refine th_iastF hC hB hb1 (Or.inl hb1) ro_48 rfl (by decide) tk_71 (by omega) (by omega) (by rw [(ek_told (by omega) (by omega))]; exact (th_sI (by omega) (by omega))) dX12_law_60 (fun H60 locs hB hf60 hst60 => ?_)
      have hf := hf60
      have mm9 := (th_F_o hf h0 ro_46 (j := 2) (by decide) (by decide)).trans mm6
      have hRC := th_RC_F hB.1 hRC hf (th_T_s hb1 ro_48 hst60) (by decide)
      have fv_H60_33 : mo_f G H60 a0 33 = mo_f G H47 a0 33 := mo_f_F hf h0 (by decide) (by decide)
      have fv_H60_13 : mo_f G H60 a0 13 = mo_f G H47 a0 13 := mo_f_F hf h0 (by decide) (by decide)
      have vv_H60_3 : mo_v G H60 a0 3 = mo_v G H47 a0 3 := mo_v_F (r := 49) hB.1 hf h0 rfl ro_49 (by decide) (by decide)
      have vv_H60_4 : mo_v G H60 a0 4 = mo_v G H47 a0 4 := mo_v_F (r := 50) hB.1 hf h0 rfl ro_50 (by decide) (by decide)
      have vv_H60_31 : mo_v G H60 a0 31 = mo_v G H47 a0 31 := mo_v_F (r := 61) hB.1 hf h0 rfl ro_61 (by decide) (by decide)
      have vs60 : mo_v G H60 a0 2 = mo_u (mo_v G H47 a0 2) 71 x8.toInt := by rw [show (71 : Int) = 71 by omega]; exact mo_v_st h0 hb1 (by decide) mm6 hst60 (by omega)
      have hR : th_RN a0 G Γ H60 := ⟨hRC, by rw [vv_H60_3, vv_H47_3, vv_H60_4, vv_H47_4, vv_H60_31, vv_H47_31, fv_H60_33, fv_H47_33]; exact mo_ok_law hR.2 vgx5 (by omega) (by omega) (mo_f_rg hB26.1 h0 (j := 18) rfl).2 (z26_0 (by omega)) (fun z z0 z1 => by rw [vs60]; by_cases q9 : z = 71; rw [mo_us q9, if_pos q9]; omega; rw [mo_un q9, if_neg q9]; exact z47_0 z z1)⟩
      refine lv_aload_n hx hb dX12_law_61 rfl (lv_at hl 0 rfl) ?_
      refine lv_aload_n hx hb dX12_law_62 rfl (lv_at hl 0 rfl) ?_
      refine th_getK hC cf_X12 hB.1 h0 ro_46 rfl (j := 2) (by decide) mm9 kf_X12_28 dX12_law_63 ?_
      refine lv_bipush (v := 71) hx hb dX12_law_66 (by decide) ?_
      refine th_ialdF hC hB.1 hb1 ro_48 rfl tk_71 (by omega) (by omega) (ek_told (by omega) (by omega)) dX12_law_68 (fun x10 mx10 lx10 ux10 => ?_)
      have vgx10 : mo_v G H60 a0 2 71 = x10.toInt := by rw [show (71 : Int) = 71 by omega]; exact mo_vat mm9 mx10 (by omega)
      refine lv_iconst (v := 1) hx hb dX12_law_69 (by decide) ?_
      refine tr_isub hx hb dX12_law_70 (Eq.refl _) tk_1 (by omega) (by omega) (fun x11 ex11 => ?_)
      refine th_call (th_runV (As := [.int x11]) (rest := []) hC mf_X12_good km_X12_14 im_X12_good se_X12_good (c_X12_good l G Γ H60 hB.1 hR.1 a0 h0 x11) rfl rfl ⟨Nat.le_of_ble_eq_true rfl, Nat.le_of_ble_eq_true rfl⟩ hB.1 h0 ro_46 rfl rfl hl.1 rfl (Nat.le_of_ble_eq_true rfl) dX12_law_71 ⟨Nat.le_refl _, Nat.le_refl _⟩) hB.2.1 (fun v71 H71 locs hp hz hS => ?_)
      have hRD := hR
      obtain ⟨x12, rfl, q71_0, hI1, hf, hR⟩ := hp
      have hR := th_RN_c hR hRD hI1 h0 hf (by decide)
      have hB := th_B_c hB hI1 hS hf (by decide)
      have mm13 := (th_F_o hf h0 ro_46 (j := 2) (by decide) (by decide)).trans mm9
      have fv_H71_33 : mo_f G H71 a0 33 = mo_f G H60 a0 33 := mo_f_F hf h0 (by decide) (by decide)
      have fv_H71_13 : mo_f G H71 a0 13 = mo_f G H60 a0 13 := mo_f_F hf h0 (by decide) (by decide)
      have vv_H71_2 : mo_v G H71 a0 2 = mo_v G H60 a0 2 := mo_v_F (r := 48) hB.1 hf h0 rfl ro_48 (by decide) (by decide)
      have vv_H71_3 : mo_v G H71 a0 3 = mo_v G H60 a0 3 := mo_v_F (r := 49) hB.1 hf h0 rfl ro_49 (by decide) (by decide)
      have vv_H71_4 : mo_v G H71 a0 4 = mo_v G H60 a0 4 := mo_v_F (r := 50) hB.1 hf h0 rfl ro_50 (by decide) (by decide)
      have vv_H71_31 : mo_v G H71 a0 31 = mo_v G H60 a0 31 := mo_v_F (r := 61) hB.1 hf h0 rfl ro_61 (by decide) (by decide)
      refine W.eq (g2 := F0 m 74 ls [.int x12]) rfl ?_
      exact th_iret hC hH hr hlocks rfl hB.2.1 ⟨_, rfl, hB.1, hB.2.2, hR, (by omega)⟩ dX12_law_74
    · refine lv_aload_n hx hb dX12_law_32 rfl (lv_at hl 0 rfl) ?_
      refine lv_bipush (v := (-6)) hx hb dX12_law_33 (by decide) ?_
      refine th_call (th_runV (As := [.int (-6)]) (rest := []) hC mf_X12_refuses km_X12_109 im_X12_refuses se_X12_refuses (c_X12_refuses l G Γ H26 hB.1 hR.1 a0 h0 (-6) (by decide) (by decide)) rfl rfl ⟨Nat.le_of_ble_eq_true rfl, Nat.le_of_ble_eq_true rfl⟩ hB.1 h0 ro_46 rfl rfl hl.1 rfl (Nat.le_of_ble_eq_true rfl) dX12_law_35 ⟨Nat.le_refl _, Nat.le_refl _⟩) hB.2.1 (fun v35 H35 locs hp hz hS => ?_)
      have hRD := hR
      obtain ⟨x14, rfl, q35_0, hI1, hf, hR⟩ := hp
      have hR := th_RN_c hR hRD hI1 h0 hf (by decide)
      have hB := th_B_c hB hI1 hS hf (by decide)
      have mm15 := (th_F_o hf h0 ro_46 (j := 2) (by decide) (by decide)).trans mm4
      have fv_H35_33 : mo_f G H35 a0 33 = mo_f G H26 a0 33 := mo_f_F hf h0 (by decide) (by decide)
      have fv_H35_13 : mo_f G H35 a0 13 = mo_f G H26 a0 13 := mo_f_F hf h0 (by decide) (by decide)
      have vv_H35_2 : mo_v G H35 a0 2 = mo_v G H26 a0 2 := mo_v_F (r := 48) hB.1 hf h0 rfl ro_48 (by decide) (by decide)
      have vv_H35_3 : mo_v G H35 a0 3 = mo_v G H26 a0 3 := mo_v_F (r := 49) hB.1 hf h0 rfl ro_49 (by decide) (by decide)
      have vv_H35_4 : mo_v G H35 a0 4 = mo_v G H26 a0 4 := mo_v_F (r := 50) hB.1 hf h0 rfl ro_50 (by decide) (by decide)
      have vv_H35_31 : mo_v G H35 a0 31 = mo_v G H26 a0 31 := mo_v_F (r := 61) hB.1 hf h0 rfl ro_61 (by decide) (by decide)
      have w35_0 := tk_m6
      refine W.eq (g2 := F0 m 38 ls [.int x14]) rfl ?_
      exact th_iret hC hH hr hlocks rfl hB.2.1 ⟨_, rfl, hB.1, hB.2.2, hR, (by omega)⟩ dX12_law_38
  · refine lv_aload_n hx hb dX12_law_12 rfl (lv_at hl 0 rfl) ?_
    refine lv_iconst (v := 0) hx hb dX12_law_13 (by decide) ?_
    refine th_put hC cf_X12 hB h0 (Or.inl h0) ro_46 rfl (j := 13) rfl (th_sI (by decide) (by decide)) (by decide) rfl rfl rfl kf_X12_169 dX12_law_14 (fun H14 locs hB hf hst14 => ?_)
    have mm16 := (th_F_o hf h0 ro_46 (j := 2) (by decide) (by decide)).trans mb1
    have hR := th_RN_F hB.1 hR h0 hf (th_T_s h0 ro_46 hst14) (by decide)
    have fv_H14_33 : mo_f G H14 a0 33 = mo_f G H0 a0 33 := mo_f_F hf h0 (by decide) (by decide)
    have vv_H14_2 : mo_v G H14 a0 2 = mo_v G H0 a0 2 := mo_v_F (r := 48) hB.1 hf h0 rfl ro_48 (by decide) (by decide)
    have vv_H14_3 : mo_v G H14 a0 3 = mo_v G H0 a0 3 := mo_v_F (r := 49) hB.1 hf h0 rfl ro_49 (by decide) (by decide)
    have vv_H14_4 : mo_v G H14 a0 4 = mo_v G H0 a0 4 := mo_v_F (r := 50) hB.1 hf h0 rfl ro_50 (by decide) (by decide)
    have vv_H14_31 : mo_v G H14 a0 31 = mo_v G H0 a0 31 := mo_v_F (r := 61) hB.1 hf h0 rfl ro_61 (by decide) (by decide)
    have fp14 : mo_f G H14 a0 13 = 0 := (mo_f_St hst14).trans tk_0
    refine lv_aload_n hx hb dX12_law_17 rfl (lv_at hl 0 rfl) ?_
    refine lv_bipush (v := (-5)) hx hb dX12_law_18 (by decide) ?_
    refine th_call (th_runV (As := [.int (-5)]) (rest := []) hC mf_X12_refuses km_X12_109 im_X12_refuses se_X12_refuses (c_X12_refuses l G Γ H14 hB.1 hR.1 a0 h0 (-5) (by decide) (by decide)) rfl rfl ⟨Nat.le_of_ble_eq_true rfl, Nat.le_of_ble_eq_true rfl⟩ hB.1 h0 ro_46 rfl rfl hl.1 rfl (Nat.le_of_ble_eq_true rfl) dX12_law_20 ⟨Nat.le_refl _, Nat.le_refl _⟩) hB.2.1 (fun v20 H20 locs hp hz hS => ?_)
    have hRD := hR
    obtain ⟨x17, rfl, q20_0, hI1, hf, hR⟩ := hp
    have hR := th_RN_c hR hRD hI1 h0 hf (by decide)
    have hB := th_B_c hB hI1 hS hf (by decide)
    have mm18 := (th_F_o hf h0 ro_46 (j := 2) (by decide) (by decide)).trans mm16
    have fv_H20_33 : mo_f G H20 a0 33 = mo_f G H14 a0 33 := mo_f_F hf h0 (by decide) (by decide)
    have fv_H20_13 : mo_f G H20 a0 13 = mo_f G H14 a0 13 := mo_f_F hf h0 (by decide) (by decide)
    have vv_H20_2 : mo_v G H20 a0 2 = mo_v G H14 a0 2 := mo_v_F (r := 48) hB.1 hf h0 rfl ro_48 (by decide) (by decide)
    have vv_H20_3 : mo_v G H20 a0 3 = mo_v G H14 a0 3 := mo_v_F (r := 49) hB.1 hf h0 rfl ro_49 (by decide) (by decide)
    have vv_H20_4 : mo_v G H20 a0 4 = mo_v G H14 a0 4 := mo_v_F (r := 50) hB.1 hf h0 rfl ro_50 (by decide) (by decide)
    have vv_H20_31 : mo_v G H20 a0 31 = mo_v G H14 a0 31 := mo_v_F (r := 61) hB.1 hf h0 rfl ro_61 (by decide) (by decide)
    have w20_0 := tk_m5
    refine W.eq (g2 := F0 m 23 ls [.int x17]) rfl ?_
    exact th_iret hC hH hr hlocks rfl hB.2.1 ⟨_, rfl, hB.1, hB.2.2, hR, (by omega)⟩ dX12_law_23

set_option maxHeartbeats 4000000 in
set_option maxRecDepth 100000 in
theorem c_X12_orders_n (l : Launch) (G : th_G) (Γ : th_Ga) (H0 : Heap) (hI : th_I G Γ H0) (a0 : Nat) (h0 : Γ a0 = (46, 0)) (hR : th_RN a0 G Γ H0) : Met l yX12_orders (.code yX12_orders cX12_orders 5 (some FieldType.int) :: th_tb) ({ frames := 75, cells := 0, slots := 0, locals := 2247 } : Room) (th_P [.ref a0] G H0) (th_Q (fun (v : Option Value) (H1 : Heap) => ∃ r : Int32, v = some (.int r) ∧ th_I G Γ H1 ∧ th_F G Γ [(47, 0), (46, 0), (46, 19), (46, 20), (46, 21), (46, 18), (57, 0), (56, 0), (55, 0), (46, 13), (46, 14), (46, 8), (46, 9), (46, 10), (46, 22), (46, 24), (46, 23), (46, 25), (46, 49), (46, 50), (46, 51), (46, 52), (69, 0), (48, 0), (61, 0), (46, 33), (58, 0), (59, 0), (60, 0), (46, 28), (46, 27), (46, 48), (46, 47), (51, 0), (62, 0)] H0 H1 ∧ th_RN a0 G Γ H1 ∧ (mo_f G H1 a0 13 = 0)) G) 0 0 (fun q => G.2.2 ≤ q) := by
  refine th_met RX12 (by decide) rfl (Nat.le_of_ble_eq_true rfl) ?_
  intro p e s m below meth c hC hH hr hlocks hnm ls hl
  have hx := hC.1
  have hb := hC.2.1
  have hB : th_B G Γ Γ [(47, 0), (46, 0), (46, 19), (46, 20), (46, 21), (46, 18), (57, 0), (56, 0), (55, 0), (46, 13), (46, 14), (46, 8), (46, 9), (46, 10), (46, 22), (46, 24), (46, 23), (46, 25), (46, 49), (46, 50), (46, 51), (46, 52), (69, 0), (48, 0), (61, 0), (46, 33), (58, 0), (59, 0), (60, 0), (46, 28), (46, 27), (46, 48), (46, 47), (51, 0), (62, 0)] H0 H0 [] := ⟨hI, va_S.rf, th_F_rf⟩
  have hl : lv_has ls 5 [(0, .ref a0)] := hl
  refine lv_aload_n hx hb dX12_orders_0 rfl (lv_at hl 0 rfl) ?_
  refine lv_iconst (v := (-1)) hx hb dX12_orders_1 (by decide) ?_
  refine th_put hC cf_X12 hB h0 (Or.inl h0) ro_46 rfl (j := 47) rfl th_sIa (by decide) rfl rfl rfl kf_X12_97 dX12_orders_2 (fun H2 locs hB hf hst2 => ?_)
  have hR := th_RN_F hB.1 hR h0 hf (th_T_s h0 ro_46 hst2) (by decide)
  have fv_H2_18 : mo_f G H2 a0 18 = mo_f G H0 a0 18 := mo_f_F hf h0 (by decide) (by decide)
  have fv_H2_33 : mo_f G H2 a0 33 = mo_f G H0 a0 33 := mo_f_F hf h0 (by decide) (by decide)
  have fv_H2_48 : mo_f G H2 a0 48 = mo_f G H0 a0 48 := mo_f_F hf h0 (by decide) (by decide)
  have fv_H2_13 : mo_f G H2 a0 13 = mo_f G H0 a0 13 := mo_f_F hf h0 (by decide) (by decide)
  have vv_H2_2 : mo_v G H2 a0 2 = mo_v G H0 a0 2 := mo_v_F (r := 48) hB.1 hf h0 rfl ro_48 (by decide) (by decide)
  have vv_H2_3 : mo_v G H2 a0 3 = mo_v G H0 a0 3 := mo_v_F (r := 49) hB.1 hf h0 rfl ro_49 (by decide) (by decide)
  have vv_H2_4 : mo_v G H2 a0 4 = mo_v G H0 a0 4 := mo_v_F (r := 50) hB.1 hf h0 rfl ro_50 (by decide) (by decide)
  have vv_H2_31 : mo_v G H2 a0 31 = mo_v G H0 a0 31 := mo_v_F (r := 61) hB.1 hf h0 rfl ro_61 (by decide) (by decide)
  have vv_H2_5 : mo_v G H2 a0 5 = mo_v G H0 a0 5 := mo_v_F (r := 51) hB.1 hf h0 rfl ro_51 (by decide) (by decide)
  have vv_H2_15 : mo_v G H2 a0 15 = mo_v G H0 a0 15 := mo_v_F (r := 55) hB.1 hf h0 rfl ro_55 (by decide) (by decide)
  have vv_H2_32 : mo_v G H2 a0 32 = mo_v G H0 a0 32 := mo_v_F (r := 62) hB.1 hf h0 rfl ro_62 (by decide) (by decide)
  refine lv_aload_n hx hb dX12_orders_5 rfl (lv_at hl 0 rfl) ?_
  refine lv_iconst (v := 1) hx hb dX12_orders_6 (by decide) ?_
  refine th_call (th_runV (As := [.int 1]) (rest := []) hC mf_X12_readsAs km_X12_268 im_X12_readsAs se_X12_readsAs (c_X12_readsAs_n l G Γ H2 hB.1 hR.1 a0 h0 1 (by decide) (by decide)) rfl rfl ⟨Nat.le_of_ble_eq_true rfl, Nat.le_of_ble_eq_true rfl⟩ hB.1 h0 ro_46 rfl rfl hl.1 rfl (Nat.le_of_ble_eq_true rfl) dX12_orders_7 ⟨Nat.le_refl _, Nat.le_refl _⟩) hB.2.1 (fun v7 H7 locs hp hz hS => ?_)
  have hRD := hR
  obtain ⟨x1, rfl, lx1, ux1, hI1, hf, hR, z7_0, z7_1⟩ := hp
  have hR := th_RN_c hR hRD hI1 h0 hf (by decide)
  have hB := th_B_c hB hI1 hS hf (by decide)
  have fv_H7_33 : mo_f G H7 a0 33 = mo_f G H2 a0 33 := mo_f_F hf h0 (by decide) (by decide)
  have fv_H7_48 : mo_f G H7 a0 48 = mo_f G H2 a0 48 := mo_f_F hf h0 (by decide) (by decide)
  have vv_H7_2 : mo_v G H7 a0 2 = mo_v G H2 a0 2 := mo_v_F (r := 48) hB.1 hf h0 rfl ro_48 (by decide) (by decide)
  have vv_H7_3 : mo_v G H7 a0 3 = mo_v G H2 a0 3 := mo_v_F (r := 49) hB.1 hf h0 rfl ro_49 (by decide) (by decide)
  have vv_H7_4 : mo_v G H7 a0 4 = mo_v G H2 a0 4 := mo_v_F (r := 50) hB.1 hf h0 rfl ro_50 (by decide) (by decide)
  have vv_H7_31 : mo_v G H7 a0 31 = mo_v G H2 a0 31 := mo_v_F (r := 61) hB.1 hf h0 rfl ro_61 (by decide) (by decide)
  have vv_H7_5 : mo_v G H7 a0 5 = mo_v G H2 a0 5 := mo_v_F (r := 51) hB.1 hf h0 rfl ro_51 (by decide) (by decide)
  have vv_H7_32 : mo_v G H7 a0 32 = mo_v G H2 a0 32 := mo_v_F (r := 62) hB.1 hf h0 rfl ro_62 (by decide) (by decide)
  refine W.eq (g2 := F0 m 10 ls [.int x1]) rfl ?_
  refine tr_if_ne (tgt := 20) hx hb dX12_orders_10 (by decide) (Eq.refl _) (fun c10 => ?_) (fun c10 => ?_)
  · refine lv_aload_n hx hb dX12_orders_20 rfl (lv_at hl 0 rfl) ?_
    refine lv_iconst (v := 1) hx hb dX12_orders_21 (by decide) ?_
    refine th_call (th_runV (As := [.int 1]) (rest := []) hC mf_X12_laysAside km_X12_477 im_X12_laysAside se_X12_laysAside (c_X12_laysAside l G Γ H7 hB.1 hR.1 a0 h0 1 (by decide) (by decide)) rfl rfl ⟨Nat.le_of_ble_eq_true rfl, Nat.le_of_ble_eq_true rfl⟩ hB.1 h0 ro_46 rfl rfl hl.1 rfl (Nat.le_of_ble_eq_true rfl) dX12_orders_22 ⟨Nat.le_refl _, Nat.le_refl _⟩) hB.2.1 (fun v22 H22 locs hp hz hS => ?_)
    have hRD := hR
    obtain ⟨rfl, hI1, hf, hR, z22_0⟩ := hp
    have hR := th_RN_c hR hRD hI1 h0 hf (by decide)
    have hB := th_B_c hB hI1 hS hf (by decide)
    have fv_H22_18 : mo_f G H22 a0 18 = mo_f G H7 a0 18 := mo_f_F hf h0 (by decide) (by decide)
    have fv_H22_33 : mo_f G H22 a0 33 = mo_f G H7 a0 33 := mo_f_F hf h0 (by decide) (by decide)
    have fv_H22_48 : mo_f G H22 a0 48 = mo_f G H7 a0 48 := mo_f_F hf h0 (by decide) (by decide)
    have fv_H22_13 : mo_f G H22 a0 13 = mo_f G H7 a0 13 := mo_f_F hf h0 (by decide) (by decide)
    have vv_H22_2 : mo_v G H22 a0 2 = mo_v G H7 a0 2 := mo_v_F (r := 48) hB.1 hf h0 rfl ro_48 (by decide) (by decide)
    have vv_H22_3 : mo_v G H22 a0 3 = mo_v G H7 a0 3 := mo_v_F (r := 49) hB.1 hf h0 rfl ro_49 (by decide) (by decide)
    have vv_H22_4 : mo_v G H22 a0 4 = mo_v G H7 a0 4 := mo_v_F (r := 50) hB.1 hf h0 rfl ro_50 (by decide) (by decide)
    have vv_H22_31 : mo_v G H22 a0 31 = mo_v G H7 a0 31 := mo_v_F (r := 61) hB.1 hf h0 rfl ro_61 (by decide) (by decide)
    have vv_H22_15 : mo_v G H22 a0 15 = mo_v G H7 a0 15 := mo_v_F (r := 55) hB.1 hf h0 rfl ro_55 (by decide) (by decide)
    have vv_H22_32 : mo_v G H22 a0 32 = mo_v G H7 a0 32 := mo_v_F (r := 62) hB.1 hf h0 rfl ro_62 (by decide) (by decide)
    refine W.eq (g2 := F0 m 25 ls []) rfl ?_
    refine lv_iconst (v := 0) hx hb dX12_orders_25 (by decide) ?_
    refine lv_istore_n (lv' := [(1, .int 0), (0, .ref a0)]) hx hb dX12_orders_26 rfl hl (by decide) rfl (fun ls hl => ?_)
    have lp27 : ∀ (n27 : Nat) (H27 : Heap) (locs : List Loc) (ls : Array Slot) (j27_1 : Int32), th_B G Γ Γ [(47, 0), (46, 0), (46, 19), (46, 20), (46, 21), (46, 18), (57, 0), (56, 0), (55, 0), (46, 13), (46, 14), (46, 8), (46, 9), (46, 10), (46, 22), (46, 24), (46, 23), (46, 25), (46, 49), (46, 50), (46, 51), (46, 52), (69, 0), (48, 0), (61, 0), (46, 33), (58, 0), (59, 0), (60, 0), (46, 28), (46, 27), (46, 48), (46, 47), (51, 0), (62, 0)] H0 H27 locs → th_RN a0 G Γ H27 → lv_has ls 5 [(0, .ref a0), (1, .int j27_1)] → 0 ≤ j27_1.toInt → j27_1.toInt ≤ 480 → (∀ z : Int, 0 ≤ z → z < j27_1.toInt → mo_v G H27 a0 32 z = mo_v G H22 a0 31 z) → mo_sr G H22 H27 a0 → mo_f G H27 a0 13 = 0 → (2147483648 : Int) - j27_1.toInt ≤ (n27 : Int) → W p l e ({ frames := 75, cells := 0, slots := 0, locals := 2247 } : Room) s m ([.ref a0] : List Value).toArray below meth c H27 locs 0 0 (MQ below (th_Q (fun (v : Option Value) (H1 : Heap) => ∃ r : Int32, v = some (.int r) ∧ th_I G Γ H1 ∧ th_F G Γ [(47, 0), (46, 0), (46, 19), (46, 20), (46, 21), (46, 18), (57, 0), (56, 0), (55, 0), (46, 13), (46, 14), (46, 8), (46, 9), (46, 10), (46, 22), (46, 24), (46, 23), (46, 25), (46, 49), (46, 50), (46, 51), (46, 52), (69, 0), (48, 0), (61, 0), (46, 33), (58, 0), (59, 0), (60, 0), (46, 28), (46, 27), (46, 48), (46, 47), (51, 0), (62, 0)] H0 H1 ∧ th_RN a0 G Γ H1 ∧ (mo_f G H1 a0 13 = 0)) G) ([.ref a0] : List Value).toArray s 0 0 (fun q => G.2.2 ≤ q)) (F0 m 27 ls []) := by
      intro n27
      induction n27 with
      | zero => intro H27 locs ls j27_1 hB hR hl g27_0 g27_1 g27_2 g27_3 g27_4 hm27; exact absurd hm27 (by have := ti_hi j27_1; omega)
      | succ n27 ih27 =>
        intro H27 locs ls j27_1 hB hR hl g27_0 g27_1 g27_2 g27_3 g27_4 hm27
        have lj27_1 := ti_lo j27_1; have uj27_1 := ti_hi j27_1
        have vw_H27_3 : mo_v G H27 a0 3 = mo_v G H0 a0 3 := mo_v_F (r := 49) hB.1 hB.2.2 h0 rfl ro_49 (by decide) (by decide)
        have vw_H27_4 : mo_v G H27 a0 4 = mo_v G H0 a0 4 := mo_v_F (r := 50) hB.1 hB.2.2 h0 rfl ro_50 (by decide) (by decide)
        have hm27 : (2147483648 : Int) - j27_1.toInt ≤ (n27 : Int) + 1 := by omega
        refine lv_iload_n hx hb dX12_orders_27 rfl (lv_at hl 1 rfl) ?_
        refine lv_sipush (v := 480) hx hb dX12_orders_28 (by decide) ?_
        refine tr_icmp_ge (tgt := 52) hx hb dX12_orders_31 (by decide) (Eq.refl _) tk_480 (fun c31 => ?_) (fun c31 => ?_)
        · refine lv_aload_n hx hb dX12_orders_52 rfl (lv_at hl 0 rfl) ?_
          have hB27 := hB
          refine th_getI (j := 33) hC cf_X12 hB.1 h0 ro_46 rfl rfl kf_X12_11 dX12_orders_53 (fun x2 mx2 lx2 ux2 => ?_)
          have fg3 : mo_f G H27 a0 33 = x2.toInt := mo_fat mx2
          refine lv_istore_n (lv' := [(1, .int x2), (0, .ref a0)]) hx hb dX12_orders_56 rfl hl (by decide) rfl (fun ls hl => ?_)
          refine lv_aload_n hx hb dX12_orders_57 rfl (lv_at hl 1 rfl) ?_
          refine lv_bipush (v := 6) hx hb dX12_orders_58 (by decide) ?_
          refine th_call (th_runV (As := [.int 6]) (rest := []) hC mf_X12_lays km_X12_272 im_X12_lays se_X12_lays (c_X12_lays l G Γ H27 hB.1 hR.1 a0 h0 6 (by decide) (by decide)) rfl rfl ⟨Nat.le_of_ble_eq_true rfl, Nat.le_of_ble_eq_true rfl⟩ hB.1 h0 ro_46 rfl rfl hl.1 rfl (Nat.le_of_ble_eq_true rfl) dX12_orders_60 ⟨Nat.le_refl _, Nat.le_refl _⟩) hB.2.1 (fun v60 H60 locs hp hz hS => ?_)
          have hRD := hR
          obtain ⟨rfl, hI1, hf, hR, z60_0⟩ := hp
          have hRc60 := hR
          have hR := hRD
          have hRC := hRc60
          have hB := th_B_c hB hI1 hS hf (by decide)
          have fv_H60_18 : mo_f G H60 a0 18 = mo_f G H27 a0 18 := mo_f_F hf h0 (by decide) (by decide)
          have fv_H60_33 : mo_f G H60 a0 33 = mo_f G H27 a0 33 := mo_f_F hf h0 (by decide) (by decide)
          have fv_H60_48 : mo_f G H60 a0 48 = mo_f G H27 a0 48 := mo_f_F hf h0 (by decide) (by decide)
          have fv_H60_13 : mo_f G H60 a0 13 = mo_f G H27 a0 13 := mo_f_F hf h0 (by decide) (by decide)
          have vv_H60_3 : mo_v G H60 a0 3 = mo_v G H27 a0 3 := mo_v_F (r := 49) hB.1 hf h0 rfl ro_49 (by decide) (by decide)
          have vv_H60_4 : mo_v G H60 a0 4 = mo_v G H27 a0 4 := mo_v_F (r := 50) hB.1 hf h0 rfl ro_50 (by decide) (by decide)
          have vv_H60_31 : mo_v G H60 a0 31 = mo_v G H27 a0 31 := mo_v_F (r := 61) hB.1 hf h0 rfl ro_61 (by decide) (by decide)
          have vv_H60_5 : mo_v G H60 a0 5 = mo_v G H27 a0 5 := mo_v_F (r := 51) hB.1 hf h0 rfl ro_51 (by decide) (by decide)
          have vv_H60_15 : mo_v G H60 a0 15 = mo_v G H27 a0 15 := mo_v_F (r := 55) hB.1 hf h0 rfl ro_55 (by decide) (by decide)
          have vv_H60_32 : mo_v G H60 a0 32 = mo_v G H27 a0 32 := mo_v_F (r := 62) hB.1 hf h0 rfl ro_62 (by decide) (by decide)
          refine W.eq (g2 := F0 m 63 ls []) rfl ?_
          have sr27 := g27_3
          have la27 := g27_2
          have n400 := (mo_f_rg hB27.1 h0 (j := 18) rfl)
          obtain ⟨nn, enn⟩ : ∃ n : Int, n = mo_f G H27 a0 18 := ⟨_, rfl⟩
          have ly : ∀ z : Int, z < 2880 → mo_v G H60 a0 2 z = mo_ly (mo_v G H27 a0 2) (mo_v G H27 a0 15) 6 nn nn z := by rw [enn]; exact z60_0
          have hR : th_RN a0 G Γ H60 := ⟨hRC, by rw [vv_H60_3, vv_H60_4, vv_H60_31, fv_H60_33]; exact mo_ok_6 hR.2 (by omega) ly⟩
          have hR60 := hR
          have hB60 := hB
          obtain ⟨T, eT⟩ : ∃ T : Int → Int, T = mo_tf (mo_v G H60 a0 2) 2480 nn := ⟨_, rfl⟩
          have TX : mo_text 1 T nn := by have q9 := z7_0 (by omega); unfold mo_cr at q9; rw [eT, mo_tf_6 (by omega) ly, sr27.2.2.1, vv_H22_15, enn, sr27.2.2.2.2.1, show mo_f G H22 a0 18 = mo_f G H7 a0 18 by omega]; exact q9
          refine lv_aload_n hx hb dX12_orders_63 rfl (lv_at hl 1 rfl) ?_
          refine lv_iconst (v := 0) hx hb dX12_orders_64 (by decide) ?_
          refine th_put hC cf_X12 hB h0 (Or.inl h0) ro_46 rfl (j := 27) rfl th_sIa (by decide) rfl rfl rfl kf_X12_317 dX12_orders_65 (fun H65 locs hB hf hst65 => ?_)
          have hR := th_RN_F hB.1 hR h0 hf (th_T_s h0 ro_46 hst65) (by decide)
          have fv_H65_18 : mo_f G H65 a0 18 = mo_f G H60 a0 18 := mo_f_F hf h0 (by decide) (by decide)
          have fv_H65_33 : mo_f G H65 a0 33 = mo_f G H60 a0 33 := mo_f_F hf h0 (by decide) (by decide)
          have fv_H65_48 : mo_f G H65 a0 48 = mo_f G H60 a0 48 := mo_f_F hf h0 (by decide) (by decide)
          have fv_H65_13 : mo_f G H65 a0 13 = mo_f G H60 a0 13 := mo_f_F hf h0 (by decide) (by decide)
          have vv_H65_2 : mo_v G H65 a0 2 = mo_v G H60 a0 2 := mo_v_F (r := 48) hB.1 hf h0 rfl ro_48 (by decide) (by decide)
          have vv_H65_3 : mo_v G H65 a0 3 = mo_v G H60 a0 3 := mo_v_F (r := 49) hB.1 hf h0 rfl ro_49 (by decide) (by decide)
          have vv_H65_4 : mo_v G H65 a0 4 = mo_v G H60 a0 4 := mo_v_F (r := 50) hB.1 hf h0 rfl ro_50 (by decide) (by decide)
          have vv_H65_31 : mo_v G H65 a0 31 = mo_v G H60 a0 31 := mo_v_F (r := 61) hB.1 hf h0 rfl ro_61 (by decide) (by decide)
          have vv_H65_5 : mo_v G H65 a0 5 = mo_v G H60 a0 5 := mo_v_F (r := 51) hB.1 hf h0 rfl ro_51 (by decide) (by decide)
          have vv_H65_15 : mo_v G H65 a0 15 = mo_v G H60 a0 15 := mo_v_F (r := 55) hB.1 hf h0 rfl ro_55 (by decide) (by decide)
          have vv_H65_32 : mo_v G H65 a0 32 = mo_v G H60 a0 32 := mo_v_F (r := 62) hB.1 hf h0 rfl ro_62 (by decide) (by decide)
          have mm4 := hst65.2.1
          refine lv_aload_n hx hb dX12_orders_68 rfl (lv_at hl 1 rfl) ?_
          refine lv_iconst (v := (-1)) hx hb dX12_orders_69 (by decide) ?_
          refine th_put hC cf_X12 hB h0 (Or.inl h0) ro_46 rfl (j := 28) rfl th_sIa (by decide) rfl rfl rfl kf_X12_320 dX12_orders_70 (fun H70 locs hB hf hst70 => ?_)
          have mm5 := (th_F_o hf h0 ro_46 (j := 27) (by decide) (by decide)).trans mm4
          have hR := th_RN_F hB.1 hR h0 hf (th_T_s h0 ro_46 hst70) (by decide)
          have fv_H70_18 : mo_f G H70 a0 18 = mo_f G H65 a0 18 := mo_f_F hf h0 (by decide) (by decide)
          have fv_H70_33 : mo_f G H70 a0 33 = mo_f G H65 a0 33 := mo_f_F hf h0 (by decide) (by decide)
          have fv_H70_48 : mo_f G H70 a0 48 = mo_f G H65 a0 48 := mo_f_F hf h0 (by decide) (by decide)
          have fv_H70_13 : mo_f G H70 a0 13 = mo_f G H65 a0 13 := mo_f_F hf h0 (by decide) (by decide)
          have vv_H70_2 : mo_v G H70 a0 2 = mo_v G H65 a0 2 := mo_v_F (r := 48) hB.1 hf h0 rfl ro_48 (by decide) (by decide)
          have vv_H70_3 : mo_v G H70 a0 3 = mo_v G H65 a0 3 := mo_v_F (r := 49) hB.1 hf h0 rfl ro_49 (by decide) (by decide)
          have vv_H70_4 : mo_v G H70 a0 4 = mo_v G H65 a0 4 := mo_v_F (r := 50) hB.1 hf h0 rfl ro_50 (by decide) (by decide)
          have vv_H70_31 : mo_v G H70 a0 31 = mo_v G H65 a0 31 := mo_v_F (r := 61) hB.1 hf h0 rfl ro_61 (by decide) (by decide)
          have vv_H70_5 : mo_v G H70 a0 5 = mo_v G H65 a0 5 := mo_v_F (r := 51) hB.1 hf h0 rfl ro_51 (by decide) (by decide)
          have vv_H70_15 : mo_v G H70 a0 15 = mo_v G H65 a0 15 := mo_v_F (r := 55) hB.1 hf h0 rfl ro_55 (by decide) (by decide)
          have vv_H70_32 : mo_v G H70 a0 32 = mo_v G H65 a0 32 := mo_v_F (r := 62) hB.1 hf h0 rfl ro_62 (by decide) (by decide)
          refine lv_aload_n hx hb dX12_orders_73 rfl (lv_at hl 1 rfl) ?_
          refine lv_sipush (v := 2400) hx hb dX12_orders_74 (by decide) ?_
          refine th_put hC cf_X12 hB h0 (Or.inl h0) ro_46 rfl (j := 48) rfl th_sIa (by decide) rfl rfl rfl kf_X12_480 dX12_orders_77 (fun H77 locs hB hf hst77 => ?_)
          have mm6 := (th_F_o hf h0 ro_46 (j := 27) (by decide) (by decide)).trans mm5
          have hR := th_RN_F hB.1 hR h0 hf (th_T_s h0 ro_46 hst77) (by decide)
          have fv_H77_18 : mo_f G H77 a0 18 = mo_f G H70 a0 18 := mo_f_F hf h0 (by decide) (by decide)
          have fv_H77_33 : mo_f G H77 a0 33 = mo_f G H70 a0 33 := mo_f_F hf h0 (by decide) (by decide)
          have fv_H77_13 : mo_f G H77 a0 13 = mo_f G H70 a0 13 := mo_f_F hf h0 (by decide) (by decide)
          have vv_H77_2 : mo_v G H77 a0 2 = mo_v G H70 a0 2 := mo_v_F (r := 48) hB.1 hf h0 rfl ro_48 (by decide) (by decide)
          have vv_H77_3 : mo_v G H77 a0 3 = mo_v G H70 a0 3 := mo_v_F (r := 49) hB.1 hf h0 rfl ro_49 (by decide) (by decide)
          have vv_H77_4 : mo_v G H77 a0 4 = mo_v G H70 a0 4 := mo_v_F (r := 50) hB.1 hf h0 rfl ro_50 (by decide) (by decide)
          have vv_H77_31 : mo_v G H77 a0 31 = mo_v G H70 a0 31 := mo_v_F (r := 61) hB.1 hf h0 rfl ro_61 (by decide) (by decide)
          have vv_H77_5 : mo_v G H77 a0 5 = mo_v G H70 a0 5 := mo_v_F (r := 51) hB.1 hf h0 rfl ro_51 (by decide) (by decide)
          have vv_H77_15 : mo_v G H77 a0 15 = mo_v G H70 a0 15 := mo_v_F (r := 55) hB.1 hf h0 rfl ro_55 (by decide) (by decide)
          have vv_H77_32 : mo_v G H77 a0 32 = mo_v G H70 a0 32 := mo_v_F (r := 62) hB.1 hf h0 rfl ro_62 (by decide) (by decide)
          have fp77 : mo_f G H77 a0 48 = 2400 := (mo_f_St hst77).trans tk_2400
          have mm7 := hst77.2.1
          refine lv_aload_n hx hb dX12_orders_80 rfl (lv_at hl 1 rfl) ?_
          refine th_getK hC cf_X12 hB.1 h0 ro_46 rfl (j := 48) (by decide) mm7 kf_X12_480 dX12_orders_81 ?_
          have fg8 : mo_f G H77 a0 48 = 2400 := (mo_fat mm7).trans tk_2400
          refine lv_aload_n hx hb dX12_orders_84 rfl (lv_at hl 1 rfl) ?_
          refine th_getO (j := 2) (r2 := 48) hC cf_X12 hB.1 h0 ro_46 rfl rfl kf_X12_28 dX12_orders_85 (fun b9 mb9 hb9 => ?_)
          refine lv_bipush (v := 79) hx hb dX12_orders_88 (by decide) ?_
          refine th_ialdF hC hB.1 hb9 ro_48 rfl tk_79 (by omega) (by omega) (ek_size (by omega) (by omega)) dX12_orders_90 (fun x10 mx10 lx10 ux10 => ?_)
          have vgx10 : mo_v G H77 a0 2 79 = x10.toInt := by rw [show (79 : Int) = 79 by omega]; exact mo_vat mb9 mx10 (by omega)
          have e90 : x10.toInt = nn := by rw [← vgx10, vv_H77_2, vv_H70_2, vv_H65_2, ly 79 (by omega), mo_ly_79]
          refine tr_iadd hx hb dX12_orders_91 tk_2400 (Eq.refl _) (by omega) (by omega) (fun x11 ex11 => ?_)
          refine lv_istore_n (lv' := [(2, .int x11), (1, .int x2), (0, .ref a0)]) hx hb dX12_orders_92 rfl hl (by decide) rfl (fun ls hl => ?_)
          refine lv_iconst (v := 0) hx hb dX12_orders_93 (by decide) ?_
          refine lv_istore_n (lv' := [(3, .int 0), (2, .int x11), (1, .int x2), (0, .ref a0)]) hx hb dX12_orders_94 rfl hl (by decide) rfl (fun ls hl => ?_)
          have lp95 : ∀ (n95 : Nat) (H95 : Heap) (locs : List Loc) (ls : Array Slot) (j95_3 : Int32), th_B G Γ Γ [(47, 0), (46, 0), (46, 19), (46, 20), (46, 21), (46, 18), (57, 0), (56, 0), (55, 0), (46, 13), (46, 14), (46, 8), (46, 9), (46, 10), (46, 22), (46, 24), (46, 23), (46, 25), (46, 49), (46, 50), (46, 51), (46, 52), (69, 0), (48, 0), (61, 0), (46, 33), (58, 0), (59, 0), (60, 0), (46, 28), (46, 27), (46, 48), (46, 47), (51, 0), (62, 0)] H0 H95 locs → th_RN a0 G Γ H95 → lv_has ls 5 [(2, .int x11), (1, .int x2), (0, .ref a0), (3, .int j95_3)] → (∃ i : Int, mo_f G H95 a0 48 = 2400 + i ∧ 0 ≤ i ∧ (i = nn + 1 ∨ mo_chain T (mo_clause 1 T) (mo_is 159) i nn)) → (∀ z : Int, 29 ≤ z → mo_v G H95 a0 2 z = mo_v G H60 a0 2 z) → mo_v G H95 a0 5 = mo_v G H60 a0 5 → mo_v G H95 a0 32 = mo_v G H60 a0 32 → mo_f G H95 a0 13 = 0 → (2400 + nn + 3 - mo_f G H95 a0 48) ≤ (n95 : Int) → W p l e ({ frames := 75, cells := 0, slots := 0, locals := 2247 } : Room) s m ([.ref a0] : List Value).toArray below meth c H95 locs 0 0 (MQ below (th_Q (fun (v : Option Value) (H1 : Heap) => ∃ r : Int32, v = some (.int r) ∧ th_I G Γ H1 ∧ th_F G Γ [(47, 0), (46, 0), (46, 19), (46, 20), (46, 21), (46, 18), (57, 0), (56, 0), (55, 0), (46, 13), (46, 14), (46, 8), (46, 9), (46, 10), (46, 22), (46, 24), (46, 23), (46, 25), (46, 49), (46, 50), (46, 51), (46, 52), (69, 0), (48, 0), (61, 0), (46, 33), (58, 0), (59, 0), (60, 0), (46, 28), (46, 27), (46, 48), (46, 47), (51, 0), (62, 0)] H0 H1 ∧ th_RN a0 G Γ H1 ∧ (mo_f G H1 a0 13 = 0)) G) ([.ref a0] : List Value).toArray s 0 0 (fun q => G.2.2 ≤ q)) (F0 m 95 ls []) := by
            intro n95
            induction n95 with
            | zero => intro H95 locs ls j95_3 hB hR hl g95_0 g95_1 g95_2 g95_3 g95_4 hm95; exact absurd hm95 (by have := mo_lpt (mo_clause_lt _ _) g95_0; omega)
            | succ n95 ih95 =>
              intro H95 locs ls j95_3 hB hR hl g95_0 g95_1 g95_2 g95_3 g95_4 hm95
              have lj95_3 := ti_lo j95_3; have uj95_3 := ti_hi j95_3
              have vw_H95_3 : mo_v G H95 a0 3 = mo_v G H0 a0 3 := mo_v_F (r := 49) hB.1 hB.2.2 h0 rfl ro_49 (by decide) (by decide)
              have vw_H95_4 : mo_v G H95 a0 4 = mo_v G H0 a0 4 := mo_v_F (r := 50) hB.1 hB.2.2 h0 rfl ro_50 (by decide) (by decide)
              have hm95 : (2400 + nn + 3 - mo_f G H95 a0 48) ≤ (n95 : Int) + 1 := by omega
              refine lv_aload_n hx hb dX12_orders_95 rfl (lv_at hl 2 rfl) ?_
              obtain ⟨m6, a6, b6, r6⟩ := g95_0
              have B95 := g95_1
              have C95 := g95_2
              have D95 := g95_3
              refine th_getI (j := 48) hC cf_X12 hB.1 h0 ro_46 rfl rfl kf_X12_480 dX12_orders_96 (fun x12 mx12 lx12 ux12 => ?_)
              have fg13 : mo_f G H95 a0 48 = x12.toInt := mo_fat mx12
              refine lv_iload_n hx hb dX12_orders_99 rfl (lv_at hl 0 rfl) ?_
              refine tr_icmp_ge (tgt := 173) hx hb dX12_orders_100 (by decide) (Eq.refl _) (Eq.refl _) (fun c100 => ?_) (fun c100 => ?_)
              · refine lv_aload_n hx hb dX12_orders_173 rfl (lv_at hl 2 rfl) ?_
                refine lv_aload_n hx hb dX12_orders_174 rfl (lv_at hl 2 rfl) ?_
                refine th_getI (j := 27) hC cf_X12 hB.1 h0 ro_46 rfl rfl kf_X12_317 dX12_orders_175 (fun x14 mx14 lx14 ux14 => ?_)
                refine th_call (th_runV (As := [.int x14]) (rest := []) hC mf_X12_good km_X12_14 im_X12_good se_X12_good (c_X12_good l G Γ H95 hB.1 hR.1 a0 h0 x14) rfl rfl ⟨Nat.le_of_ble_eq_true rfl, Nat.le_of_ble_eq_true rfl⟩ hB.1 h0 ro_46 rfl rfl hl.1 rfl (Nat.le_of_ble_eq_true rfl) dX12_orders_178 ⟨Nat.le_refl _, Nat.le_refl _⟩) hB.2.1 (fun v178 H178 locs hp hz hS => ?_)
                have hRD := hR
                obtain ⟨x15, rfl, q178_0, hI1, hf, hR⟩ := hp
                have hR := th_RN_c hR hRD hI1 h0 hf (by decide)
                have hB := th_B_c hB hI1 hS hf (by decide)
                have mm16 := (th_F_o hf h0 ro_46 (j := 48) (by decide) (by decide)).trans mx12
                have fv_H178_18 : mo_f G H178 a0 18 = mo_f G H95 a0 18 := mo_f_F hf h0 (by decide) (by decide)
                have fv_H178_33 : mo_f G H178 a0 33 = mo_f G H95 a0 33 := mo_f_F hf h0 (by decide) (by decide)
                have fv_H178_48 : mo_f G H178 a0 48 = mo_f G H95 a0 48 := mo_f_F hf h0 (by decide) (by decide)
                have fv_H178_13 : mo_f G H178 a0 13 = mo_f G H95 a0 13 := mo_f_F hf h0 (by decide) (by decide)
                have vv_H178_2 : mo_v G H178 a0 2 = mo_v G H95 a0 2 := mo_v_F (r := 48) hB.1 hf h0 rfl ro_48 (by decide) (by decide)
                have vv_H178_3 : mo_v G H178 a0 3 = mo_v G H95 a0 3 := mo_v_F (r := 49) hB.1 hf h0 rfl ro_49 (by decide) (by decide)
                have vv_H178_4 : mo_v G H178 a0 4 = mo_v G H95 a0 4 := mo_v_F (r := 50) hB.1 hf h0 rfl ro_50 (by decide) (by decide)
                have vv_H178_31 : mo_v G H178 a0 31 = mo_v G H95 a0 31 := mo_v_F (r := 61) hB.1 hf h0 rfl ro_61 (by decide) (by decide)
                have vv_H178_5 : mo_v G H178 a0 5 = mo_v G H95 a0 5 := mo_v_F (r := 51) hB.1 hf h0 rfl ro_51 (by decide) (by decide)
                have vv_H178_15 : mo_v G H178 a0 15 = mo_v G H95 a0 15 := mo_v_F (r := 55) hB.1 hf h0 rfl ro_55 (by decide) (by decide)
                have vv_H178_32 : mo_v G H178 a0 32 = mo_v G H95 a0 32 := mo_v_F (r := 62) hB.1 hf h0 rfl ro_62 (by decide) (by decide)
                refine W.eq (g2 := F0 m 181 ls [.int x15]) rfl ?_
                exact th_iret hC hH hr hlocks rfl hB.2.1 ⟨_, rfl, hB.1, hB.2.2, hR, (by omega)⟩ dX12_orders_181
              · refine lv_aload_n hx hb dX12_orders_103 rfl (lv_at hl 2 rfl) ?_
                refine lv_iload_n hx hb dX12_orders_104 rfl (lv_at hl 0 rfl) ?_
                have ch6 := r6.resolve_left (by omega)
                obtain ⟨j1, c1, r1⟩ := mo_chain_open ch6
                have lt1 := mo_clause_lt _ _ _ _ c1
                have le1 := mo_rest_le (mo_clause_lt _ _) r1
                have od : mo_ord T m6 j1 := by rcases c1 with ⟨q9, -⟩ | ⟨-, c1⟩; exact absurd q9 (by decide); exact c1
                refine th_call (th_runV (As := [.int x11]) (rest := []) hC mf_X12_runs km_X12_483 im_X12_runs se_X12_runs (c_X12_runs l G Γ H95 hB.1 a0 h0 hR x11 (by omega) (by omega) m6 j1 (by omega) ⟨by omega, by omega⟩ (by rw [mo_tf_29 B95 (by omega), show x11.toInt - 2400 = nn by omega, ← eT]; exact od)) rfl rfl ⟨Nat.le_of_ble_eq_true rfl, Nat.le_of_ble_eq_true rfl⟩ hB.1 h0 ro_46 rfl rfl hl.1 rfl (Nat.le_of_ble_eq_true rfl) dX12_orders_105 ⟨Nat.le_refl _, Nat.le_refl _⟩) hB.2.1 (fun v105 H105 locs hp hz hS => ?_)
                obtain ⟨x17, rfl, lx17, ux17, hI1, hf, hR, z105_0, z105_1⟩ := hp
                have hB := th_B_c hB hI1 hS hf (by decide)
                have fv_H105_18 : mo_f G H105 a0 18 = mo_f G H95 a0 18 := mo_f_F hf h0 (by decide) (by decide)
                have fv_H105_13 : mo_f G H105 a0 13 = mo_f G H95 a0 13 := mo_f_F hf h0 (by decide) (by decide)
                have vv_H105_3 : mo_v G H105 a0 3 = mo_v G H95 a0 3 := mo_v_F (r := 49) hB.1 hf h0 rfl ro_49 (by decide) (by decide)
                have vv_H105_4 : mo_v G H105 a0 4 = mo_v G H95 a0 4 := mo_v_F (r := 50) hB.1 hf h0 rfl ro_50 (by decide) (by decide)
                have vv_H105_5 : mo_v G H105 a0 5 = mo_v G H95 a0 5 := mo_v_F (r := 51) hB.1 hf h0 rfl ro_51 (by decide) (by decide)
                have vv_H105_15 : mo_v G H105 a0 15 = mo_v G H95 a0 15 := mo_v_F (r := 55) hB.1 hf h0 rfl ro_55 (by decide) (by decide)
                have vv_H105_32 : mo_v G H105 a0 32 = mo_v G H95 a0 32 := mo_v_F (r := 62) hB.1 hf h0 rfl ro_62 (by decide) (by decide)
                refine W.eq (g2 := F0 m 108 ls [.int x17]) rfl ?_
                refine tr_if_eq (tgt := 114) hx hb dX12_orders_108 (by decide) (Eq.refl _) (fun c108 => ?_) (fun c108 => ?_)
                · refine lv_aload_n hx hb dX12_orders_114 rfl (lv_at hl 2 rfl) ?_
                  refine lv_iconst (v := 1) hx hb dX12_orders_115 (by decide) ?_
                  refine th_call (th_runV (As := [.int 1]) (rest := []) hC mf_X12_takesBack km_X12_486 im_X12_takesBack se_X12_takesBack (c_X12_takesBack l G Γ H105 hB.1 a0 h0 (th_NE hR) 1 (by decide) (by decide)) rfl rfl ⟨Nat.le_of_ble_eq_true rfl, Nat.le_of_ble_eq_true rfl⟩ hB.1 h0 ro_46 rfl rfl hl.1 rfl (Nat.le_of_ble_eq_true rfl) dX12_orders_116 ⟨Nat.le_refl _, Nat.le_refl _⟩) hB.2.1 (fun v116 H116 locs hp hz hS => ?_)
                  have hRD := hR
                  obtain ⟨rfl, hI1, hf, hR, z116_0⟩ := hp
                  have hRc116 := hR
                  have hR := hRD
                  have hRC := hRc116.1
                  have hB := th_B_c hB hI1 hS hf (by decide)
                  have fv_H116_18 : mo_f G H116 a0 18 = mo_f G H105 a0 18 := mo_f_F hf h0 (by decide) (by decide)
                  have fv_H116_33 : mo_f G H116 a0 33 = mo_f G H105 a0 33 := mo_f_F hf h0 (by decide) (by decide)
                  have fv_H116_48 : mo_f G H116 a0 48 = mo_f G H105 a0 48 := mo_f_F hf h0 (by decide) (by decide)
                  have fv_H116_13 : mo_f G H116 a0 13 = mo_f G H105 a0 13 := mo_f_F hf h0 (by decide) (by decide)
                  have vv_H116_3 : mo_v G H116 a0 3 = mo_v G H105 a0 3 := mo_v_F (r := 49) hB.1 hf h0 rfl ro_49 (by decide) (by decide)
                  have vv_H116_4 : mo_v G H116 a0 4 = mo_v G H105 a0 4 := mo_v_F (r := 50) hB.1 hf h0 rfl ro_50 (by decide) (by decide)
                  have vv_H116_31 : mo_v G H116 a0 31 = mo_v G H105 a0 31 := mo_v_F (r := 61) hB.1 hf h0 rfl ro_61 (by decide) (by decide)
                  have vv_H116_5 : mo_v G H116 a0 5 = mo_v G H105 a0 5 := mo_v_F (r := 51) hB.1 hf h0 rfl ro_51 (by decide) (by decide)
                  have vv_H116_15 : mo_v G H116 a0 15 = mo_v G H105 a0 15 := mo_v_F (r := 55) hB.1 hf h0 rfl ro_55 (by decide) (by decide)
                  have vv_H116_32 : mo_v G H116 a0 32 = mo_v G H105 a0 32 := mo_v_F (r := 62) hB.1 hf h0 rfl ro_62 (by decide) (by decide)
                  refine W.eq (g2 := F0 m 119 ls []) rfl ?_
                  have hR := hRc116
                  refine lv_iconst (v := 0) hx hb dX12_orders_119 (by decide) ?_
                  refine lv_istore (lv' := [(4, .int 0), (2, .int x11), (1, .int x2), (0, .ref a0), (3, .int j95_3)]) hx hb dX12_orders_120 hl (by decide) rfl (fun ls hl => ?_)
                  have lp122 : ∀ (n122 : Nat) (H122 : Heap) (locs : List Loc) (ls : Array Slot) (j122_4 : Int32), th_B G Γ Γ [(47, 0), (46, 0), (46, 19), (46, 20), (46, 21), (46, 18), (57, 0), (56, 0), (55, 0), (46, 13), (46, 14), (46, 8), (46, 9), (46, 10), (46, 22), (46, 24), (46, 23), (46, 25), (46, 49), (46, 50), (46, 51), (46, 52), (69, 0), (48, 0), (61, 0), (46, 33), (58, 0), (59, 0), (60, 0), (46, 28), (46, 27), (46, 48), (46, 47), (51, 0), (62, 0)] H0 H122 locs → th_RE a0 G Γ H122 → lv_has ls 5 [(1, .int x2), (0, .ref a0), (3, .int j95_3), (4, .int j122_4)] → 0 ≤ j122_4.toInt → j122_4.toInt ≤ 480 → (∀ z : Int, 0 ≤ z → z < j122_4.toInt → mo_v G H122 a0 31 z = mo_v G H60 a0 32 z) → mo_v G H122 a0 2 = mo_v G H116 a0 2 → mo_v G H122 a0 32 = mo_v G H60 a0 32 → mo_f G H122 a0 13 = 0 → (2147483648 : Int) - j122_4.toInt ≤ (n122 : Int) → W p l e ({ frames := 75, cells := 0, slots := 0, locals := 2247 } : Room) s m ([.ref a0] : List Value).toArray below meth c H122 locs 0 0 (MQ below (th_Q (fun (v : Option Value) (H1 : Heap) => ∃ r : Int32, v = some (.int r) ∧ th_I G Γ H1 ∧ th_F G Γ [(47, 0), (46, 0), (46, 19), (46, 20), (46, 21), (46, 18), (57, 0), (56, 0), (55, 0), (46, 13), (46, 14), (46, 8), (46, 9), (46, 10), (46, 22), (46, 24), (46, 23), (46, 25), (46, 49), (46, 50), (46, 51), (46, 52), (69, 0), (48, 0), (61, 0), (46, 33), (58, 0), (59, 0), (60, 0), (46, 28), (46, 27), (46, 48), (46, 47), (51, 0), (62, 0)] H0 H1 ∧ th_RN a0 G Γ H1 ∧ (mo_f G H1 a0 13 = 0)) G) ([.ref a0] : List Value).toArray s 0 0 (fun q => G.2.2 ≤ q)) (F0 m 122 ls []) := by
                    intro n122
                    induction n122 with
                    | zero => intro H122 locs ls j122_4 hB hR hl g122_0 g122_1 g122_2 g122_3 g122_4 g122_5 hm122; exact absurd hm122 (by have := ti_hi j122_4; omega)
                    | succ n122 ih122 =>
                      intro H122 locs ls j122_4 hB hR hl g122_0 g122_1 g122_2 g122_3 g122_4 g122_5 hm122
                      have lj122_4 := ti_lo j122_4; have uj122_4 := ti_hi j122_4
                      have vw_H122_3 : mo_v G H122 a0 3 = mo_v G H0 a0 3 := mo_v_F (r := 49) hB.1 hB.2.2 h0 rfl ro_49 (by decide) (by decide)
                      have vw_H122_4 : mo_v G H122 a0 4 = mo_v G H0 a0 4 := mo_v_F (r := 50) hB.1 hB.2.2 h0 rfl ro_50 (by decide) (by decide)
                      have hm122 : (2147483648 : Int) - j122_4.toInt ≤ (n122 : Int) + 1 := by omega
                      refine lv_iload hx hb dX12_orders_122 (lv_at hl 3 rfl) ?_
                      refine lv_sipush (v := 480) hx hb dX12_orders_124 (by decide) ?_
                      refine tr_icmp_ge (tgt := 150) hx hb dX12_orders_127 (by decide) (Eq.refl _) tk_480 (fun c127 => ?_) (fun c127 => ?_)
                      · refine lv_aload_n hx hb dX12_orders_150 rfl (lv_at hl 1 rfl) ?_
                        refine lv_iload_n hx hb dX12_orders_151 rfl (lv_at hl 0 rfl) ?_
                        refine th_put hC cf_X12 hB h0 (Or.inl h0) ro_46 rfl (j := 33) rfl (th_sI (by omega) (by omega)) (by decide) rfl rfl rfl kf_X12_11 dX12_orders_152 (fun H152 locs hB hf hst152 => ?_)
                        have hR := th_RE_F hB.1 hR h0 hf (th_T_s h0 ro_46 hst152) (by decide)
                        have fv_H152_18 : mo_f G H152 a0 18 = mo_f G H122 a0 18 := mo_f_F hf h0 (by decide) (by decide)
                        have fv_H152_48 : mo_f G H152 a0 48 = mo_f G H122 a0 48 := mo_f_F hf h0 (by decide) (by decide)
                        have fv_H152_13 : mo_f G H152 a0 13 = mo_f G H122 a0 13 := mo_f_F hf h0 (by decide) (by decide)
                        have vv_H152_2 : mo_v G H152 a0 2 = mo_v G H122 a0 2 := mo_v_F (r := 48) hB.1 hf h0 rfl ro_48 (by decide) (by decide)
                        have vv_H152_3 : mo_v G H152 a0 3 = mo_v G H122 a0 3 := mo_v_F (r := 49) hB.1 hf h0 rfl ro_49 (by decide) (by decide)
                        have vv_H152_4 : mo_v G H152 a0 4 = mo_v G H122 a0 4 := mo_v_F (r := 50) hB.1 hf h0 rfl ro_50 (by decide) (by decide)
                        have vv_H152_31 : mo_v G H152 a0 31 = mo_v G H122 a0 31 := mo_v_F (r := 61) hB.1 hf h0 rfl ro_61 (by decide) (by decide)
                        have vv_H152_5 : mo_v G H152 a0 5 = mo_v G H122 a0 5 := mo_v_F (r := 51) hB.1 hf h0 rfl ro_51 (by decide) (by decide)
                        have vv_H152_15 : mo_v G H152 a0 15 = mo_v G H122 a0 15 := mo_v_F (r := 55) hB.1 hf h0 rfl ro_55 (by decide) (by decide)
                        have vv_H152_32 : mo_v G H152 a0 32 = mo_v G H122 a0 32 := mo_v_F (r := 62) hB.1 hf h0 rfl ro_62 (by decide) (by decide)
                        have fp152 : mo_f G H152 a0 33 = x2.toInt := mo_f_St hst152
                        refine lv_aload_n hx hb dX12_orders_155 rfl (lv_at hl 1 rfl) ?_
                        refine lv_iload_n hx hb dX12_orders_156 rfl (lv_at hl 2 rfl) ?_
                        refine th_put hC cf_X12 hB h0 (Or.inl h0) ro_46 rfl (j := 47) rfl th_sIa (by decide) rfl rfl rfl kf_X12_97 dX12_orders_157 (fun H157 locs hB hf hst157 => ?_)
                        have hR := th_RE_F hB.1 hR h0 hf (th_T_s h0 ro_46 hst157) (by decide)
                        have fv_H157_18 : mo_f G H157 a0 18 = mo_f G H152 a0 18 := mo_f_F hf h0 (by decide) (by decide)
                        have fv_H157_33 : mo_f G H157 a0 33 = mo_f G H152 a0 33 := mo_f_F hf h0 (by decide) (by decide)
                        have fv_H157_48 : mo_f G H157 a0 48 = mo_f G H152 a0 48 := mo_f_F hf h0 (by decide) (by decide)
                        have fv_H157_13 : mo_f G H157 a0 13 = mo_f G H152 a0 13 := mo_f_F hf h0 (by decide) (by decide)
                        have vv_H157_2 : mo_v G H157 a0 2 = mo_v G H152 a0 2 := mo_v_F (r := 48) hB.1 hf h0 rfl ro_48 (by decide) (by decide)
                        have vv_H157_3 : mo_v G H157 a0 3 = mo_v G H152 a0 3 := mo_v_F (r := 49) hB.1 hf h0 rfl ro_49 (by decide) (by decide)
                        have vv_H157_4 : mo_v G H157 a0 4 = mo_v G H152 a0 4 := mo_v_F (r := 50) hB.1 hf h0 rfl ro_50 (by decide) (by decide)
                        have vv_H157_31 : mo_v G H157 a0 31 = mo_v G H152 a0 31 := mo_v_F (r := 61) hB.1 hf h0 rfl ro_61 (by decide) (by decide)
                        have vv_H157_5 : mo_v G H157 a0 5 = mo_v G H152 a0 5 := mo_v_F (r := 51) hB.1 hf h0 rfl ro_51 (by decide) (by decide)
                        have vv_H157_15 : mo_v G H157 a0 15 = mo_v G H152 a0 15 := mo_v_F (r := 55) hB.1 hf h0 rfl ro_55 (by decide) (by decide)
                        have vv_H157_32 : mo_v G H157 a0 32 = mo_v G H152 a0 32 := mo_v_F (r := 62) hB.1 hf h0 rfl ro_62 (by decide) (by decide)
                        have kz : ∀ z : Int, 0 ≤ z → mo_v G H157 a0 2 z = mo_v G H60 a0 2 z := fun z a9 => by rw [vv_H157_2, vv_H152_2, g122_3, z116_0 z]; by_cases q9 : 0 ≤ z ∧ z < 29; rw [if_pos q9, vv_H105_5, C95, vv_H60_5, sr27.2.1, show 29 * (1 : Int32).toInt + z = 29 * (1 : Int32).toInt + z from rfl, z22_0 z (by omega) (by omega), ly z (by omega), mo_ly_0 (by omega) (by omega), sr27.1, vv_H22_2]; rw [if_neg q9, z105_0 z (by omega)]; exact B95 z (by omega)
                        have lz : ∀ z : Int, 0 ≤ z → z < 480 → mo_v G H157 a0 31 z = mo_v G H60 a0 31 z := fun z a9 b9 => by rw [vv_H157_31, vv_H152_31, g122_2 z a9 (by omega), vv_H60_32, la27 z a9 (by omega), vv_H60_31, sr27.2.2.2.1]
                        have hR : th_RN a0 G Γ H157 := ⟨hR.1, by rw [(mo_v_F (j := 3) (r := 49) hB.1 hB.2.2 h0 rfl ro_49 (by decide) (by decide) : mo_v G H157 a0 3 = _), ← (mo_v_F (j := 3) (r := 49) hB60.1 hB60.2.2 h0 rfl ro_49 (by decide) (by decide) : mo_v G H60 a0 3 = _), (mo_v_F (j := 4) (r := 50) hB.1 hB.2.2 h0 rfl ro_50 (by decide) (by decide) : mo_v G H157 a0 4 = _), ← (mo_v_F (j := 4) (r := 50) hB60.1 hB60.2.2 h0 rfl ro_50 (by decide) (by decide) : mo_v G H60 a0 4 = _), show mo_f G H157 a0 33 = mo_f G H60 a0 33 by omega]; exact mo_ok_l (mo_ok_29 hR60.2 (fun i hi => kz i (by omega)) (mo_geo_ext (fun i a9 b9 => kz i a9) hR60.2.1.2.1)) (mo_f_rg hB60.1 h0 (j := 33) rfl).2 lz⟩
                        refine lv_aload_n hx hb dX12_orders_160 rfl (lv_at hl 1 rfl) ?_
                        refine lv_bipush (v := (-3)) hx hb dX12_orders_161 (by decide) ?_
                        refine th_call (th_runV (As := [.int (-3)]) (rest := []) hC mf_X12_refuses km_X12_109 im_X12_refuses se_X12_refuses (c_X12_refuses l G Γ H157 hB.1 hR.1 a0 h0 (-3) (by decide) (by decide)) rfl rfl ⟨Nat.le_of_ble_eq_true rfl, Nat.le_of_ble_eq_true rfl⟩ hB.1 h0 ro_46 rfl rfl hl.1 rfl (Nat.le_of_ble_eq_true rfl) dX12_orders_163 ⟨Nat.le_refl _, Nat.le_refl _⟩) hB.2.1 (fun v163 H163 locs hp hz hS => ?_)
                        have hRD := hR
                        obtain ⟨x18, rfl, q163_0, hI1, hf, hR⟩ := hp
                        have hR := th_RN_c hR hRD hI1 h0 hf (by decide)
                        have hB := th_B_c hB hI1 hS hf (by decide)
                        have fv_H163_18 : mo_f G H163 a0 18 = mo_f G H157 a0 18 := mo_f_F hf h0 (by decide) (by decide)
                        have fv_H163_33 : mo_f G H163 a0 33 = mo_f G H157 a0 33 := mo_f_F hf h0 (by decide) (by decide)
                        have fv_H163_48 : mo_f G H163 a0 48 = mo_f G H157 a0 48 := mo_f_F hf h0 (by decide) (by decide)
                        have fv_H163_13 : mo_f G H163 a0 13 = mo_f G H157 a0 13 := mo_f_F hf h0 (by decide) (by decide)
                        have vv_H163_2 : mo_v G H163 a0 2 = mo_v G H157 a0 2 := mo_v_F (r := 48) hB.1 hf h0 rfl ro_48 (by decide) (by decide)
                        have vv_H163_3 : mo_v G H163 a0 3 = mo_v G H157 a0 3 := mo_v_F (r := 49) hB.1 hf h0 rfl ro_49 (by decide) (by decide)
                        have vv_H163_4 : mo_v G H163 a0 4 = mo_v G H157 a0 4 := mo_v_F (r := 50) hB.1 hf h0 rfl ro_50 (by decide) (by decide)
                        have vv_H163_31 : mo_v G H163 a0 31 = mo_v G H157 a0 31 := mo_v_F (r := 61) hB.1 hf h0 rfl ro_61 (by decide) (by decide)
                        have vv_H163_5 : mo_v G H163 a0 5 = mo_v G H157 a0 5 := mo_v_F (r := 51) hB.1 hf h0 rfl ro_51 (by decide) (by decide)
                        have vv_H163_15 : mo_v G H163 a0 15 = mo_v G H157 a0 15 := mo_v_F (r := 55) hB.1 hf h0 rfl ro_55 (by decide) (by decide)
                        have vv_H163_32 : mo_v G H163 a0 32 = mo_v G H157 a0 32 := mo_v_F (r := 62) hB.1 hf h0 rfl ro_62 (by decide) (by decide)
                        have w163_0 := tk_m3
                        refine W.eq (g2 := F0 m 166 ls [.int x18]) rfl ?_
                        exact th_iret hC hH hr hlocks rfl hB.2.1 ⟨_, rfl, hB.1, hB.2.2, hR, (by omega)⟩ dX12_orders_166
                      · refine lv_aload_n hx hb dX12_orders_130 rfl (lv_at hl 1 rfl) ?_
                        refine th_getO (j := 31) (r2 := 61) hC cf_X12 hB.1 h0 ro_46 rfl rfl kf_X12_72 dX12_orders_131 (fun b19 mb19 hb19 => ?_)
                        have sb19 := (th_F_o hB.2.2 h0 ro_46 (j := 31) (by decide) (by decide)).symm.trans mb19
                        refine lv_iload hx hb dX12_orders_134 (lv_at hl 3 rfl) ?_
                        refine lv_aload_n hx hb dX12_orders_136 rfl (lv_at hl 1 rfl) ?_
                        refine th_getO (j := 32) (r2 := 62) hC cf_X12 hB.1 h0 ro_46 rfl rfl kf_X12_75 dX12_orders_137 (fun b20 mb20 hb20 => ?_)
                        have sb20 := (th_F_o hB.2.2 h0 ro_46 (j := 32) (by decide) (by decide)).symm.trans mb20
                        refine lv_iload hx hb dX12_orders_140 (lv_at hl 3 rfl) ?_
                        refine th_ialdF hC hB.1 hb20 ro_62 rfl (Eq.refl _) (by omega) (by omega) rfl dX12_orders_142 (fun x21 mx21 lx21 ux21 => ?_)
                        have vgx21 : mo_v G H122 a0 32 j122_4.toInt = x21.toInt := by rw [show (j122_4.toInt : Int) = j122_4.toInt by omega]; exact mo_vat mb20 mx21 (by omega)
                        refine th_iastF hC hB hb19 (Or.inl hb19) ro_61 rfl (by decide) (Eq.refl _) (by omega) (by omega) th_sIa dX12_orders_143 (fun H143 locs hB hf143 hst143 => ?_)
                        have hf := hf143
                        have mm22 := (th_F_o hf h0 ro_46 (j := 31) (by decide) (by decide)).trans mb19
                        have mm23 := (th_F_o hf h0 ro_46 (j := 32) (by decide) (by decide)).trans mb20
                        have hR := th_RE_F hB.1 hR h0 hf (th_T_s hb19 ro_61 hst143) (by decide)
                        have fv_H143_18 : mo_f G H143 a0 18 = mo_f G H122 a0 18 := mo_f_F hf h0 (by decide) (by decide)
                        have fv_H143_33 : mo_f G H143 a0 33 = mo_f G H122 a0 33 := mo_f_F hf h0 (by decide) (by decide)
                        have fv_H143_48 : mo_f G H143 a0 48 = mo_f G H122 a0 48 := mo_f_F hf h0 (by decide) (by decide)
                        have fv_H143_13 : mo_f G H143 a0 13 = mo_f G H122 a0 13 := mo_f_F hf h0 (by decide) (by decide)
                        have vv_H143_2 : mo_v G H143 a0 2 = mo_v G H122 a0 2 := mo_v_F (r := 48) hB.1 hf h0 rfl ro_48 (by decide) (by decide)
                        have vv_H143_3 : mo_v G H143 a0 3 = mo_v G H122 a0 3 := mo_v_F (r := 49) hB.1 hf h0 rfl ro_49 (by decide) (by decide)
                        have vv_H143_4 : mo_v G H143 a0 4 = mo_v G H122 a0 4 := mo_v_F (r := 50) hB.1 hf h0 rfl ro_50 (by decide) (by decide)
                        have vv_H143_5 : mo_v G H143 a0 5 = mo_v G H122 a0 5 := mo_v_F (r := 51) hB.1 hf h0 rfl ro_51 (by decide) (by decide)
                        have vv_H143_15 : mo_v G H143 a0 15 = mo_v G H122 a0 15 := mo_v_F (r := 55) hB.1 hf h0 rfl ro_55 (by decide) (by decide)
                        have vv_H143_32 : mo_v G H143 a0 32 = mo_v G H122 a0 32 := mo_v_F (r := 62) hB.1 hf h0 rfl ro_62 (by decide) (by decide)
                        have vs143 : mo_v G H143 a0 31 = mo_u (mo_v G H122 a0 31) j122_4.toInt x21.toInt := by rw [show (j122_4.toInt : Int) = j122_4.toInt by omega]; exact mo_v_st h0 hb19 (by decide) mb19 hst143 (by omega)
                        refine tr_iinc (fun x24 => [(4, .int x24), (1, .int x2), (0, .ref a0), (3, .int j95_3)]) hx hb dX12_orders_144 hl (k := 3) rfl (Eq.refl _) tk_1 (by omega) (by omega) (by decide) (fun _ => rfl) (fun x24 ls ex24 hl => ?_)
                        refine lv_goto (tgt := 122) hx hb dX12_orders_147 (by decide) ?_
                        exact ih122 H143 locs ls x24 hB hR (lv_sub hl [1, 2, 3, 0] rfl) (by omega) (by omega) (fun z a9 b9 => by rw [vs143]; by_cases q9 : z = j122_4.toInt; rw [mo_us q9, q9, ← g122_4, ← vgx21]; rw [mo_un q9]; exact g122_2 z a9 (by omega)) (vv_H143_2.trans g122_3) (vv_H143_32.trans g122_4) (by omega) (by omega)
                  exact lp122 ((2147483648 : Int) - (0)).toNat H116 locs ls 0 hB hR (lv_sub hl [2, 3, 4, 0] rfl) (by decide) (by decide) (fun z a9 b9 => by have w0 := tk_0; omega) rfl (by rw [vv_H116_32, vv_H105_32]; exact D95) (by have w0 := tk_0; omega) (by have w0 := tk_0; omega)
                · refine lv_goto (tgt := 167) hx hb dX12_orders_111 (by decide) ?_
                  refine tr_iincA (fun x25 => [(3, .int x25), (2, .int x11), (1, .int x2), (0, .ref a0)]) hx hb dX12_orders_167 hl (k := 3) rfl (by decide) (fun _ => rfl) (fun x25 ls hl => ?_)
                  have lx25 := ti_lo x25; have ux25 := ti_hi x25
                  refine lv_goto (tgt := 95) hx hb dX12_orders_170 (by decide) ?_
                  exact ih95 H105 locs ls x25 hB hR (lv_sub hl [1, 2, 3, 0] rfl) ⟨j1 + 1, by have q9 := z105_1 (by omega); omega, by omega, by rcases r1 with ⟨q9, -⟩ | ⟨-, q9⟩; exact Or.inl (by omega); exact Or.inr q9⟩ (fun z a9 => by rw [z105_0 z a9]; exact g95_1 z a9) (vv_H105_5.trans g95_2) (vv_H105_32.trans g95_3) (by omega) (by omega)
          exact lp95 ((2400 + nn + 3 - mo_f G H77 a0 48)).toNat H77 locs ls 0 hB hR (lv_sub hl [1, 2, 3, 0] rfl) ⟨0, by omega, by omega, Or.inr TX⟩ (fun z a9 => by rw [vv_H77_2, vv_H70_2, vv_H65_2]) (by rw [vv_H77_5, vv_H70_5, vv_H65_5]) (by rw [vv_H77_32, vv_H70_32, vv_H65_32]) (by have w0 := tk_0; omega) (by have w0 := tk_0; omega)
        · refine lv_aload_n hx hb dX12_orders_34 rfl (lv_at hl 0 rfl) ?_
          refine th_getO (j := 32) (r2 := 62) hC cf_X12 hB.1 h0 ro_46 rfl rfl kf_X12_75 dX12_orders_35 (fun b26 mb26 hb26 => ?_)
          have sb26 := (th_F_o hB.2.2 h0 ro_46 (j := 32) (by decide) (by decide)).symm.trans mb26
          refine lv_iload_n hx hb dX12_orders_38 rfl (lv_at hl 1 rfl) ?_
          refine lv_aload_n hx hb dX12_orders_39 rfl (lv_at hl 0 rfl) ?_
          refine th_getO (j := 31) (r2 := 61) hC cf_X12 hB.1 h0 ro_46 rfl rfl kf_X12_72 dX12_orders_40 (fun b27 mb27 hb27 => ?_)
          have sb27 := (th_F_o hB.2.2 h0 ro_46 (j := 31) (by decide) (by decide)).symm.trans mb27
          refine lv_iload_n hx hb dX12_orders_43 rfl (lv_at hl 1 rfl) ?_
          refine th_ialdF hC hB.1 hb27 ro_61 rfl (Eq.refl _) (by omega) (by omega) rfl dX12_orders_44 (fun x28 mx28 lx28 ux28 => ?_)
          have vgx28 : mo_v G H27 a0 31 j27_1.toInt = x28.toInt := by rw [show (j27_1.toInt : Int) = j27_1.toInt by omega]; exact mo_vat mb27 mx28 (by omega)
          refine th_iastF hC hB hb26 (Or.inl hb26) ro_62 rfl (by decide) (Eq.refl _) (by omega) (by omega) th_sIa dX12_orders_45 (fun H45 locs hB hf45 hst45 => ?_)
          have hf := hf45
          have mm29 := (th_F_o hf h0 ro_46 (j := 32) (by decide) (by decide)).trans mb26
          have mm30 := (th_F_o hf h0 ro_46 (j := 31) (by decide) (by decide)).trans mb27
          have hR := th_RN_F hB.1 hR h0 hf (th_T_s hb26 ro_62 hst45) (by decide)
          have fv_H45_18 : mo_f G H45 a0 18 = mo_f G H27 a0 18 := mo_f_F hf h0 (by decide) (by decide)
          have fv_H45_33 : mo_f G H45 a0 33 = mo_f G H27 a0 33 := mo_f_F hf h0 (by decide) (by decide)
          have fv_H45_48 : mo_f G H45 a0 48 = mo_f G H27 a0 48 := mo_f_F hf h0 (by decide) (by decide)
          have fv_H45_13 : mo_f G H45 a0 13 = mo_f G H27 a0 13 := mo_f_F hf h0 (by decide) (by decide)
          have vv_H45_2 : mo_v G H45 a0 2 = mo_v G H27 a0 2 := mo_v_F (r := 48) hB.1 hf h0 rfl ro_48 (by decide) (by decide)
          have vv_H45_3 : mo_v G H45 a0 3 = mo_v G H27 a0 3 := mo_v_F (r := 49) hB.1 hf h0 rfl ro_49 (by decide) (by decide)
          have vv_H45_4 : mo_v G H45 a0 4 = mo_v G H27 a0 4 := mo_v_F (r := 50) hB.1 hf h0 rfl ro_50 (by decide) (by decide)
          have vv_H45_31 : mo_v G H45 a0 31 = mo_v G H27 a0 31 := mo_v_F (r := 61) hB.1 hf h0 rfl ro_61 (by decide) (by decide)
          have vv_H45_5 : mo_v G H45 a0 5 = mo_v G H27 a0 5 := mo_v_F (r := 51) hB.1 hf h0 rfl ro_51 (by decide) (by decide)
          have vv_H45_15 : mo_v G H45 a0 15 = mo_v G H27 a0 15 := mo_v_F (r := 55) hB.1 hf h0 rfl ro_55 (by decide) (by decide)
          have vs45 : mo_v G H45 a0 32 = mo_u (mo_v G H27 a0 32) j27_1.toInt x28.toInt := by rw [show (j27_1.toInt : Int) = j27_1.toInt by omega]; exact mo_v_st h0 hb26 (by decide) mb26 hst45 (by omega)
          refine tr_iinc (fun x31 => [(1, .int x31), (0, .ref a0)]) hx hb dX12_orders_46 hl (k := 1) rfl (Eq.refl _) tk_1 (by omega) (by omega) (by decide) (fun _ => rfl) (fun x31 ls ex31 hl => ?_)
          refine lv_goto (tgt := 27) hx hb dX12_orders_49 (by decide) ?_
          exact ih27 H45 locs ls x31 hB hR (lv_sub hl [1, 0] rfl) (by omega) (by omega) (fun z a9 b9 => by rw [vs45]; by_cases q9 : z = j27_1.toInt; rw [mo_us q9, q9, ← g27_3.2.2.2.1, ← vgx28]; rw [mo_un q9]; exact g27_2 z a9 (by omega)) (mo_sr_tr g27_3 (mo_sr_F hB.1 hf h0 (by decide))) (by omega) (by omega)
    exact lp27 ((2147483648 : Int) - (0)).toNat H22 locs ls 0 hB hR (lv_sub hl [1, 0] rfl) (by decide) (by decide) (fun z a9 b9 => by have w0 := tk_0; omega) mo_sr_rf (by have w0 := tk_0; omega) (by have w0 := tk_0; omega)
  · refine lv_aload_n hx hb dX12_orders_13 rfl (lv_at hl 0 rfl) ?_
    refine lv_bipush (v := (-6)) hx hb dX12_orders_14 (by decide) ?_
    refine th_call (th_runV (As := [.int (-6)]) (rest := []) hC mf_X12_refuses km_X12_109 im_X12_refuses se_X12_refuses (c_X12_refuses l G Γ H7 hB.1 hR.1 a0 h0 (-6) (by decide) (by decide)) rfl rfl ⟨Nat.le_of_ble_eq_true rfl, Nat.le_of_ble_eq_true rfl⟩ hB.1 h0 ro_46 rfl rfl hl.1 rfl (Nat.le_of_ble_eq_true rfl) dX12_orders_16 ⟨Nat.le_refl _, Nat.le_refl _⟩) hB.2.1 (fun v16 H16 locs hp hz hS => ?_)
    have hRD := hR
    obtain ⟨x32, rfl, q16_0, hI1, hf, hR⟩ := hp
    have hR := th_RN_c hR hRD hI1 h0 hf (by decide)
    have hB := th_B_c hB hI1 hS hf (by decide)
    have fv_H16_18 : mo_f G H16 a0 18 = mo_f G H7 a0 18 := mo_f_F hf h0 (by decide) (by decide)
    have fv_H16_33 : mo_f G H16 a0 33 = mo_f G H7 a0 33 := mo_f_F hf h0 (by decide) (by decide)
    have fv_H16_48 : mo_f G H16 a0 48 = mo_f G H7 a0 48 := mo_f_F hf h0 (by decide) (by decide)
    have fv_H16_13 : mo_f G H16 a0 13 = mo_f G H7 a0 13 := mo_f_F hf h0 (by decide) (by decide)
    have vv_H16_2 : mo_v G H16 a0 2 = mo_v G H7 a0 2 := mo_v_F (r := 48) hB.1 hf h0 rfl ro_48 (by decide) (by decide)
    have vv_H16_3 : mo_v G H16 a0 3 = mo_v G H7 a0 3 := mo_v_F (r := 49) hB.1 hf h0 rfl ro_49 (by decide) (by decide)
    have vv_H16_4 : mo_v G H16 a0 4 = mo_v G H7 a0 4 := mo_v_F (r := 50) hB.1 hf h0 rfl ro_50 (by decide) (by decide)
    have vv_H16_31 : mo_v G H16 a0 31 = mo_v G H7 a0 31 := mo_v_F (r := 61) hB.1 hf h0 rfl ro_61 (by decide) (by decide)
    have vv_H16_5 : mo_v G H16 a0 5 = mo_v G H7 a0 5 := mo_v_F (r := 51) hB.1 hf h0 rfl ro_51 (by decide) (by decide)
    have vv_H16_15 : mo_v G H16 a0 15 = mo_v G H7 a0 15 := mo_v_F (r := 55) hB.1 hf h0 rfl ro_55 (by decide) (by decide)
    have vv_H16_32 : mo_v G H16 a0 32 = mo_v G H7 a0 32 := mo_v_F (r := 62) hB.1 hf h0 rfl ro_62 (by decide) (by decide)
    have w16_0 := tk_m6
    refine W.eq (g2 := F0 m 19 ls [.int x32]) rfl ?_
    exact th_iret hC hH hr hlocks rfl hB.2.1 ⟨_, rfl, hB.1, hB.2.2, hR, (by omega)⟩ dX12_orders_19

