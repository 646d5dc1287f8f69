set_option maxHeartbeats 4000000 in
set_option maxRecDepth 100000 in
theorem c_X7_prepare (l : Launch) (G : th_G) (Γ : th_Ga) (H0 : Heap) (hI : th_I G Γ H0) (hR : th_RC G Γ H0) (hU : dv_U Γ) (a0 : Nat) (h0 : Γ a0 = (27, 0)) (p1 : Nat) (h1 : Γ p1 = (3, 0)) (p2 : Value) (h2 : p2 = .null ∨ ∃ b : Nat, p2 = .ref b ∧ Γ b = (39, 0)) (p3 : Nat) (h3 : Γ p3 = (11, 0)) : Met l yX7_prepare (.code yX7_prepare cX7_prepare 4 (none) :: th_tb) ({ frames := 3, cells := 0, slots := 0, locals := 65 } : Room) (th_P [.ref a0, .ref p1, p2, .ref p3] G H0) (th_Q (fun (v : Option Value) (H1 : Heap) => v = none ∧ th_I G Γ H1 ∧ th_F G Γ [(27, 7), (27, 8), (27, 9), (27, 10), (27, 11), (10, 0)] H0 H1 ∧ th_RC G Γ H1 ∧ (th_sl H1 a0 (G.1.2 7 7) = .ref p3) ∧ (th_sl H1 a0 (G.1.2 7 8) = .ref p1)) G) 0 0 (fun q => G.2.2 ≤ q) := by
  refine th_met RX7 (by decide) rfl (by rcases h2 with rfl | ⟨b2, rfl, -⟩ <;> exact Nat.le_of_ble_eq_true rfl) ?_
  intro p e s m below meth c hC hH hr hlocks hnm ls hl
  have hx := hC.1
  have hb := hC.2.1
  have hB : th_B G Γ Γ [(27, 7), (27, 8), (27, 9), (27, 10), (27, 11), (10, 0)] H0 H0 [] := ⟨hI, va_S.rf, th_F_rf⟩
  have hl : lv_has ls 4 [(0, .ref a0), (1, .ref p1), (2, p2), (3, .ref p3)] := by clear hB; rcases h2 with rfl | ⟨b2, rfl, -⟩ <;> exact hl
  refine lv_aload_n hx hb dX7_prepare_0 rfl (lv_at hl 0 rfl) ?_
  refine lv_aload_n hx hb dX7_prepare_1 rfl (lv_at hl 1 rfl) ?_
  refine th_put hC cf_X7 hB h0 (Or.inl h0) ro_27 rfl (j := 8) rfl (th_sQ h1) (by decide) rfl rfl rfl kf_X7_38 dX7_prepare_2 (fun H2 locs hB hf hst2 => ?_)
  have hR := th_RC_F hB.1 hR hf (th_T_s h0 ro_27 hst2) (by decide)
  have mm1 := hst2.2.1
  refine lv_aload_n hx hb dX7_prepare_5 rfl (lv_at hl 0 rfl) ?_
  refine tr_vload_n hx hb dX7_prepare_6 rfl (lv_at hl 2 rfl) (tr_qr h2) ?_
  refine th_put hC cf_X7 hB h0 (Or.inl h0) ro_27 rfl (j := 9) rfl (th_sV h2) (by decide) rfl (tr_qn (tr_qr h2)).1 (tr_qn (tr_qr h2)).2 kf_X7_42 dX7_prepare_7 (fun H7 locs hB hf hst7 => ?_)
  have mm2 := (th_F_o hf h0 ro_27 (j := 8) (by decide) (by decide)).trans mm1
  have hR := th_RC_F hB.1 hR hf (th_T_s h0 ro_27 hst7) (by decide)
  refine lv_aload_n hx hb dX7_prepare_10 rfl (lv_at hl 0 rfl) ?_
  refine lv_aload_n hx hb dX7_prepare_11 rfl (lv_at hl 3 rfl) ?_
  refine th_put hC cf_X7 hB h0 (Or.inl h0) ro_27 rfl (j := 7) rfl (th_sQ h3) (by decide) rfl rfl rfl kf_X7_46 dX7_prepare_12 (fun H12 locs hB hf hst12 => ?_)
  have mm3 := (th_F_o hf h0 ro_27 (j := 8) (by decide) (by decide)).trans mm2
  have hR := th_RC_F hB.1 hR hf (th_T_s h0 ro_27 hst12) (by decide)
  have mm4 := hst12.2.1
  refine lv_aload_n hx hb dX7_prepare_15 rfl (lv_at hl 0 rfl) ?_
  refine lv_null hx hb dX7_prepare_16 ?_
  refine th_put hC cf_X7 hB h0 (Or.inl h0) ro_27 rfl (j := 10) rfl th_sN (by decide) rfl rfl rfl kf_X7_50 dX7_prepare_17 (fun H17 locs hB hf hst17 => ?_)
  have mm5 := (th_F_o hf h0 ro_27 (j := 8) (by decide) (by decide)).trans mm3
  have mm6 := (th_F_o hf h0 ro_27 (j := 7) (by decide) (by decide)).trans mm4
  have hR := th_RC_F hB.1 hR hf (th_T_s h0 ro_27 hst17) (by decide)
  refine lv_aload_n hx hb dX7_prepare_20 rfl (lv_at hl 0 rfl) ?_
  refine th_getK hC cf_X7 hB.1 h0 ro_27 rfl (j := 8) (by decide) mm5 kf_X7_38 dX7_prepare_21 ?_
  refine th_call (th_runV (As := []) (rest := []) hC mf_X1_drawRows km_X7_54 im_X1_drawRows se_X1_drawRows (c_X1_drawRows l G Γ H17 hB.1 hR hU p1 h1) rfl rfl ⟨Nat.le_of_ble_eq_true rfl, Nat.le_of_ble_eq_true rfl⟩ hB.1 h1 ro_3 rfl rfl hl.1 rfl (Nat.le_of_ble_eq_true rfl) dX7_prepare_24 ⟨Nat.le_refl _, Nat.le_refl _⟩) hB.2.1 (fun v24 H24 locs hp hz hS => ?_)
  obtain ⟨rfl, hI1, hf, hR, z24_0⟩ := hp
  have hB := th_B_c hB hI1 hS hf (by decide)
  have mm7 := (th_F_o hf h0 ro_27 (j := 8) (by decide) (by decide)).trans mm5
  have mm8 := (th_F_o hf h0 ro_27 (j := 7) (by decide) (by decide)).trans mm6
  refine W.eq (g2 := F0 m 27 ls []) rfl ?_
  refine lv_aload_n hx hb dX7_prepare_27 rfl (lv_at hl 0 rfl) ?_
  refine lv_aload_n hx hb dX7_prepare_28 rfl (lv_at hl 0 rfl) ?_
  refine th_getK hC cf_X7 hB.1 h0 ro_27 rfl (j := 8) (by decide) mm7 kf_X7_38 dX7_prepare_29 ?_
  refine th_call (th_runV (As := []) (rest := [.ref a0]) hC mf_X1_bareCells km_X7_59 im_X1_bareCells se_X1_bareCells (c_X1_bareCells l G Γ H24 hB.1 hU p1 h1) rfl rfl ⟨Nat.le_of_ble_eq_true rfl, Nat.le_of_ble_eq_true rfl⟩ hB.1 h1 ro_3 rfl rfl hl.1 rfl (Nat.le_of_ble_eq_true rfl) dX7_prepare_32 ⟨Nat.le_refl _, Nat.le_refl _⟩) hB.2.1 (fun v32 H32 locs hp hz hS => ?_)
  obtain ⟨x9, rfl, q32_0, rfl⟩ := hp
  have hB := th_B_s hB hS
  refine W.eq (g2 := F0 m 35 ls [.int x9, .ref a0]) rfl ?_
  refine th_put hC cf_X7 hB h0 (Or.inl h0) ro_27 rfl (j := 11) rfl th_sIa (by decide) rfl rfl rfl kf_X7_63 dX7_prepare_35 (fun H35 locs hB hf hst35 => ?_)
  have mm10 := (th_F_o hf h0 ro_27 (j := 8) (by decide) (by decide)).trans mm7
  have mm11 := (th_F_o hf h0 ro_27 (j := 7) (by decide) (by decide)).trans mm8
  have hR := th_RC_F hB.1 hR hf (th_T_s h0 ro_27 hst35) (by decide)
  exact th_vret hC hH hr hlocks hB.2.1 ⟨rfl, hB.1, hB.2.2, hR, mm11, mm10⟩ dX7_prepare_38

set_option maxHeartbeats 4000000 in
set_option maxRecDepth 100000 in
theorem c_X7_rowLength (l : Launch) (G : th_G) (Γ : th_Ga) (H0 : Heap) (hI : th_I G Γ H0) (hU : dv_U Γ) (a0 : Nat) (h0 : Γ a0 = (27, 0)) : Met l yX7_rowLength (.code yX7_rowLength cX7_rowLength 1 (some FieldType.int) :: th_tb) ({ frames := 0, cells := 0, slots := 0, locals := 0 } : Room) (th_P [.ref a0] G H0) (th_Q (fun (v : Option Value) (H1 : Heap) => ∃ r : Int32, v = some (.int r) ∧ H0 = H1) G) 0 0 (fun q => G.2.2 ≤ q) := by
  refine th_met RX7 (by decide) rfl (Nat.le_of_ble_eq_true rfl) ?_
  intro p e s m below meth c hC hH hr hlocks hnm ls hl
  have hx := hC.1
  have hb := hC.2.1
  have hB : th_B G Γ Γ [] H0 H0 [] := ⟨hI, va_S.rf, th_F_rf⟩
  have hl : lv_has ls 1 [(0, .ref a0)] := hl
  refine lv_aload_n hx hb dX7_rowLength_0 rfl (lv_at hl 0 rfl) ?_
  refine th_getI (j := 5) hC cf_X7 hB.1 h0 ro_27 rfl rfl kf_X7_31 dX7_rowLength_1 (fun x1 mx1 lx1 ux1 => ?_)
  exact th_iret hC hH hr hlocks rfl hB.2.1 ⟨_, rfl, rfl⟩ dX7_rowLength_4

set_option maxHeartbeats 4000000 in
set_option maxRecDepth 100000 in
theorem c_X7_rowCarpet (l : Launch) (G : th_G) (Γ : th_Ga) (H0 : Heap) (hI : th_I G Γ H0) (hU : dv_U Γ) (a0 : Nat) (h0 : Γ a0 = (27, 0)) (p1 : Int32) : Met l yX7_rowCarpet (.code yX7_rowCarpet cX7_rowCarpet 2 (some FieldType.int) :: th_tb) ({ frames := 0, cells := 0, slots := 0, locals := 0 } : Room) (th_P [.ref a0, .int p1] G H0) (th_Q (fun (v : Option Value) (H1 : Heap) => ∃ r : Int32, v = some (.int r) ∧ H0 = H1) G) 0 0 (fun q => G.2.2 ≤ q) := by
  refine th_met RX7 (by decide) rfl (Nat.le_of_ble_eq_true rfl) ?_
  intro p e s m below meth c hC hH hr hlocks hnm ls hl
  have hx := hC.1
  have hb := hC.2.1
  have hB : th_B G Γ Γ [] H0 H0 [] := ⟨hI, va_S.rf, th_F_rf⟩
  have hl : lv_has ls 2 [(0, .ref a0), (1, .int p1)] := hl
  have lp1 := ti_lo p1; have up1 := ti_hi p1
  refine lv_iload_n hx hb dX7_rowCarpet_0 rfl (lv_at hl 1 rfl) ?_
  refine tr_if_lt (tgt := 30) hx hb dX7_rowCarpet_1 (by decide) (Eq.refl _) (fun c1 => ?_) (fun c1 => ?_)
  · refine lv_iconst (v := (-1)) hx hb dX7_rowCarpet_30 (by decide) ?_
    exact th_iret hC hH hr hlocks rfl hB.2.1 ⟨_, rfl, rfl⟩ dX7_rowCarpet_31
  · refine lv_iload_n hx hb dX7_rowCarpet_4 rfl (lv_at hl 1 rfl) ?_
    refine lv_aload_n hx hb dX7_rowCarpet_5 rfl (lv_at hl 0 rfl) ?_
    refine th_getI (j := 5) hC cf_X7 hB.1 h0 ro_27 rfl rfl kf_X7_31 dX7_rowCarpet_6 (fun x1 mx1 lx1 ux1 => ?_)
    refine tr_icmp_ge (tgt := 30) hx hb dX7_rowCarpet_9 (by decide) (Eq.refl _) (Eq.refl _) (fun c9 => ?_) (fun c9 => ?_)
    · refine lv_iconst (v := (-1)) hx hb dX7_rowCarpet_30 (by decide) ?_
      exact th_iret hC hH hr hlocks rfl hB.2.1 ⟨_, rfl, rfl⟩ dX7_rowCarpet_31
    · refine lv_iload_n hx hb dX7_rowCarpet_12 rfl (lv_at hl 1 rfl) ?_
      refine lv_aload_n hx hb dX7_rowCarpet_13 rfl (lv_at hl 0 rfl) ?_
      refine th_getO (j := 4) (r2 := 31) hC cf_X7 hB.1 h0 ro_27 rfl rfl kf_X7_28 dX7_rowCarpet_14 (fun b2 mb2 hb2 => ?_)
      refine th_alen hC hB.1 hb2 ro_31 rfl (by decide) dX7_rowCarpet_17 (fun x3 ex3 lx3 ux3 => ?_)
      refine tr_icmp_ge (tgt := 30) hx hb dX7_rowCarpet_18 (by decide) (Eq.refl _) (Eq.refl _) (fun c18 => ?_) (fun c18 => ?_)
      · refine lv_iconst (v := (-1)) hx hb dX7_rowCarpet_30 (by decide) ?_
        exact th_iret hC hH hr hlocks rfl hB.2.1 ⟨_, rfl, rfl⟩ dX7_rowCarpet_31
      · refine lv_aload_n hx hb dX7_rowCarpet_21 rfl (lv_at hl 0 rfl) ?_
        refine th_getK hC cf_X7 hB.1 h0 ro_27 rfl (j := 4) (by decide) mb2 kf_X7_28 dX7_rowCarpet_22 ?_
        refine lv_iload_n hx hb dX7_rowCarpet_25 rfl (lv_at hl 1 rfl) ?_
        refine th_ialdF hC hB.1 hb2 ro_31 rfl (Eq.refl _) (by omega) (by omega) rfl dX7_rowCarpet_26 (fun x4 mx4 lx4 ux4 => ?_)
        refine lv_goto (tgt := 31) hx hb dX7_rowCarpet_27 (by decide) ?_
        exact th_iret hC hH hr hlocks rfl hB.2.1 ⟨_, rfl, rfl⟩ dX7_rowCarpet_31

set_option maxHeartbeats 4000000 in
set_option maxRecDepth 100000 in
theorem c_X7_areaReady (l : Launch) (G : th_G) (Γ : th_Ga) (H0 : Heap) (hI : th_I G Γ H0) (hU : dv_U Γ) (a0 : Nat) (h0 : Γ a0 = (27, 0)) (nn8 : ∃ b : Nat, th_sl H0 a0 (G.1.2 7 8) = .ref b ∧ Γ b = (3, 0)) : Met l yX7_areaReady (.code yX7_areaReady cX7_areaReady 3 (some FieldType.int) :: th_tb) ({ frames := 2, cells := 0, slots := 0, locals := 42 } : Room) (th_P [.ref a0] G H0) (th_Q (fun (v : Option Value) (H1 : Heap) => ∃ r : Int32, v = some (.int r) ∧ H0 = H1) G) 0 0 (fun q => G.2.2 ≤ q) := by
  refine th_met RX7 (by decide) rfl (Nat.le_of_ble_eq_true rfl) ?_
  intro p e s m below meth c hC hH hr hlocks hnm ls hl
  have hx := hC.1
  have hb := hC.2.1
  have hB : th_B G Γ Γ [] H0 H0 [] := ⟨hI, va_S.rf, th_F_rf⟩
  have hl : lv_has ls 3 [(0, .ref a0)] := hl
  obtain ⟨bn8, mbn8, hbn8⟩ := nn8
  refine lv_iconst (v := 0) hx hb dX7_areaReady_0 (by decide) ?_
  refine lv_istore_n (lv' := [(1, .int 0), (0, .ref a0)]) hx hb dX7_areaReady_1 rfl hl (by decide) rfl (fun ls hl => ?_)
  refine lv_iconst (v := 0) hx hb dX7_areaReady_2 (by decide) ?_
  refine lv_istore_n (lv' := [(2, .int 0), (1, .int 0), (0, .ref a0)]) hx hb dX7_areaReady_3 rfl hl (by decide) rfl (fun ls hl => ?_)
  have lp4 : ∀ (n4 : Nat) (locs : List Loc) (ls : Array Slot) (j4_1 : Int32) (j4_2 : Int32), th_B G Γ Γ [] H0 H0 locs → lv_has ls 3 [(0, .ref a0), (1, .int j4_1), (2, .int j4_2)] → 0 ≤ j4_2.toInt → j4_2.toInt ≤ 9 → (2147483648 : Int) - j4_2.toInt ≤ (n4 : Int) → W p l e ({ frames := 2, cells := 0, slots := 0, locals := 42 } : Room) s m ([.ref a0] : List Value).toArray below meth c H0 locs 0 0 (MQ below (th_Q (fun (v : Option Value) (H1 : Heap) => ∃ r : Int32, v = some (.int r) ∧ H0 = H1) G) ([.ref a0] : List Value).toArray s 0 0 (fun q => G.2.2 ≤ q)) (F0 m 4 ls []) := by
    intro n4
    induction n4 with
    | zero => intro locs ls j4_1 j4_2 hB hl g4_0 g4_1 hm4; exact absurd hm4 (by have := ti_hi j4_2; omega)
    | succ n4 ih4 =>
      intro locs ls j4_1 j4_2 hB hl g4_0 g4_1 hm4
      have lj4_1 := ti_lo j4_1; have uj4_1 := ti_hi j4_1
      have lj4_2 := ti_lo j4_2; have uj4_2 := ti_hi j4_2
      have hm4 : (2147483648 : Int) - j4_2.toInt ≤ (n4 : Int) + 1 := by omega
      refine lv_iload_n hx hb dX7_areaReady_4 rfl (lv_at hl 2 rfl) ?_
      refine lv_aload_n hx hb dX7_areaReady_5 rfl (lv_at hl 0 rfl) ?_
      refine th_getK hC cf_X7 hB.1 h0 ro_27 rfl (j := 8) (by decide) mbn8 kf_X7_38 dX7_areaReady_6 ?_
      refine th_getI (j := 7) hC cf_X1 hB.1 hbn8 ro_3 rfl rfl kf_X7_123 dX7_areaReady_9 (fun x1 mx1 lx1 ux1 => ?_)
      refine tr_icmp_ge (tgt := 58) hx hb dX7_areaReady_12 (by decide) (Eq.refl _) (Eq.refl _) (fun c12 => ?_) (fun c12 => ?_)
      · refine lv_iload_n hx hb dX7_areaReady_58 rfl (lv_at hl 1 rfl) ?_
        exact th_iret hC hH hr hlocks rfl hB.2.1 ⟨_, rfl, rfl⟩ dX7_areaReady_59
      · refine lv_iload_n hx hb dX7_areaReady_15 rfl (lv_at hl 1 rfl) ?_
        refine lv_aload_n hx hb dX7_areaReady_16 rfl (lv_at hl 0 rfl) ?_
        refine th_getK hC cf_X7 hB.1 h0 ro_27 rfl (j := 8) (by decide) mbn8 kf_X7_38 dX7_areaReady_17 ?_
        refine lv_iload_n hx hb dX7_areaReady_20 rfl (lv_at hl 2 rfl) ?_
        refine th_call (th_runV (As := [.int j4_2]) (rest := [.int j4_1]) hC mf_X1_isReady km_X7_141 im_X1_isReady se_X1_isReady (c_X1_isReady l G Γ H0 hB.1 hU bn8 hbn8 j4_2) rfl rfl ⟨Nat.le_of_ble_eq_true rfl, Nat.le_of_ble_eq_true rfl⟩ hB.1 hbn8 ro_3 rfl rfl hl.1 rfl (Nat.le_of_ble_eq_true rfl) dX7_areaReady_21 ⟨Nat.le_refl _, Nat.le_refl _⟩) hB.2.1 (fun v21 H21 locs hp hz hS => ?_)
        obtain ⟨x2, rfl, lx2, ux2, q21_0, q21_1, rfl⟩ := hp
        have hB := th_B_s hB hS
        refine W.eq (g2 := F0 m 24 ls [.int x2, .int j4_1]) rfl ?_
        have jn50 : ∀ (locs : List Loc) (ls : Array Slot) (s50_1 : Int32), th_B G Γ Γ [] H0 H0 locs → lv_has ls 3 [(0, .ref a0), (2, .int j4_2)] → 0 ≤ s50_1.toInt → s50_1.toInt ≤ 144 → W p l e ({ frames := 2, cells := 0, slots := 0, locals := 42 } : Room) s m ([.ref a0] : List Value).toArray below meth c H0 locs 0 0 (MQ below (th_Q (fun (v : Option Value) (H1 : Heap) => ∃ r : Int32, v = some (.int r) ∧ H0 = H1) G) ([.ref a0] : List Value).toArray s 0 0 (fun q => G.2.2 ≤ q)) (F0 m 50 ls [.int s50_1, .int j4_1]) := by
          intro locs ls s50_1 hB hl g50_0 g50_1
          have ls50_1 := ti_lo s50_1; have us50_1 := ti_hi s50_1
          refine lv_iadd hx hb dX7_areaReady_50 ?_
          refine lv_topi (fun x3 ex3 => ?_)
          have lx3 := ti_lo x3; have ux3 := ti_hi x3
          refine lv_istore_n (lv' := [(1, .int x3), (0, .ref a0), (2, .int j4_2)]) hx hb dX7_areaReady_51 rfl hl (by decide) rfl (fun ls hl => ?_)
          refine tr_iinc (fun x4 => [(2, .int x4), (1, .int x3), (0, .ref a0)]) hx hb dX7_areaReady_52 hl (k := 2) rfl (Eq.refl _) tk_1 (by omega) (by omega) (by decide) (fun _ => rfl) (fun x4 ls ex4 hl => ?_)
          refine lv_goto (tgt := 4) hx hb dX7_areaReady_55 (by decide) ?_
          exact ih4 locs ls x3 x4 hB (lv_sub hl [2, 1, 0] rfl) (by omega) (by omega) (by omega)
        refine tr_if_eq (tgt := 49) hx hb dX7_areaReady_24 (by decide) (Eq.refl _) (fun c24 => ?_) (fun c24 => ?_)
        · refine lv_iconst (v := 0) hx hb dX7_areaReady_49 (by decide) ?_
          exact jn50 locs ls 0 hB (lv_sub hl [0, 2] rfl) (by decide) (by decide)
        · refine lv_aload_n hx hb dX7_areaReady_27 rfl (lv_at hl 0 rfl) ?_
          refine th_getK hC cf_X7 hB.1 h0 ro_27 rfl (j := 8) (by decide) mbn8 kf_X7_38 dX7_areaReady_28 ?_
          refine th_getO (j := 0) (r2 := 4) hC cf_X1 hB.1 hbn8 ro_3 rfl rfl kf_X7_87 dX7_areaReady_31 (fun b5 mb5 hb5 => ?_)
          refine lv_iload_n hx hb dX7_areaReady_34 rfl (lv_at hl 2 rfl) ?_
          refine th_ialdF hC hB.1 hb5 ro_4 rfl (Eq.refl _) (by omega) (by omega) rfl dX7_areaReady_35 (fun x6 mx6 lx6 ux6 => ?_)
          refine lv_aload_n hx hb dX7_areaReady_36 rfl (lv_at hl 0 rfl) ?_
          refine th_getK hC cf_X7 hB.1 h0 ro_27 rfl (j := 8) (by decide) mbn8 kf_X7_38 dX7_areaReady_37 ?_
          refine th_getK hC cf_X1 hB.1 hbn8 ro_3 rfl (j := 0) (by decide) mb5 kf_X7_87 dX7_areaReady_40 ?_
          refine lv_iload_n hx hb dX7_areaReady_43 rfl (lv_at hl 2 rfl) ?_
          refine th_ialdF hC hB.1 hb5 ro_4 rfl (Eq.refl _) (by omega) (by omega) rfl dX7_areaReady_44 (fun x7 mx7 lx7 ux7 => ?_)
          have qx7 : x7.toInt = x6.toInt := by rw [show x7 = x6 from Value.int.inj (mx7.symm.trans mx6)]
          have q9 := ti_mulr (a := x6.toInt) (b := x7.toInt) (A := 12) (B := 12) (by omega) (by omega) (by omega) (by omega)
          generalize hex8 : x6.toInt * x7.toInt = wx8 at q9
          refine tr_imul hx hb dX7_areaReady_45 (Eq.refl _) (Eq.refl _) (by rw [hex8]; omega) (by rw [hex8]; omega) (fun x8 ex8 => ?_)
          rw [hex8] at ex8
          refine lv_goto (tgt := 50) hx hb dX7_areaReady_46 (by decide) ?_
          exact jn50 locs ls x8 hB (lv_sub hl [0, 2] rfl) (by omega) (by omega)
  exact lp4 ((2147483648 : Int) - (0)).toNat [] ls 0 0 hB (lv_sub hl [2, 1, 0] rfl) (by decide) (by decide) (by have w0 := tk_0; omega)

set_option maxHeartbeats 4000000 in
set_option maxRecDepth 100000 in
theorem c_X7_isBare (l : Launch) (G : th_G) (Γ : th_Ga) (H0 : Heap) (hI : th_I G Γ H0) (hU : dv_U Γ) (a0 : Nat) (h0 : Γ a0 = (27, 0)) (p1 : Int64) (p2 : Int32) (f2 : 0 ≤ p2.toInt) (g2 : p2.toInt ≤ 143) (nn8 : ∃ b : Nat, th_sl H0 a0 (G.1.2 7 8) = .ref b ∧ Γ b = (3, 0)) : Met l yX7_isBare (.code yX7_isBare cX7_isBare 6 (some FieldType.boolean) :: th_tb) ({ frames := 0, cells := 0, slots := 0, locals := 0 } : Room) (th_P [.ref a0, .long p1, .int p2] G H0) (th_Q (fun (v : Option Value) (H1 : Heap) => ∃ r : Int32, v = some (.int r) ∧ 0 ≤ r.toInt ∧ r.toInt ≤ 1 ∧ H0 = H1) G) 0 0 (fun q => G.2.2 ≤ q) := by
  refine th_met RX7 (by decide) rfl (Nat.le_of_ble_eq_true rfl) ?_
  intro p e s m below meth c hC hH hr hlocks hnm ls hl
  have hx := hC.1
  have hb := hC.2.1
  have hB : th_B G Γ Γ [] H0 H0 [] := ⟨hI, va_S.rf, th_F_rf⟩
  have hl : lv_has ls 6 [(0, .ref a0), (1, .long p1), (3, .int p2)] := hl
  have lp2 := ti_lo p2; have up2 := ti_hi p2
  obtain ⟨bn8, mbn8, hbn8⟩ := nn8
  refine lv_iload_n hx hb dX7_isBare_0 rfl (lv_at hl 2 rfl) ?_
  refine lv_bipush (v := 12) hx hb dX7_isBare_1 (by decide) ?_
  refine tr_irem hx hb dX7_isBare_3 (Eq.refl _) tk_12 (by omega) (by omega) (fun x1 ex1 => ?_)
  refine lv_istore (lv' := [(4, .int x1), (0, .ref a0), (1, .long p1), (3, .int p2)]) hx hb dX7_isBare_4 hl (by decide) rfl (fun ls hl => ?_)
  refine lv_iload_n hx hb dX7_isBare_6 rfl (lv_at hl 3 rfl) ?_
  refine lv_bipush (v := 12) hx hb dX7_isBare_7 (by decide) ?_
  refine tr_idiv hx hb dX7_isBare_9 (Eq.refl _) tk_12 (by omega) (by omega) (fun x2 ex2 => ?_)
  refine lv_istore (lv' := [(5, .int x2), (4, .int x1), (0, .ref a0), (1, .long p1), (3, .int p2)]) hx hb dX7_isBare_10 hl (by decide) rfl (fun ls hl => ?_)
  refine lv_iload hx hb dX7_isBare_12 (lv_at hl 1 rfl) ?_
  refine lv_aload_n hx hb dX7_isBare_14 rfl (lv_at hl 2 rfl) ?_
  refine th_getK hC cf_X7 hB.1 h0 ro_27 rfl (j := 8) (by decide) mbn8 kf_X7_38 dX7_isBare_15 ?_
  refine th_getI (j := 8) hC cf_X1 hB.1 hbn8 ro_3 rfl rfl kf_X7_74 dX7_isBare_18 (fun x3 mx3 lx3 ux3 => ?_)
  refine tr_icmp_ge (tgt := 75) hx hb dX7_isBare_21 (by decide) (Eq.refl _) (Eq.refl _) (fun c21 => ?_) (fun c21 => ?_)
  · refine lv_iconst (v := 0) hx hb dX7_isBare_75 (by decide) ?_
    exact th_iret hC hH hr hlocks narrow_b0 hB.2.1 ⟨_, rfl, by decide, by decide, rfl⟩ dX7_isBare_76
  · refine lv_iload hx hb dX7_isBare_24 (lv_at hl 0 rfl) ?_
    refine lv_aload_n hx hb dX7_isBare_26 rfl (lv_at hl 2 rfl) ?_
    refine th_getK hC cf_X7 hB.1 h0 ro_27 rfl (j := 8) (by decide) mbn8 kf_X7_38 dX7_isBare_27 ?_
    refine th_getI (j := 9) hC cf_X1 hB.1 hbn8 ro_3 rfl rfl kf_X7_80 dX7_isBare_30 (fun x4 mx4 lx4 ux4 => ?_)
    refine tr_icmp_ge (tgt := 75) hx hb dX7_isBare_33 (by decide) (Eq.refl _) (Eq.refl _) (fun c33 => ?_) (fun c33 => ?_)
    · refine lv_iconst (v := 0) hx hb dX7_isBare_75 (by decide) ?_
      exact th_iret hC hH hr hlocks narrow_b0 hB.2.1 ⟨_, rfl, by decide, by decide, rfl⟩ dX7_isBare_76
    · refine lv_aload_n hx hb dX7_isBare_36 rfl (lv_at hl 2 rfl) ?_
      refine th_getK hC cf_X7 hB.1 h0 ro_27 rfl (j := 8) (by decide) mbn8 kf_X7_38 dX7_isBare_37 ?_
      refine th_getO (j := 6) (r2 := 10) hC cf_X1 hB.1 hbn8 ro_3 rfl rfl kf_X7_167 dX7_isBare_40 (fun b5 mb5 hb5 => ?_)
      refine lv_iload hx hb dX7_isBare_43 (lv_at hl 0 rfl) ?_
      refine th_ialdF hC hB.1 hb5 ro_10 rfl (Eq.refl _) (by omega) (by omega) rfl dX7_isBare_45 (fun x6 mx6 lx6 ux6 => ?_)
      refine lv_iload hx hb dX7_isBare_46 (lv_at hl 1 rfl) ?_
      refine lv_ishr hx hb dX7_isBare_48 ?_
      refine lv_topi (fun x7 ex7 => ?_)
      have lx7 := ti_lo x7; have ux7 := ti_hi x7
      refine lv_iconst (v := 1) hx hb dX7_isBare_49 (by decide) ?_
      refine lv_iand hx hb dX7_isBare_50 ?_
      refine lv_topi (fun x8 ex8 => ?_)
      have lx8 := ti_lo x8; have ux8 := ti_hi x8
      have fx8 := ti_and x7 1 (m := 1) (by decide) (by decide)
      rw [← ex8] at fx8
      refine tr_if_ne (tgt := 75) hx hb dX7_isBare_51 (by decide) (Eq.refl _) (fun c51 => ?_) (fun c51 => ?_)
      · refine lv_iconst (v := 0) hx hb dX7_isBare_75 (by decide) ?_
        exact th_iret hC hH hr hlocks narrow_b0 hB.2.1 ⟨_, rfl, by decide, by decide, rfl⟩ dX7_isBare_76
      · refine lv_lload_n hx hb dX7_isBare_54 rfl (lv_at hl 3 rfl) ?_
        refine lv_iconst (v := 4) hx hb dX7_isBare_55 (by decide) ?_
        refine lv_iload hx hb dX7_isBare_56 (lv_at hl 1 rfl) ?_
        refine tr_imul hx hb dX7_isBare_58 tk_4 (Eq.refl _) (by omega) (by omega) (fun x9 ex9 => ?_)
        refine lv_lushr hx hb dX7_isBare_59 rfl ?_
        refine lv_topl (fun y10 ey10 => ?_)
        refine lv_ldc2 (v := 15) hx hb hC.2.2.2.1 (hC.2.2.2.2.1 _ kw_950) dX7_isBare_60 ?_
        refine lv_land hx hb dX7_isBare_63 ?_
        refine lv_topl (fun y11 ey11 => ?_)
        refine lv_iload hx hb dX7_isBare_64 (lv_at hl 0 rfl) ?_
        refine lv_i2l hx hb dX7_isBare_66 rfl ?_
        refine lv_topl (fun y12 ey12 => ?_)
        refine tr_lcmp hx hb dX7_isBare_67 (fun x13 fx13 gx13 => ?_)
        refine tr_if_gt (tgt := 75) hx hb dX7_isBare_68 (by decide) (Eq.refl _) (fun c68 => ?_) (fun c68 => ?_)
        · refine lv_iconst (v := 0) hx hb dX7_isBare_75 (by decide) ?_
          exact th_iret hC hH hr hlocks narrow_b0 hB.2.1 ⟨_, rfl, by decide, by decide, rfl⟩ dX7_isBare_76
        · refine lv_iconst (v := 1) hx hb dX7_isBare_71 (by decide) ?_
          refine lv_goto (tgt := 76) hx hb dX7_isBare_72 (by decide) ?_
          exact th_iret hC hH hr hlocks narrow_b1 hB.2.1 ⟨_, rfl, by decide, by decide, rfl⟩ dX7_isBare_76

set_option maxHeartbeats 4000000 in
set_option maxRecDepth 100000 in
theorem c_X7_firstBare (l : Launch) (G : th_G) (Γ : th_Ga) (H0 : Heap) (hI : th_I G Γ H0) (hU : dv_U Γ) (a0 : Nat) (h0 : Γ a0 = (27, 0)) (p1 : Int64) (p2 : Int32) (f2 : 0 ≤ p2.toInt) (g2 : p2.toInt ≤ 144) (nn8 : ∃ b : Nat, th_sl H0 a0 (G.1.2 7 8) = .ref b ∧ Γ b = (3, 0)) : Met l yX7_firstBare (.code yX7_firstBare cX7_firstBare 5 (some FieldType.int) :: th_tb) ({ frames := 1, cells := 0, slots := 0, locals := 25 } : Room) (th_P [.ref a0, .long p1, .int p2] G H0) (th_Q (fun (v : Option Value) (H1 : Heap) => ∃ r : Int32, v = some (.int r) ∧ (-1) ≤ r.toInt ∧ r.toInt ≤ 143 ∧ H0 = H1) G) 0 0 (fun q => G.2.2 ≤ q) := by
  refine th_met RX7 (by decide) rfl (Nat.le_of_ble_eq_true rfl) ?_
  intro p e s m below meth c hC hH hr hlocks hnm ls hl
  have hx := hC.1
  have hb := hC.2.1
  have hB : th_B G Γ Γ [] H0 H0 [] := ⟨hI, va_S.rf, th_F_rf⟩
  have hl : lv_has ls 5 [(0, .ref a0), (1, .long p1), (3, .int p2)] := hl
  have lp2 := ti_lo p2; have up2 := ti_hi p2
  obtain ⟨bn8, mbn8, hbn8⟩ := nn8
  refine lv_iload_n hx hb dX7_firstBare_0 rfl (lv_at hl 2 rfl) ?_
  refine lv_istore (lv' := [(4, .int p2), (0, .ref a0), (1, .long p1), (3, .int p2)]) hx hb dX7_firstBare_1 hl (by decide) rfl (fun ls hl => ?_)
  have lp3 : ∀ (n3 : Nat) (locs : List Loc) (ls : Array Slot) (j3_4 : Int32), th_B G Γ Γ [] H0 H0 locs → lv_has ls 5 [(0, .ref a0), (1, .long p1), (4, .int j3_4)] → 0 ≤ j3_4.toInt → j3_4.toInt ≤ 144 → (2147483648 : Int) - j3_4.toInt ≤ (n3 : Int) → W p l e ({ frames := 1, cells := 0, slots := 0, locals := 25 } : Room) s m ([.ref a0, .long p1, .int p2] : List Value).toArray below meth c H0 locs 0 0 (MQ below (th_Q (fun (v : Option Value) (H1 : Heap) => ∃ r : Int32, v = some (.int r) ∧ (-1) ≤ r.toInt ∧ r.toInt ≤ 143 ∧ H0 = H1) G) ([.ref a0, .long p1, .int p2] : List Value).toArray s 0 0 (fun q => G.2.2 ≤ q)) (F0 m 3 ls []) := by
    intro n3
    induction n3 with
    | zero => intro locs ls j3_4 hB hl g3_0 g3_1 hm3; exact absurd hm3 (by have := ti_hi j3_4; omega)
    | succ n3 ih3 =>
      intro locs ls j3_4 hB hl g3_0 g3_1 hm3
      have lj3_4 := ti_lo j3_4; have uj3_4 := ti_hi j3_4
      have hm3 : (2147483648 : Int) - j3_4.toInt ≤ (n3 : Int) + 1 := by omega
      refine lv_iload hx hb dX7_firstBare_3 (lv_at hl 2 rfl) ?_
      refine lv_sipush (v := 144) hx hb dX7_firstBare_5 (by decide) ?_
      refine tr_icmp_ge (tgt := 30) hx hb dX7_firstBare_8 (by decide) (Eq.refl _) tk_144 (fun c8 => ?_) (fun c8 => ?_)
      · refine lv_iconst (v := (-1)) hx hb dX7_firstBare_30 (by decide) ?_
        exact th_iret hC hH hr hlocks rfl hB.2.1 ⟨_, rfl, by decide, by decide, rfl⟩ dX7_firstBare_31
      · refine lv_aload_n hx hb dX7_firstBare_11 rfl (lv_at hl 0 rfl) ?_
        refine lv_lload_n hx hb dX7_firstBare_12 rfl (lv_at hl 1 rfl) ?_
        refine lv_iload hx hb dX7_firstBare_13 (lv_at hl 2 rfl) ?_
        refine th_call (th_runV (As := [.long p1, .int j3_4]) (rest := []) hC mf_X7_isBare km_X7_115 im_X7_isBare se_X7_isBare (c_X7_isBare l G Γ H0 hB.1 hU a0 h0 p1 j3_4 (by omega) (by omega) ⟨_, mbn8, hbn8⟩) rfl rfl ⟨Nat.le_of_ble_eq_true rfl, Nat.le_of_ble_eq_true rfl⟩ hB.1 h0 ro_27 rfl rfl hl.1 rfl (Nat.le_of_ble_eq_true rfl) dX7_firstBare_15 ⟨Nat.le_refl _, Nat.le_refl _⟩) hB.2.1 (fun v15 H15 locs hp hz hS => ?_)
        obtain ⟨x1, rfl, lx1, ux1, rfl⟩ := hp
        have hB := th_B_s hB hS
        refine W.eq (g2 := F0 m 18 ls [.int x1]) rfl ?_
        refine tr_if_eq (tgt := 24) hx hb dX7_firstBare_18 (by decide) (Eq.refl _) (fun c18 => ?_) (fun c18 => ?_)
        · refine tr_iinc (fun x2 => [(4, .int x2), (0, .ref a0), (1, .long p1)]) hx hb dX7_firstBare_24 hl (k := 2) rfl (Eq.refl _) tk_1 (by omega) (by omega) (by decide) (fun _ => rfl) (fun x2 ls ex2 hl => ?_)
          refine lv_goto (tgt := 3) hx hb dX7_firstBare_27 (by decide) ?_
          exact ih3 locs ls x2 hB (lv_sub hl [1, 2, 0] rfl) (by omega) (by omega) (by omega)
        · refine lv_iload hx hb dX7_firstBare_21 (lv_at hl 2 rfl) ?_
          exact th_iret hC hH hr hlocks rfl hB.2.1 ⟨_, rfl, by omega, by omega, rfl⟩ dX7_firstBare_23
  exact lp3 ((2147483648 : Int) - (p2.toInt)).toNat [] ls p2 hB (lv_sub hl [1, 2, 0] rfl) (by omega) (by omega) (by omega)

set_option maxHeartbeats 4000000 in
set_option maxRecDepth 100000 in
theorem c_X7_agreesWithSeen (l : Launch) (G : th_G) (Γ : th_Ga) (H0 : Heap) (hI : th_I G Γ H0) (hU : dv_U Γ) (a0 : Nat) (h0 : Γ a0 = (27, 0)) (p1 : Int32) (p2 : Int32) (p3 : Int32) : Met l yX7_agreesWithSeen (.code yX7_agreesWithSeen cX7_agreesWithSeen 7 (some FieldType.boolean) :: th_tb) ({ frames := 0, cells := 0, slots := 0, locals := 0 } : Room) (th_P [.ref a0, .int p1, .int p2, .int p3] G H0) (th_Q (fun (v : Option Value) (H1 : Heap) => ∃ r : Int32, v = some (.int r) ∧ 0 ≤ r.toInt ∧ r.toInt ≤ 1 ∧ H0 = H1) G) 0 0 (fun q => G.2.2 ≤ q) := by
  refine th_met RX7 (by decide) rfl (Nat.le_of_ble_eq_true rfl) ?_
  intro p e s m below meth c hC hH hr hlocks hnm ls hl
  have hx := hC.1
  have hb := hC.2.1
  have hB : th_B G Γ Γ [] H0 H0 [] := ⟨hI, va_S.rf, th_F_rf⟩
  have hl : lv_has ls 7 [(0, .ref a0), (1, .int p1), (2, .int p2), (3, .int p3)] := hl
  have lp1 := ti_lo p1; have up1 := ti_hi p1
  have lp2 := ti_lo p2; have up2 := ti_hi p2
  have lp3 := ti_lo p3; have up3 := ti_hi p3
  refine lv_iconst (v := 0) hx hb dX7_agreesWithSeen_0 (by decide) ?_
  refine lv_istore (lv' := [(4, .int 0), (0, .ref a0), (1, .int p1), (2, .int p2), (3, .int p3)]) hx hb dX7_agreesWithSeen_1 hl (by decide) rfl (fun ls hl => ?_)
  have lp3 : ∀ (n3 : Nat) (locs : List Loc) (ls : Array Slot) (j3_4 : Int32), th_B G Γ Γ [] H0 H0 locs → lv_has ls 7 [(0, .ref a0), (1, .int p1), (2, .int p2), (3, .int p3), (4, .int j3_4)] → 0 ≤ j3_4.toInt → j3_4.toInt ≤ 6 → (2147483648 : Int) - j3_4.toInt ≤ (n3 : Int) → W p l e ({ frames := 0, cells := 0, slots := 0, locals := 0 } : Room) s m ([.ref a0, .int p1, .int p2, .int p3] : List Value).toArray below meth c H0 locs 0 0 (MQ below (th_Q (fun (v : Option Value) (H1 : Heap) => ∃ r : Int32, v = some (.int r) ∧ 0 ≤ r.toInt ∧ r.toInt ≤ 1 ∧ H0 = H1) G) ([.ref a0, .int p1, .int p2, .int p3] : List Value).toArray s 0 0 (fun q => G.2.2 ≤ q)) (F0 m 3 ls []) := by
    intro n3
    induction n3 with
    | zero => intro locs ls j3_4 hB hl g3_0 g3_1 hm3; exact absurd hm3 (by have := ti_hi j3_4; omega)
    | succ n3 ih3 =>
      intro locs ls j3_4 hB hl g3_0 g3_1 hm3
      have lj3_4 := ti_lo j3_4; have uj3_4 := ti_hi j3_4
      have hm3 : (2147483648 : Int) - j3_4.toInt ≤ (n3 : Int) + 1 := by omega
      refine lv_aload_n hx hb dX7_agreesWithSeen_3 rfl (lv_at hl 0 rfl) ?_
      refine th_getQ (j := 10) (r2 := 32) hC cf_X7 hB.1 h0 ro_27 rfl rfl kf_X7_50 dX7_agreesWithSeen_4 (fun v1 mv1 hv1 => ?_)
      rcases hv1 with rfl | ⟨b2, rfl, hb2⟩
      · refine lv_ifnullN (tgt := 94) hx hb dX7_agreesWithSeen_7 (by decide) ?_
        refine lv_iconst (v := 1) hx hb dX7_agreesWithSeen_94 (by decide) ?_
        exact th_iret hC hH hr hlocks narrow_b1 hB.2.1 ⟨_, rfl, by decide, by decide, rfl⟩ dX7_agreesWithSeen_95
      · refine lv_ifnull hx hb dX7_agreesWithSeen_7 ?_
        refine lv_iload hx hb dX7_agreesWithSeen_10 (lv_at hl 4 rfl) ?_
        refine lv_aload_n hx hb dX7_agreesWithSeen_12 rfl (lv_at hl 0 rfl) ?_
        refine th_getK hC cf_X7 hB.1 h0 ro_27 rfl (j := 10) (by decide) mv1 kf_X7_50 dX7_agreesWithSeen_13 ?_
        refine th_getI (j := 7) hC cf_X8 hB.1 hb2 ro_32 rfl rfl kf_X7_66 dX7_agreesWithSeen_16 (fun x3 mx3 lx3 ux3 => ?_)
        refine tr_icmp_ge (tgt := 94) hx hb dX7_agreesWithSeen_19 (by decide) (Eq.refl _) (Eq.refl _) (fun c19 => ?_) (fun c19 => ?_)
        · refine lv_iconst (v := 1) hx hb dX7_agreesWithSeen_94 (by decide) ?_
          exact th_iret hC hH hr hlocks narrow_b1 hB.2.1 ⟨_, rfl, by decide, by decide, rfl⟩ dX7_agreesWithSeen_95
        · refine lv_aload_n hx hb dX7_agreesWithSeen_22 rfl (lv_at hl 0 rfl) ?_
          refine th_getK hC cf_X7 hB.1 h0 ro_27 rfl (j := 10) (by decide) mv1 kf_X7_50 dX7_agreesWithSeen_23 ?_
          refine th_getO (j := 2) (r2 := 34) hC cf_X8 hB.1 hb2 ro_32 rfl rfl kf_X7_71 dX7_agreesWithSeen_26 (fun b4 mb4 hb4 => ?_)
          refine lv_iload hx hb dX7_agreesWithSeen_29 (lv_at hl 4 rfl) ?_
          refine th_ialdF hC hB.1 hb4 ro_34 rfl (Eq.refl _) (by omega) (by omega) rfl dX7_agreesWithSeen_31 (fun x5 mx5 lx5 ux5 => ?_)
          refine lv_iload_n hx hb dX7_agreesWithSeen_32 rfl (lv_at hl 2 rfl) ?_
          refine lv_isub hx hb dX7_agreesWithSeen_33 ?_
          refine lv_topi (fun x6 ex6 => ?_)
          have lx6 := ti_lo x6; have ux6 := ti_hi x6
          refine lv_istore (lv' := [(5, .int x6), (0, .ref a0), (1, .int p1), (2, .int p2), (3, .int p3), (4, .int j3_4)]) hx hb dX7_agreesWithSeen_34 hl (by decide) rfl (fun ls hl => ?_)
          refine lv_aload_n hx hb dX7_agreesWithSeen_36 rfl (lv_at hl 1 rfl) ?_
          refine th_getK hC cf_X7 hB.1 h0 ro_27 rfl (j := 10) (by decide) mv1 kf_X7_50 dX7_agreesWithSeen_37 ?_
          refine th_getO (j := 3) (r2 := 35) hC cf_X8 hB.1 hb2 ro_32 rfl rfl kf_X7_77 dX7_agreesWithSeen_40 (fun b7 mb7 hb7 => ?_)
          refine lv_iload hx hb dX7_agreesWithSeen_43 (lv_at hl 5 rfl) ?_
          refine th_ialdF hC hB.1 hb7 ro_35 rfl (Eq.refl _) (by omega) (by omega) rfl dX7_agreesWithSeen_45 (fun x8 mx8 lx8 ux8 => ?_)
          refine lv_iload_n hx hb dX7_agreesWithSeen_46 rfl (lv_at hl 4 rfl) ?_
          refine lv_isub hx hb dX7_agreesWithSeen_47 ?_
          refine lv_topi (fun x9 ex9 => ?_)
          have lx9 := ti_lo x9; have ux9 := ti_hi x9
          refine lv_istore (lv' := [(6, .int x9), (5, .int x6), (0, .ref a0), (1, .int p1), (2, .int p2), (3, .int p3), (4, .int j3_4)]) hx hb dX7_agreesWithSeen_48 hl (by decide) rfl (fun ls hl => ?_)
          refine lv_iload hx hb dX7_agreesWithSeen_50 (lv_at hl 1 rfl) ?_
          have jn88 : ∀ (locs : List Loc) (ls : Array Slot) , th_B G Γ Γ [] H0 H0 locs → lv_has ls 7 [(0, .ref a0), (1, .int p1), (2, .int p2), (3, .int p3), (4, .int j3_4)] → W p l e ({ frames := 0, cells := 0, slots := 0, locals := 0 } : Room) s m ([.ref a0, .int p1, .int p2, .int p3] : List Value).toArray below meth c H0 locs 0 0 (MQ below (th_Q (fun (v : Option Value) (H1 : Heap) => ∃ r : Int32, v = some (.int r) ∧ 0 ≤ r.toInt ∧ r.toInt ≤ 1 ∧ H0 = H1) G) ([.ref a0, .int p1, .int p2, .int p3] : List Value).toArray s 0 0 (fun q => G.2.2 ≤ q)) (F0 m 88 ls []) := by
            intro locs ls hB hl
            refine tr_iinc (fun x10 => [(4, .int x10), (0, .ref a0), (1, .int p1), (2, .int p2), (3, .int p3)]) hx hb dX7_agreesWithSeen_88 hl (k := 4) rfl (Eq.refl _) tk_1 (by omega) (by omega) (by decide) (fun _ => rfl) (fun x10 ls ex10 hl => ?_)
            refine lv_goto (tgt := 3) hx hb dX7_agreesWithSeen_91 (by decide) ?_
            exact ih3 locs ls x10 hB (lv_sub hl [1, 2, 3, 4, 0] rfl) (by omega) (by omega) (by omega)
          refine tr_if_lt (tgt := 88) hx hb dX7_agreesWithSeen_52 (by decide) (Eq.refl _) (fun c52 => ?_) (fun c52 => ?_)
          · exact jn88 locs ls hB (lv_sub hl [2, 3, 4, 5, 6] rfl)
          · refine lv_iload hx hb dX7_agreesWithSeen_55 (lv_at hl 1 rfl) ?_
            refine lv_iload_n hx hb dX7_agreesWithSeen_57 rfl (lv_at hl 3 rfl) ?_
            refine tr_icmp_ge (tgt := 88) hx hb dX7_agreesWithSeen_58 (by decide) (Eq.refl _) (Eq.refl _) (fun c58 => ?_) (fun c58 => ?_)
            · exact jn88 locs ls hB (lv_sub hl [2, 3, 4, 5, 6] rfl)
            · refine lv_iload hx hb dX7_agreesWithSeen_61 (lv_at hl 0 rfl) ?_
              refine tr_if_lt (tgt := 88) hx hb dX7_agreesWithSeen_63 (by decide) (Eq.refl _) (fun c63 => ?_) (fun c63 => ?_)
              · exact jn88 locs ls hB (lv_sub hl [2, 3, 4, 5, 6] rfl)
              · refine lv_iload hx hb dX7_agreesWithSeen_66 (lv_at hl 0 rfl) ?_
                refine lv_iload_n hx hb dX7_agreesWithSeen_68 rfl (lv_at hl 3 rfl) ?_
                refine tr_icmp_ge (tgt := 88) hx hb dX7_agreesWithSeen_69 (by decide) (Eq.refl _) (Eq.refl _) (fun c69 => ?_) (fun c69 => ?_)
                · exact jn88 locs ls hB (lv_sub hl [2, 3, 4, 5, 6] rfl)
                · refine lv_aload_n hx hb dX7_agreesWithSeen_72 rfl (lv_at hl 2 rfl) ?_
                  refine th_getK hC cf_X7 hB.1 h0 ro_27 rfl (j := 10) (by decide) mv1 kf_X7_50 dX7_agreesWithSeen_73 ?_
                  refine th_getO (j := 4) (r2 := 36) hC cf_X8 hB.1 hb2 ro_32 rfl rfl kf_X7_90 dX7_agreesWithSeen_76 (fun b11 mb11 hb11 => ?_)
                  refine lv_iload hx hb dX7_agreesWithSeen_79 (lv_at hl 6 rfl) ?_
                  refine th_ialdF hC hB.1 hb11 ro_36 rfl (Eq.refl _) (by omega) (by omega) rfl dX7_agreesWithSeen_81 (fun x12 mx12 lx12 ux12 => ?_)
                  refine lv_iload_n hx hb dX7_agreesWithSeen_82 rfl (lv_at hl 3 rfl) ?_
                  refine tr_icmp_eq (tgt := 88) hx hb dX7_agreesWithSeen_83 (by decide) (Eq.refl _) (Eq.refl _) (fun c83 => ?_) (fun c83 => ?_)
                  · exact jn88 locs ls hB (lv_sub hl [2, 3, 4, 5, 6] rfl)
                  · refine lv_iconst (v := 0) hx hb dX7_agreesWithSeen_86 (by decide) ?_
                    exact th_iret hC hH hr hlocks narrow_b0 hB.2.1 ⟨_, rfl, by decide, by decide, rfl⟩ dX7_agreesWithSeen_87
  exact lp3 ((2147483648 : Int) - (0)).toNat [] ls 0 hB (lv_sub hl [1, 2, 3, 4, 0] rfl) (by decide) (by decide) (by have w0 := tk_0; omega)

set_option maxHeartbeats 4000000 in
set_option maxRecDepth 100000 in
theorem c_X7_keyWith (l : Launch) (G : th_G) (Γ : th_Ga) (H0 : Heap) (hI : th_I G Γ H0) (hU : dv_U Γ) (a0 : Nat) (h0 : Γ a0 = (27, 0)) (p1 : Int64) (p2 : Int32) (f2 : 0 ≤ p2.toInt) (g2 : p2.toInt ≤ 8) (p3 : Int32) (f3 : 0 ≤ p3.toInt) (g3 : p3.toInt ≤ 143) (nn8 : ∃ b : Nat, th_sl H0 a0 (G.1.2 7 8) = .ref b ∧ Γ b = (3, 0)) : Met l yX7_keyWith (.code yX7_keyWith cX7_keyWith 10 (some FieldType.long) :: th_tb) ({ frames := 0, cells := 0, slots := 0, locals := 0 } : Room) (th_P [.ref a0, .long p1, .int p2, .int p3] G H0) (th_Q (fun (v : Option Value) (H1 : Heap) => ∃ r : Int64, v = some (.long r) ∧ H0 = H1) G) 0 0 (fun q => G.2.2 ≤ q) := by
  refine th_met RX7 (by decide) rfl (Nat.le_of_ble_eq_true rfl) ?_
  intro p e s m below meth c hC hH hr hlocks hnm ls hl
  have hx := hC.1
  have hb := hC.2.1
  have hB : th_B G Γ Γ [] H0 H0 [] := ⟨hI, va_S.rf, th_F_rf⟩
  have hl : lv_has ls 10 [(0, .ref a0), (1, .long p1), (3, .int p2), (4, .int p3)] := hl
  have lp2 := ti_lo p2; have up2 := ti_hi p2
  have lp3 := ti_lo p3; have up3 := ti_hi p3
  obtain ⟨bn8, mbn8, hbn8⟩ := nn8
  refine lv_iload hx hb dX7_keyWith_0 (lv_at hl 3 rfl) ?_
  refine lv_bipush (v := 12) hx hb dX7_keyWith_2 (by decide) ?_
  refine tr_irem hx hb dX7_keyWith_4 (Eq.refl _) tk_12 (by omega) (by omega) (fun x1 ex1 => ?_)
  refine lv_istore (lv' := [(5, .int x1), (0, .ref a0), (1, .long p1), (3, .int p2), (4, .int p3)]) hx hb dX7_keyWith_5 hl (by decide) rfl (fun ls hl => ?_)
  refine lv_iload hx hb dX7_keyWith_7 (lv_at hl 4 rfl) ?_
  refine lv_bipush (v := 12) hx hb dX7_keyWith_9 (by decide) ?_
  refine tr_idiv hx hb dX7_keyWith_11 (Eq.refl _) tk_12 (by omega) (by omega) (fun x2 ex2 => ?_)
  refine lv_aload_n hx hb dX7_keyWith_12 rfl (lv_at hl 1 rfl) ?_
  refine th_getK hC cf_X7 hB.1 h0 ro_27 rfl (j := 8) (by decide) mbn8 kf_X7_38 dX7_keyWith_13 ?_
  refine th_getO (j := 0) (r2 := 4) hC cf_X1 hB.1 hbn8 ro_3 rfl rfl kf_X7_87 dX7_keyWith_16 (fun b3 mb3 hb3 => ?_)
  refine lv_iload_n hx hb dX7_keyWith_19 rfl (lv_at hl 3 rfl) ?_
  refine th_ialdF hC hB.1 hb3 ro_4 rfl (Eq.refl _) (by omega) (by omega) rfl dX7_keyWith_20 (fun x4 mx4 lx4 ux4 => ?_)
  refine tr_iadd hx hb dX7_keyWith_21 (Eq.refl _) (Eq.refl _) (by omega) (by omega) (fun x5 ex5 => ?_)
  refine lv_i2l hx hb dX7_keyWith_22 rfl ?_
  refine lv_topl (fun y6 ey6 => ?_)
  refine lv_lstore (lv' := [(6, .long y6), (5, .int x1), (0, .ref a0), (1, .long p1), (3, .int p2), (4, .int p3)]) hx hb dX7_keyWith_23 hl (by decide) rfl (fun ls hl => ?_)
  refine lv_lconst (v := 1) hx hb dX7_keyWith_25 rfl ?_
  refine lv_iconst (v := 4) hx hb dX7_keyWith_26 (by decide) ?_
  refine lv_aload_n hx hb dX7_keyWith_27 rfl (lv_at hl 2 rfl) ?_
  refine th_getK hC cf_X7 hB.1 h0 ro_27 rfl (j := 8) (by decide) mbn8 kf_X7_38 dX7_keyWith_28 ?_
  refine th_getK hC cf_X1 hB.1 hbn8 ro_3 rfl (j := 0) (by decide) mb3 kf_X7_87 dX7_keyWith_31 ?_
  refine lv_iload_n hx hb dX7_keyWith_34 rfl (lv_at hl 4 rfl) ?_
  refine th_ialdF hC hB.1 hb3 ro_4 rfl (Eq.refl _) (by omega) (by omega) rfl dX7_keyWith_35 (fun x7 mx7 lx7 ux7 => ?_)
  have qx7 : x7.toInt = x4.toInt := by rw [show x7 = x4 from Value.int.inj (mx7.symm.trans mx4)]
  refine tr_imul hx hb dX7_keyWith_36 tk_4 (Eq.refl _) (by omega) (by omega) (fun x8 ex8 => ?_)
  refine lv_lshl hx hb dX7_keyWith_37 rfl ?_
  refine lv_topl (fun y9 ey9 => ?_)
  refine lv_lconst (v := 1) hx hb dX7_keyWith_38 rfl ?_
  refine lv_lsub hx hb dX7_keyWith_39 ?_
  refine lv_topl (fun y10 ey10 => ?_)
  refine lv_iconst (v := 4) hx hb dX7_keyWith_40 (by decide) ?_
  refine lv_iload hx hb dX7_keyWith_41 (lv_at hl 1 rfl) ?_
  refine tr_imul hx hb dX7_keyWith_43 tk_4 (Eq.refl _) (by omega) (by omega) (fun x11 ex11 => ?_)
  refine lv_lshl hx hb dX7_keyWith_44 rfl ?_
  refine lv_topl (fun y12 ey12 => ?_)
  refine lv_lstore (lv' := [(8, .long y12), (6, .long y6), (5, .int x1), (0, .ref a0), (1, .long p1), (3, .int p2), (4, .int p3)]) hx hb dX7_keyWith_45 hl (by decide) rfl (fun ls hl => ?_)
  refine lv_lload_n hx hb dX7_keyWith_47 rfl (lv_at hl 4 rfl) ?_
  refine lv_lload hx hb dX7_keyWith_48 (lv_at hl 0 rfl) ?_
  refine lv_ldc2 (v := (-1)) hx hb hC.2.2.2.1 (hC.2.2.2.2.1 _ kw_969) dX7_keyWith_50 ?_
  refine lv_lxor hx hb dX7_keyWith_53 ?_
  refine lv_topl (fun y13 ey13 => ?_)
  refine lv_land hx hb dX7_keyWith_54 ?_
  refine lv_topl (fun y14 ey14 => ?_)
  refine lv_lload hx hb dX7_keyWith_55 (lv_at hl 1 rfl) ?_
  refine lv_ldc2 (v := 18764998447377) hx hb hC.2.2.2.1 (hC.2.2.2.2.1 _ kw_970) dX7_keyWith_57 ?_
  refine lv_lmul hx hb dX7_keyWith_60 ?_
  refine lv_topl (fun y15 ey15 => ?_)
  refine lv_iconst (v := 4) hx hb dX7_keyWith_61 (by decide) ?_
  refine lv_iload hx hb dX7_keyWith_62 (lv_at hl 2 rfl) ?_
  refine tr_imul hx hb dX7_keyWith_64 tk_4 (Eq.refl _) (by omega) (by omega) (fun x16 ex16 => ?_)
  refine lv_lshl hx hb dX7_keyWith_65 rfl ?_
  refine lv_topl (fun y17 ey17 => ?_)
  refine lv_lload hx hb dX7_keyWith_66 (lv_at hl 0 rfl) ?_
  refine lv_land hx hb dX7_keyWith_68 ?_
  refine lv_topl (fun y18 ey18 => ?_)
  refine lv_lor hx hb dX7_keyWith_69 ?_
  refine lv_topl (fun y19 ey19 => ?_)
  refine lv_lconst (v := 1) hx hb dX7_keyWith_70 rfl ?_
  refine lv_bipush (v := 48) hx hb dX7_keyWith_71 (by decide) ?_
  refine lv_iload_n hx hb dX7_keyWith_73 rfl (lv_at hl 5 rfl) ?_
  refine tr_iadd hx hb dX7_keyWith_74 tk_48 (Eq.refl _) (by omega) (by omega) (fun x20 ex20 => ?_)
  refine lv_lshl hx hb dX7_keyWith_75 rfl ?_
  refine lv_topl (fun y21 ey21 => ?_)
  refine lv_lor hx hb dX7_keyWith_76 ?_
  refine lv_topl (fun y22 ey22 => ?_)
  exact th_lret hC hH hr hlocks hB.2.1 ⟨_, rfl, rfl⟩ dX7_keyWith_77

set_option maxHeartbeats 4000000 in
set_option maxRecDepth 100000 in
theorem c_X7_cheaper (l : Launch) (G : th_G) (Γ : th_Ga) (H0 : Heap) (hI : th_I G Γ H0) (hU : dv_U Γ) (p1 : Int32) (p2 : Int32) (p3 : Int32) : Met l yX7_cheaper (.code yX7_cheaper cX7_cheaper 3 (some FieldType.int) :: th_tb) ({ frames := 1, cells := 0, slots := 0, locals := 21 } : Room) (th_P [.int p1, .int p2, .int p3] G H0) (th_Q (fun (v : Option Value) (H1 : Heap) => ∃ r : Int32, v = some (.int r) ∧ H0 = H1) G) 0 0 (fun q => G.2.2 ≤ q) := by
  refine th_met RX7 (by decide) rfl (Nat.le_of_ble_eq_true rfl) ?_
  intro p e s m below meth c hC hH hr hlocks hnm ls hl
  have hx := hC.1
  have hb := hC.2.1
  have hB : th_B G Γ Γ [] H0 H0 [] := ⟨hI, va_S.rf, th_F_rf⟩
  have hl : lv_has ls 3 [(0, .int p1), (1, .int p2), (2, .int p3)] := hl
  have lp1 := ti_lo p1; have up1 := ti_hi p1
  have lp2 := ti_lo p2; have up2 := ti_hi p2
  have lp3 := ti_lo p3; have up3 := ti_hi p3
  refine lv_iload_n hx hb dX7_cheaper_0 rfl (lv_at hl 1 rfl) ?_
  refine lv_iconst (v := (-1)) hx hb dX7_cheaper_1 (by decide) ?_
  refine tr_icmp_ne (tgt := 7) hx hb dX7_cheaper_2 (by decide) (Eq.refl _) tk_m1 (fun c2 => ?_) (fun c2 => ?_)
  · refine lv_iload_n hx hb dX7_cheaper_7 rfl (lv_at hl 0 rfl) ?_
    refine lv_iconst (v := (-1)) hx hb dX7_cheaper_8 (by decide) ?_
    refine tr_icmp_ne (tgt := 18) hx hb dX7_cheaper_9 (by decide) (Eq.refl _) tk_m1 (fun c9 => ?_) (fun c9 => ?_)
    · refine lv_iload_n hx hb dX7_cheaper_18 rfl (lv_at hl 0 rfl) ?_
      refine lv_iload_n hx hb dX7_cheaper_19 rfl (lv_at hl 1 rfl) ?_
      refine lv_iload_n hx hb dX7_cheaper_20 rfl (lv_at hl 2 rfl) ?_
      refine lv_iadd hx hb dX7_cheaper_21 ?_
      refine lv_topi (fun x1 ex1 => ?_)
      have lx1 := ti_lo x1; have ux1 := ti_hi x1
      refine tr_mmin hC kma_X7_164 hl.1 (Eq.refl _) (Eq.refl _) (Nat.le_of_ble_eq_true rfl) (Nat.le_of_ble_eq_true rfl) (Nat.le_of_ble_eq_true rfl) (Nat.le_of_ble_eq_true rfl) dX7_cheaper_22 (fun x2 ex2 => ?_)
      exact th_iret hC hH hr hlocks rfl hB.2.1 ⟨_, rfl, rfl⟩ dX7_cheaper_25
    · refine lv_iload_n hx hb dX7_cheaper_12 rfl (lv_at hl 1 rfl) ?_
      refine lv_iload_n hx hb dX7_cheaper_13 rfl (lv_at hl 2 rfl) ?_
      refine lv_iadd hx hb dX7_cheaper_14 ?_
      refine lv_topi (fun x3 ex3 => ?_)
      have lx3 := ti_lo x3; have ux3 := ti_hi x3
      refine lv_goto (tgt := 25) hx hb dX7_cheaper_15 (by decide) ?_
      exact th_iret hC hH hr hlocks rfl hB.2.1 ⟨_, rfl, rfl⟩ dX7_cheaper_25
  · refine lv_iload_n hx hb dX7_cheaper_5 rfl (lv_at hl 0 rfl) ?_
    exact th_iret hC hH hr hlocks rfl hB.2.1 ⟨_, rfl, rfl⟩ dX7_cheaper_6

set_option maxHeartbeats 4000000 in
set_option maxRecDepth 100000 in
theorem c_X7_priceAt (l : Launch) (G : th_G) (Γ : th_Ga) (H0 : Heap) (hI : th_I G Γ H0) (hR : th_RC G Γ H0) (hU : dv_U Γ) (a0 : Nat) (h0 : Γ a0 = (27, 0)) (p1 : Int32) (f1 : 0 ≤ p1.toInt) (g1 : p1.toInt ≤ 8) (p2 : Int32) (f2 : 0 ≤ p2.toInt) (g2 : p2.toInt ≤ 143) (nn7 : ∃ b : Nat, th_sl H0 a0 (G.1.2 7 7) = .ref b ∧ Γ b = (11, 0)) (nn8 : ∃ b : Nat, th_sl H0 a0 (G.1.2 7 8) = .ref b ∧ Γ b = (3, 0)) : Met l yX7_priceAt (.code yX7_priceAt cX7_priceAt 6 (some FieldType.int) :: th_tb) ({ frames := 4, cells := 0, slots := 0, locals := 105 } : Room) (th_P [.ref a0, .int p1, .int p2] G H0) (th_Q (fun (v : Option Value) (H1 : Heap) => ∃ r : Int32, v = some (.int r) ∧ th_I G Γ H1 ∧ th_F G Γ [(24, 0), (23, 3), (26, 0), (25, 0), (28, 0), (29, 0)] H0 H1 ∧ th_RC G Γ H1) G) 0 0 (fun q => G.2.2 ≤ q) := by
  refine th_met RX7 (by decide) rfl (Nat.le_of_ble_eq_true rfl) ?_
  intro p e s m below meth c hC hH hr hlocks hnm ls hl
  have hx := hC.1
  have hb := hC.2.1
  have hB : th_B G Γ Γ [(24, 0), (23, 3), (26, 0), (25, 0), (28, 0), (29, 0)] H0 H0 [] := ⟨hI, va_S.rf, th_F_rf⟩
  have hl : lv_has ls 6 [(0, .ref a0), (1, .int p1), (2, .int p2)] := hl
  have lp1 := ti_lo p1; have up1 := ti_hi p1
  have lp2 := ti_lo p2; have up2 := ti_hi p2
  obtain ⟨bn7, mbn7, hbn7⟩ := nn7
  obtain ⟨bn8, mbn8, hbn8⟩ := nn8
  refine lv_aload_n hx hb dX7_priceAt_0 rfl (lv_at hl 0 rfl) ?_
  refine th_getQ (j := 9) (r2 := 39) hC cf_X7 hB.1 h0 ro_27 rfl rfl kf_X7_42 dX7_priceAt_1 (fun v1 mv1 hv1 => ?_)
  rcases hv1 with rfl | ⟨b2, rfl, hb2⟩
  · refine lv_ifnonnullN hx hb dX7_priceAt_4 ?_
    refine lv_aload_n hx hb dX7_priceAt_7 rfl (lv_at hl 0 rfl) ?_
    refine th_getK hC cf_X7 hB.1 h0 ro_27 rfl (j := 8) (by decide) mbn8 kf_X7_38 dX7_priceAt_8 ?_
    refine th_getO (j := 0) (r2 := 4) hC cf_X1 hB.1 hbn8 ro_3 rfl rfl kf_X7_87 dX7_priceAt_11 (fun b3 mb3 hb3 => ?_)
    refine lv_iload_n hx hb dX7_priceAt_14 rfl (lv_at hl 1 rfl) ?_
    refine th_ialdF hC hB.1 hb3 ro_4 rfl (Eq.refl _) (by omega) (by omega) rfl dX7_priceAt_15 (fun x4 mx4 lx4 ux4 => ?_)
    exact th_iret hC hH hr hlocks rfl hB.2.1 ⟨_, rfl, hB.1, hB.2.2, hR⟩ dX7_priceAt_16
  · refine lv_ifnonnull (tgt := 17) hx hb dX7_priceAt_4 (by decide) ?_
    refine lv_iload_n hx hb dX7_priceAt_17 rfl (lv_at hl 1 rfl) ?_
    refine lv_sipush (v := 144) hx hb dX7_priceAt_18 (by decide) ?_
    refine tr_imul hx hb dX7_priceAt_21 (Eq.refl _) tk_144 (by omega) (by omega) (fun x5 ex5 => ?_)
    refine lv_iload_n hx hb dX7_priceAt_22 rfl (lv_at hl 2 rfl) ?_
    refine tr_iadd hx hb dX7_priceAt_23 (Eq.refl _) (Eq.refl _) (by omega) (by omega) (fun x6 ex6 => ?_)
    refine lv_istore_n (lv' := [(3, .int x6), (0, .ref a0), (1, .int p1), (2, .int p2)]) hx hb dX7_priceAt_24 rfl hl (by decide) rfl (fun ls hl => ?_)
    refine lv_aload_n hx hb dX7_priceAt_25 rfl (lv_at hl 1 rfl) ?_
    refine th_getO (j := 2) (r2 := 29) hC cf_X7 hB.1 h0 ro_27 rfl rfl kf_X7_22 dX7_priceAt_26 (fun b7 mb7 hb7 => ?_)
    refine lv_iload_n hx hb dX7_priceAt_29 rfl (lv_at hl 0 rfl) ?_
    refine th_ialdF hC hB.1 hb7 ro_29 rfl (Eq.refl _) (by omega) (by omega) rfl dX7_priceAt_30 (fun x8 mx8 lx8 ux8 => ?_)
    refine lv_aload_n hx hb dX7_priceAt_31 rfl (lv_at hl 1 rfl) ?_
    refine th_getI (j := 6) hC cf_X7 hB.1 h0 ro_27 rfl rfl kf_X7_35 dX7_priceAt_32 (fun x9 mx9 lx9 ux9 => ?_)
    refine tr_icmp_eq (tgt := 124) hx hb dX7_priceAt_35 (by decide) (Eq.refl _) (Eq.refl _) (fun c35 => ?_) (fun c35 => ?_)
    · refine lv_aload_n hx hb dX7_priceAt_124 rfl (lv_at hl 1 rfl) ?_
      refine th_getO (j := 1) (r2 := 28) hC cf_X7 hB.1 h0 ro_27 rfl rfl kf_X7_18 dX7_priceAt_125 (fun b10 mb10 hb10 => ?_)
      refine lv_iload_n hx hb dX7_priceAt_128 rfl (lv_at hl 0 rfl) ?_
      refine th_ialdF hC hB.1 hb10 ro_28 rfl (Eq.refl _) (by omega) (by omega) rfl dX7_priceAt_129 (fun x11 mx11 lx11 ux11 => ?_)
      exact th_iret hC hH hr hlocks rfl hB.2.1 ⟨_, rfl, hB.1, hB.2.2, hR⟩ dX7_priceAt_130
    · refine lv_iload_n hx hb dX7_priceAt_38 rfl (lv_at hl 3 rfl) ?_
      refine lv_bipush (v := 12) hx hb dX7_priceAt_39 (by decide) ?_
      refine tr_irem hx hb dX7_priceAt_41 (Eq.refl _) tk_12 (by omega) (by omega) (fun x12 ex12 => ?_)
      refine lv_istore (lv' := [(4, .int x12), (3, .int x6), (0, .ref a0), (1, .int p1), (2, .int p2)]) hx hb dX7_priceAt_42 hl (by decide) rfl (fun ls hl => ?_)
      refine lv_iload_n hx hb dX7_priceAt_44 rfl (lv_at hl 4 rfl) ?_
      refine lv_bipush (v := 12) hx hb dX7_priceAt_45 (by decide) ?_
      refine tr_idiv hx hb dX7_priceAt_47 (Eq.refl _) tk_12 (by omega) (by omega) (fun x13 ex13 => ?_)
      refine lv_istore (lv' := [(5, .int x13), (4, .int x12), (3, .int x6), (0, .ref a0), (1, .int p1), (2, .int p2)]) hx hb dX7_priceAt_48 hl (by decide) rfl (fun ls hl => ?_)
      refine lv_aload_n hx hb dX7_priceAt_50 rfl (lv_at hl 3 rfl) ?_
      refine th_getK hC cf_X7 hB.1 h0 ro_27 rfl (j := 2) (by decide) mb7 kf_X7_22 dX7_priceAt_51 ?_
      refine lv_iload_n hx hb dX7_priceAt_54 rfl (lv_at hl 2 rfl) ?_
      refine lv_aload_n hx hb dX7_priceAt_55 rfl (lv_at hl 3 rfl) ?_
      refine th_getK hC cf_X7 hB.1 h0 ro_27 rfl (j := 6) (by decide) mx9 kf_X7_35 dX7_priceAt_56 ?_
      refine th_iastF hC hB hb7 (Or.inl hb7) ro_29 rfl (by decide) (Eq.refl _) (by omega) (by omega) th_sIa dX7_priceAt_59 (fun H59 locs hB hf59 hst59 => ?_)
      have hf := hf59
      have mm14 := (th_F_o hf h0 ro_27 (j := 7) (by decide) (by decide)).trans mbn7
      have mm15 := (th_F_o hf h0 ro_27 (j := 8) (by decide) (by decide)).trans mbn8
      have mm16 := (th_F_o hf h0 ro_27 (j := 9) (by decide) (by decide)).trans mv1
      have mm17 := (th_F_o hf h0 ro_27 (j := 2) (by decide) (by decide)).trans mb7
      have mm18 := (th_F_o hf h0 ro_27 (j := 6) (by decide) (by decide)).trans mx9
      have hR := th_RC_F hB.1 hR hf (th_T_s hb7 ro_29 hst59) (by decide)
      refine lv_aload_n hx hb dX7_priceAt_60 rfl (lv_at hl 3 rfl) ?_
      refine th_getO (j := 1) (r2 := 28) hC cf_X7 hB.1 h0 ro_27 rfl rfl kf_X7_18 dX7_priceAt_61 (fun b19 mb19 hb19 => ?_)
      have sb19 := (th_F_o hB.2.2 h0 ro_27 (j := 1) (by decide) (by decide)).symm.trans mb19
      refine lv_iload_n hx hb dX7_priceAt_64 rfl (lv_at hl 2 rfl) ?_
      refine lv_aload_n hx hb dX7_priceAt_65 rfl (lv_at hl 3 rfl) ?_
      refine th_getK hC cf_X7 hB.1 h0 ro_27 rfl (j := 7) (by decide) mm14 kf_X7_46 dX7_priceAt_66 ?_
      refine lv_aload_n hx hb dX7_priceAt_69 rfl (lv_at hl 3 rfl) ?_
      refine th_getK hC cf_X7 hB.1 h0 ro_27 rfl (j := 9) (by decide) mm16 kf_X7_42 dX7_priceAt_70 ?_
      refine lv_aload_n hx hb dX7_priceAt_73 rfl (lv_at hl 3 rfl) ?_
      refine th_getK hC cf_X7 hB.1 h0 ro_27 rfl (j := 8) (by decide) mm15 kf_X7_38 dX7_priceAt_74 ?_
      refine lv_iload_n hx hb dX7_priceAt_77 rfl (lv_at hl 4 rfl) ?_
      refine lv_iload hx hb dX7_priceAt_78 (lv_at hl 1 rfl) ?_
      refine lv_iload hx hb dX7_priceAt_80 (lv_at hl 0 rfl) ?_
      refine th_call (th_runV (As := [.ref b2, .ref bn8, .int p1, .int x12, .int x13]) (rest := [.int x6, .ref b19]) hC mf_X2_isBarred km_X7_176 im_X2_isBarred se_X2_isBarred (c_X2_isBarred l G Γ H59 hB.1 hR hU bn7 hbn7 (.ref b2) (Or.inr ⟨_, rfl, hb2⟩) bn8 hbn8 p1 (by omega) (by omega) x12 x13) rfl rfl ⟨Nat.le_of_ble_eq_true rfl, Nat.le_of_ble_eq_true rfl⟩ hB.1 hbn7 ro_11 rfl rfl hl.1 rfl (Nat.le_of_ble_eq_true rfl) dX7_priceAt_82 ⟨Nat.le_refl _, Nat.le_refl _⟩) hB.2.1 (fun v82 H82 locs hp hz hS => ?_)
      obtain ⟨x20, rfl, lx20, ux20, hI1, hf, hR, z82_0⟩ := hp
      have hB := th_B_c hB hI1 hS hf (by decide)
      have mm21 := (th_F_o hf h0 ro_27 (j := 7) (by decide) (by decide)).trans mm14
      have mm22 := (th_F_o hf h0 ro_27 (j := 8) (by decide) (by decide)).trans mm15
      have mm23 := (th_F_o hf h0 ro_27 (j := 9) (by decide) (by decide)).trans mm16
      have mm24 := (th_F_o hf h0 ro_27 (j := 2) (by decide) (by decide)).trans mm17
      have mm25 := (th_F_o hf h0 ro_27 (j := 6) (by decide) (by decide)).trans mm18
      have mm26 := (th_F_o hf h0 ro_27 (j := 1) (by decide) (by decide)).trans mb19
      refine W.eq (g2 := F0 m 85 ls [.int x20, .int x6, .ref b19]) rfl ?_
      have jn123 : ∀ (H123 : Heap) (locs : List Loc) (ls : Array Slot) (s123_2 : Int32), th_B G Γ Γ [(24, 0), (23, 3), (26, 0), (25, 0), (28, 0), (29, 0)] H0 H123 locs → th_RC G Γ H123 → lv_has ls 6 [(3, .int x6), (0, .ref a0)] → (-1) ≤ s123_2.toInt → s123_2.toInt ≤ 99 → W p l e ({ frames := 4, cells := 0, slots := 0, locals := 105 } : Room) s m ([.ref a0, .int p1, .int p2] : List Value).toArray below meth c H123 locs 0 0 (MQ below (th_Q (fun (v : Option Value) (H1 : Heap) => ∃ r : Int32, v = some (.int r) ∧ th_I G Γ H1 ∧ th_F G Γ [(24, 0), (23, 3), (26, 0), (25, 0), (28, 0), (29, 0)] H0 H1 ∧ th_RC G Γ H1) G) ([.ref a0, .int p1, .int p2] : List Value).toArray s 0 0 (fun q => G.2.2 ≤ q)) (F0 m 123 ls [.int s123_2, .int x6, .ref b19]) := by
        intro H123 locs ls s123_2 hB hR hl g123_0 g123_1
        have ls123_2 := ti_lo s123_2; have us123_2 := ti_hi s123_2
        have mm27 := (th_F_o hB.2.2 h0 ro_27 (j := 1) (by decide) (by decide)).trans sb19
        refine th_iastF hC hB hb19 (Or.inl hb19) ro_28 rfl (by decide) (Eq.refl _) (by omega) (by omega) th_sIa dX7_priceAt_123 (fun H123 locs hB hf123 hst123 => ?_)
        have hf := hf123
        have mm28 := (th_F_o hf h0 ro_27 (j := 1) (by decide) (by decide)).trans mm27
        have hR := th_RC_F hB.1 hR hf (th_T_s hb19 ro_28 hst123) (by decide)
        refine lv_aload_n hx hb dX7_priceAt_124 rfl (lv_at hl 1 rfl) ?_
        refine th_getK hC cf_X7 hB.1 h0 ro_27 rfl (j := 1) (by decide) mm28 kf_X7_18 dX7_priceAt_125 ?_
        refine lv_iload_n hx hb dX7_priceAt_128 rfl (lv_at hl 0 rfl) ?_
        refine th_ialdF hC hB.1 hb19 ro_28 rfl (Eq.refl _) (by omega) (by omega) rfl dX7_priceAt_129 (fun x29 mx29 lx29 ux29 => ?_)
        exact th_iret hC hH hr hlocks rfl hB.2.1 ⟨_, rfl, hB.1, hB.2.2, hR⟩ dX7_priceAt_130
      refine tr_if_eq (tgt := 92) hx hb dX7_priceAt_85 (by decide) (Eq.refl _) (fun c85 => ?_) (fun c85 => ?_)
      · refine lv_aload_n hx hb dX7_priceAt_92 rfl (lv_at hl 3 rfl) ?_
        refine th_getI (j := 12) hC cf_X7 hB.1 h0 ro_27 rfl rfl kf_X7_131 dX7_priceAt_93 (fun x30 mx30 lx30 ux30 => ?_)
        refine tr_if_eq (tgt := 122) hx hb dX7_priceAt_96 (by decide) (Eq.refl _) (fun c96 => ?_) (fun c96 => ?_)
        · refine lv_iconst (v := 0) hx hb dX7_priceAt_122 (by decide) ?_
          exact jn123 H82 locs ls 0 hB hR (lv_sub hl [2, 3] rfl) (by decide) (by decide)
        · refine lv_aload_n hx hb dX7_priceAt_99 rfl (lv_at hl 3 rfl) ?_
          refine th_getK hC cf_X7 hB.1 h0 ro_27 rfl (j := 7) (by decide) mm21 kf_X7_46 dX7_priceAt_100 ?_
          refine lv_aload_n hx hb dX7_priceAt_103 rfl (lv_at hl 3 rfl) ?_
          refine th_getK hC cf_X7 hB.1 h0 ro_27 rfl (j := 9) (by decide) mm23 kf_X7_42 dX7_priceAt_104 ?_
          refine lv_aload_n hx hb dX7_priceAt_107 rfl (lv_at hl 3 rfl) ?_
          refine th_getK hC cf_X7 hB.1 h0 ro_27 rfl (j := 8) (by decide) mm22 kf_X7_38 dX7_priceAt_108 ?_
          refine lv_iload_n hx hb dX7_priceAt_111 rfl (lv_at hl 4 rfl) ?_
          refine lv_iload hx hb dX7_priceAt_112 (lv_at hl 1 rfl) ?_
          refine lv_iload hx hb dX7_priceAt_114 (lv_at hl 0 rfl) ?_
          refine th_call (th_runV (As := [.ref b2, .ref bn8, .int p1, .int x12, .int x13]) (rest := [.int x6, .ref b19]) hC mf_X2_costOf km_X7_182 im_X2_costOf se_X2_costOf (c_X2_costOf l G Γ H82 hB.1 hR hU bn7 hbn7 (.ref b2) (Or.inr ⟨_, rfl, hb2⟩) bn8 hbn8 p1 (by omega) (by omega) x12 x13) rfl rfl ⟨Nat.le_of_ble_eq_true rfl, Nat.le_of_ble_eq_true rfl⟩ hB.1 hbn7 ro_11 rfl rfl hl.1 rfl (Nat.le_of_ble_eq_true rfl) dX7_priceAt_116 ⟨Nat.le_refl _, Nat.le_refl _⟩) hB.2.1 (fun v116 H116 locs hp hz hS => ?_)
          obtain ⟨x31, rfl, lx31, ux31, hI1, hf, hR, z116_0⟩ := hp
          have hB := th_B_c hB hI1 hS hf (by decide)
          have mm32 := (th_F_o hf h0 ro_27 (j := 7) (by decide) (by decide)).trans mm21
          have mm33 := (th_F_o hf h0 ro_27 (j := 8) (by decide) (by decide)).trans mm22
          have mm34 := (th_F_o hf h0 ro_27 (j := 9) (by decide) (by decide)).trans mm23
          have mm35 := (th_F_o hf h0 ro_27 (j := 2) (by decide) (by decide)).trans mm24
          have mm36 := (th_F_o hf h0 ro_27 (j := 6) (by decide) (by decide)).trans mm25
          have mm37 := (th_F_o hf h0 ro_27 (j := 1) (by decide) (by decide)).trans mm26
          refine W.eq (g2 := F0 m 119 ls [.int x31, .int x6, .ref b19]) rfl ?_
          refine lv_goto (tgt := 123) hx hb dX7_priceAt_119 (by decide) ?_
          exact jn123 H116 locs ls x31 hB hR (lv_sub hl [2, 3] rfl) (by omega) (by omega)
      · refine lv_iconst (v := (-1)) hx hb dX7_priceAt_88 (by decide) ?_
        refine lv_goto (tgt := 123) hx hb dX7_priceAt_89 (by decide) ?_
        exact jn123 H82 locs ls (-1) hB hR (lv_sub hl [2, 3] rfl) (by decide) (by decide)

set_option maxHeartbeats 4000000 in
set_option maxRecDepth 100000 in
theorem c_X7_mostAt (l : Launch) (G : th_G) (Γ : th_Ga) (H0 : Heap) (hI : th_I G Γ H0) (hU : dv_U Γ) (a0 : Nat) (h0 : Γ a0 = (27, 0)) (p1 : Int32) (f1 : (-1) ≤ p1.toInt) (g1 : p1.toInt ≤ 143) (nn8 : ∃ b : Nat, th_sl H0 a0 (G.1.2 7 8) = .ref b ∧ Γ b = (3, 0)) : Met l yX7_mostAt (.code yX7_mostAt cX7_mostAt 4 (some FieldType.int) :: th_tb) ({ frames := 1, cells := 0, slots := 0, locals := 21 } : Room) (th_P [.ref a0, .int p1] G H0) (th_Q (fun (v : Option Value) (H1 : Heap) => ∃ r : Int32, v = some (.int r) ∧ H0 = H1) G) 0 0 (fun q => G.2.2 ≤ q) := by
  refine th_met RX7 (by decide) rfl (Nat.le_of_ble_eq_true rfl) ?_
  intro p e s m below meth c hC hH hr hlocks hnm ls hl
  have hx := hC.1
  have hb := hC.2.1
  have hB : th_B G Γ Γ [] H0 H0 [] := ⟨hI, va_S.rf, th_F_rf⟩
  have hl : lv_has ls 4 [(0, .ref a0), (1, .int p1)] := hl
  have lp1 := ti_lo p1; have up1 := ti_hi p1
  obtain ⟨bn8, mbn8, hbn8⟩ := nn8
  refine lv_iconst (v := 0) hx hb dX7_mostAt_0 (by decide) ?_
  refine lv_istore_n (lv' := [(2, .int 0), (0, .ref a0), (1, .int p1)]) hx hb dX7_mostAt_1 rfl hl (by decide) rfl (fun ls hl => ?_)
  refine lv_iconst (v := 0) hx hb dX7_mostAt_2 (by decide) ?_
  refine lv_istore_n (lv' := [(3, .int 0), (2, .int 0), (0, .ref a0), (1, .int p1)]) hx hb dX7_mostAt_3 rfl hl (by decide) rfl (fun ls hl => ?_)
  have lp4 : ∀ (n4 : Nat) (locs : List Loc) (ls : Array Slot) (j4_2 : Int32) (j4_3 : Int32), th_B G Γ Γ [] H0 H0 locs → lv_has ls 4 [(0, .ref a0), (1, .int p1), (2, .int j4_2), (3, .int j4_3)] → 0 ≤ j4_2.toInt → 0 ≤ j4_3.toInt → j4_3.toInt ≤ 9 → (2147483648 : Int) - j4_3.toInt ≤ (n4 : Int) → W p l e ({ frames := 1, cells := 0, slots := 0, locals := 21 } : Room) s m ([.ref a0, .int p1] : List Value).toArray below meth c H0 locs 0 0 (MQ below (th_Q (fun (v : Option Value) (H1 : Heap) => ∃ r : Int32, v = some (.int r) ∧ H0 = H1) G) ([.ref a0, .int p1] : List Value).toArray s 0 0 (fun q => G.2.2 ≤ q)) (F0 m 4 ls []) := by
    intro n4
    induction n4 with
    | zero => intro locs ls j4_2 j4_3 hB hl g4_0 g4_1 g4_2 hm4; exact absurd hm4 (by have := ti_hi j4_3; omega)
    | succ n4 ih4 =>
      intro locs ls j4_2 j4_3 hB hl g4_0 g4_1 g4_2 hm4
      have lj4_2 := ti_lo j4_2; have uj4_2 := ti_hi j4_2
      have lj4_3 := ti_lo j4_3; have uj4_3 := ti_hi j4_3
      have hm4 : (2147483648 : Int) - j4_3.toInt ≤ (n4 : Int) + 1 := by omega
      refine lv_iload_n hx hb dX7_mostAt_4 rfl (lv_at hl 3 rfl) ?_
      refine lv_aload_n hx hb dX7_mostAt_5 rfl (lv_at hl 0 rfl) ?_
      refine th_getK hC cf_X7 hB.1 h0 ro_27 rfl (j := 8) (by decide) mbn8 kf_X7_38 dX7_mostAt_6 ?_
      refine th_getI (j := 7) hC cf_X1 hB.1 hbn8 ro_3 rfl rfl kf_X7_123 dX7_mostAt_9 (fun x1 mx1 lx1 ux1 => ?_)
      refine tr_icmp_ge (tgt := 49) hx hb dX7_mostAt_12 (by decide) (Eq.refl _) (Eq.refl _) (fun c12 => ?_) (fun c12 => ?_)
      · refine lv_iload_n hx hb dX7_mostAt_49 rfl (lv_at hl 2 rfl) ?_
        exact th_iret hC hH hr hlocks rfl hB.2.1 ⟨_, rfl, rfl⟩ dX7_mostAt_50
      · refine lv_iload_n hx hb dX7_mostAt_15 rfl (lv_at hl 1 rfl) ?_
        refine tr_if_lt (tgt := 49) hx hb dX7_mostAt_16 (by decide) (Eq.refl _) (fun c16 => ?_) (fun c16 => ?_)
        · refine lv_iload_n hx hb dX7_mostAt_49 rfl (lv_at hl 2 rfl) ?_
          exact th_iret hC hH hr hlocks rfl hB.2.1 ⟨_, rfl, rfl⟩ dX7_mostAt_50
        · refine lv_iload_n hx hb dX7_mostAt_19 rfl (lv_at hl 1 rfl) ?_
          refine lv_sipush (v := 144) hx hb dX7_mostAt_20 (by decide) ?_
          refine tr_icmp_ge (tgt := 49) hx hb dX7_mostAt_23 (by decide) (Eq.refl _) tk_144 (fun c23 => ?_) (fun c23 => ?_)
          · exfalso; omega
          · refine lv_iload_n hx hb dX7_mostAt_26 rfl (lv_at hl 2 rfl) ?_
            refine lv_aload_n hx hb dX7_mostAt_27 rfl (lv_at hl 0 rfl) ?_
            refine th_getO (j := 3) (r2 := 30) hC cf_X7 hB.1 h0 ro_27 rfl rfl kf_X7_25 dX7_mostAt_28 (fun b2 mb2 hb2 => ?_)
            refine lv_iload_n hx hb dX7_mostAt_31 rfl (lv_at hl 3 rfl) ?_
            refine lv_sipush (v := 144) hx hb dX7_mostAt_32 (by decide) ?_
            refine tr_imul hx hb dX7_mostAt_35 (Eq.refl _) tk_144 (by omega) (by omega) (fun x3 ex3 => ?_)
            refine lv_iload_n hx hb dX7_mostAt_36 rfl (lv_at hl 1 rfl) ?_
            refine tr_iadd hx hb dX7_mostAt_37 (Eq.refl _) (Eq.refl _) (by omega) (by omega) (fun x4 ex4 => ?_)
            refine th_ialdF hC hB.1 hb2 ro_30 rfl (Eq.refl _) (by omega) (by omega) rfl dX7_mostAt_38 (fun x5 mx5 lx5 ux5 => ?_)
            refine tr_mmax hC kma_X7_126 hl.1 (Eq.refl _) (Eq.refl _) (Nat.le_of_ble_eq_true rfl) (Nat.le_of_ble_eq_true rfl) (Nat.le_of_ble_eq_true rfl) (Nat.le_of_ble_eq_true rfl) dX7_mostAt_39 (fun x6 ex6 => ?_)
            refine lv_istore_n (lv' := [(2, .int x6), (0, .ref a0), (1, .int p1), (3, .int j4_3)]) hx hb dX7_mostAt_42 rfl hl (by decide) rfl (fun ls hl => ?_)
            refine tr_iinc (fun x7 => [(3, .int x7), (2, .int x6), (0, .ref a0), (1, .int p1)]) hx hb dX7_mostAt_43 hl (k := 3) rfl (Eq.refl _) tk_1 (by omega) (by omega) (by decide) (fun _ => rfl) (fun x7 ls ex7 hl => ?_)
            refine lv_goto (tgt := 4) hx hb dX7_mostAt_46 (by decide) ?_
            exact ih4 locs ls x6 x7 hB (lv_sub hl [2, 3, 1, 0] rfl) (by omega) (by omega) (by omega) (by omega)
  exact lp4 ((2147483648 : Int) - (0)).toNat [] ls 0 0 hB (lv_sub hl [2, 3, 1, 0] rfl) (by decide) (by decide) (by decide) (by have w0 := tk_0; omega)

set_option maxHeartbeats 4000000 in
set_option maxRecDepth 100000 in
theorem c_X7_bestLook (l : Launch) (G : th_G) (Γ : th_Ga) (H0 : Heap) (hI : th_I G Γ H0) (hU : dv_U Γ) (a0 : Nat) (h0 : Γ a0 = (27, 0)) (nn8 : ∃ b : Nat, th_sl H0 a0 (G.1.2 7 8) = .ref b ∧ Γ b = (3, 0)) : Met l yX7_bestLook (.code yX7_bestLook cX7_bestLook 3 (some FieldType.int) :: th_tb) ({ frames := 2, cells := 0, slots := 0, locals := 44 } : Room) (th_P [.ref a0] G H0) (th_Q (fun (v : Option Value) (H1 : Heap) => ∃ r : Int32, v = some (.int r) ∧ (-1) ≤ r.toInt ∧ r.toInt ≤ 143 ∧ H0 = H1) G) 0 0 (fun q => G.2.2 ≤ q) := by
  refine th_met RX7 (by decide) rfl (Nat.le_of_ble_eq_true rfl) ?_
  intro p e s m below meth c hC hH hr hlocks hnm ls hl
  have hx := hC.1
  have hb := hC.2.1
  have hB : th_B G Γ Γ [] H0 H0 [] := ⟨hI, va_S.rf, th_F_rf⟩
  have hl : lv_has ls 3 [(0, .ref a0)] := hl
  obtain ⟨bn8, mbn8, hbn8⟩ := nn8
  refine lv_iconst (v := (-1)) hx hb dX7_bestLook_0 (by decide) ?_
  refine lv_istore_n (lv' := [(1, .int (-1)), (0, .ref a0)]) hx hb dX7_bestLook_1 rfl hl (by decide) rfl (fun ls hl => ?_)
  refine lv_iconst (v := 0) hx hb dX7_bestLook_2 (by decide) ?_
  refine lv_istore_n (lv' := [(2, .int 0), (1, .int (-1)), (0, .ref a0)]) hx hb dX7_bestLook_3 rfl hl (by decide) rfl (fun ls hl => ?_)
  have lp4 : ∀ (n4 : Nat) (locs : List Loc) (ls : Array Slot) (j4_1 : Int32) (j4_2 : Int32), th_B G Γ Γ [] H0 H0 locs → lv_has ls 3 [(0, .ref a0), (1, .int j4_1), (2, .int j4_2)] → (-1) ≤ j4_1.toInt → j4_1.toInt ≤ 143 → 0 ≤ j4_2.toInt → j4_2.toInt ≤ 144 → (2147483648 : Int) - j4_2.toInt ≤ (n4 : Int) → W p l e ({ frames := 2, cells := 0, slots := 0, locals := 44 } : Room) s m ([.ref a0] : List Value).toArray below meth c H0 locs 0 0 (MQ below (th_Q (fun (v : Option Value) (H1 : Heap) => ∃ r : Int32, v = some (.int r) ∧ (-1) ≤ r.toInt ∧ r.toInt ≤ 143 ∧ H0 = H1) G) ([.ref a0] : List Value).toArray s 0 0 (fun q => G.2.2 ≤ q)) (F0 m 4 ls []) := by
    intro n4
    induction n4 with
    | zero => intro locs ls j4_1 j4_2 hB hl g4_0 g4_1 g4_2 g4_3 hm4; exact absurd hm4 (by have := ti_hi j4_2; omega)
    | succ n4 ih4 =>
      intro locs ls j4_1 j4_2 hB hl g4_0 g4_1 g4_2 g4_3 hm4
      have lj4_1 := ti_lo j4_1; have uj4_1 := ti_hi j4_1
      have lj4_2 := ti_lo j4_2; have uj4_2 := ti_hi j4_2
      have hm4 : (2147483648 : Int) - j4_2.toInt ≤ (n4 : Int) + 1 := by omega
      refine lv_iload_n hx hb dX7_bestLook_4 rfl (lv_at hl 2 rfl) ?_
      refine lv_sipush (v := 144) hx hb dX7_bestLook_5 (by decide) ?_
      refine tr_icmp_ge (tgt := 46) hx hb dX7_bestLook_8 (by decide) (Eq.refl _) tk_144 (fun c8 => ?_) (fun c8 => ?_)
      · refine lv_iload_n hx hb dX7_bestLook_46 rfl (lv_at hl 1 rfl) ?_
        exact th_iret hC hH hr hlocks rfl hB.2.1 ⟨_, rfl, by omega, by omega, rfl⟩ dX7_bestLook_47
      · refine lv_aload_n hx hb dX7_bestLook_11 rfl (lv_at hl 0 rfl) ?_
        refine lv_lconst (v := 0) hx hb dX7_bestLook_12 rfl ?_
        refine lv_iload_n hx hb dX7_bestLook_13 rfl (lv_at hl 2 rfl) ?_
        refine th_call (th_runV (As := [.long 0, .int j4_2]) (rest := []) hC mf_X7_isBare km_X7_115 im_X7_isBare se_X7_isBare (c_X7_isBare l G Γ H0 hB.1 hU a0 h0 0 j4_2 (by omega) (by omega) ⟨_, mbn8, hbn8⟩) rfl rfl ⟨Nat.le_of_ble_eq_true rfl, Nat.le_of_ble_eq_true rfl⟩ hB.1 h0 ro_27 rfl rfl hl.1 rfl (Nat.le_of_ble_eq_true rfl) dX7_bestLook_14 ⟨Nat.le_refl _, Nat.le_refl _⟩) hB.2.1 (fun v14 H14 locs hp hz hS => ?_)
        obtain ⟨x1, rfl, lx1, ux1, rfl⟩ := hp
        have hB := th_B_s hB hS
        refine W.eq (g2 := F0 m 17 ls [.int x1]) rfl ?_
        have jn40 : ∀ (locs : List Loc) (ls : Array Slot) (j40_1 : Int32), th_B G Γ Γ [] H0 H0 locs → lv_has ls 3 [(0, .ref a0), (2, .int j4_2), (1, .int j40_1)] → (-1) ≤ j40_1.toInt → j40_1.toInt ≤ 143 → W p l e ({ frames := 2, cells := 0, slots := 0, locals := 44 } : Room) s m ([.ref a0] : List Value).toArray below meth c H0 locs 0 0 (MQ below (th_Q (fun (v : Option Value) (H1 : Heap) => ∃ r : Int32, v = some (.int r) ∧ (-1) ≤ r.toInt ∧ r.toInt ≤ 143 ∧ H0 = H1) G) ([.ref a0] : List Value).toArray s 0 0 (fun q => G.2.2 ≤ q)) (F0 m 40 ls []) := by
          intro locs ls j40_1 hB hl g40_0 g40_1
          have lj40_1 := ti_lo j40_1; have uj40_1 := ti_hi j40_1
          refine tr_iinc (fun x2 => [(2, .int x2), (0, .ref a0), (1, .int j40_1)]) hx hb dX7_bestLook_40 hl (k := 1) rfl (Eq.refl _) tk_1 (by omega) (by omega) (by decide) (fun _ => rfl) (fun x2 ls ex2 hl => ?_)
          refine lv_goto (tgt := 4) hx hb dX7_bestLook_43 (by decide) ?_
          exact ih4 locs ls j40_1 x2 hB (lv_sub hl [1, 2, 0] rfl) (by omega) (by omega) (by omega) (by omega) (by omega)
        refine tr_if_eq (tgt := 40) hx hb dX7_bestLook_17 (by decide) (Eq.refl _) (fun c17 => ?_) (fun c17 => ?_)
        · exact jn40 locs ls j4_1 hB (lv_sub hl [0, 2, 1] rfl) (by omega) (by omega)
        · refine lv_iload_n hx hb dX7_bestLook_20 rfl (lv_at hl 1 rfl) ?_
          refine lv_iconst (v := (-1)) hx hb dX7_bestLook_21 (by decide) ?_
          have jn38 : ∀ (locs : List Loc) (ls : Array Slot) , th_B G Γ Γ [] H0 H0 locs → lv_has ls 3 [(0, .ref a0), (2, .int j4_2)] → W p l e ({ frames := 2, cells := 0, slots := 0, locals := 44 } : Room) s m ([.ref a0] : List Value).toArray below meth c H0 locs 0 0 (MQ below (th_Q (fun (v : Option Value) (H1 : Heap) => ∃ r : Int32, v = some (.int r) ∧ (-1) ≤ r.toInt ∧ r.toInt ≤ 143 ∧ H0 = H1) G) ([.ref a0] : List Value).toArray s 0 0 (fun q => G.2.2 ≤ q)) (F0 m 38 ls []) := by
            intro locs ls hB hl
            refine lv_iload_n hx hb dX7_bestLook_38 rfl (lv_at hl 1 rfl) ?_
            refine lv_istore_n (lv' := [(1, .int j4_2), (0, .ref a0), (2, .int j4_2)]) hx hb dX7_bestLook_39 rfl hl (by decide) rfl (fun ls hl => ?_)
            exact jn40 locs ls j4_2 hB (lv_sub hl [1, 2, 0] rfl) (by omega) (by omega)
          refine tr_icmp_eq (tgt := 38) hx hb dX7_bestLook_22 (by decide) (Eq.refl _) tk_m1 (fun c22 => ?_) (fun c22 => ?_)
          · exact jn38 locs ls hB (lv_sub hl [0, 2] rfl)
          · refine lv_aload_n hx hb dX7_bestLook_25 rfl (lv_at hl 0 rfl) ?_
            refine lv_iload_n hx hb dX7_bestLook_26 rfl (lv_at hl 2 rfl) ?_
            refine th_call (th_runV (As := [.int j4_2]) (rest := []) hC mf_X7_mostAt km_X7_119 im_X7_mostAt se_X7_mostAt (c_X7_mostAt l G Γ H0 hB.1 hU a0 h0 j4_2 (by omega) (by omega) ⟨_, mbn8, hbn8⟩) rfl rfl ⟨Nat.le_of_ble_eq_true rfl, Nat.le_of_ble_eq_true rfl⟩ hB.1 h0 ro_27 rfl rfl hl.1 rfl (Nat.le_of_ble_eq_true rfl) dX7_bestLook_27 ⟨Nat.le_refl _, Nat.le_refl _⟩) hB.2.1 (fun v27 H27 locs hp hz hS => ?_)
            obtain ⟨x3, rfl, rfl⟩ := hp
            have hB := th_B_s hB hS
            refine W.eq (g2 := F0 m 30 ls [.int x3]) rfl ?_
            refine lv_aload_n hx hb dX7_bestLook_30 rfl (lv_at hl 0 rfl) ?_
            refine lv_iload_n hx hb dX7_bestLook_31 rfl (lv_at hl 1 rfl) ?_
            refine th_call (th_runV (As := [.int j4_1]) (rest := [.int x3]) hC mf_X7_mostAt km_X7_119 im_X7_mostAt se_X7_mostAt (c_X7_mostAt l G Γ H0 hB.1 hU a0 h0 j4_1 (by omega) (by omega) ⟨_, mbn8, hbn8⟩) rfl rfl ⟨Nat.le_of_ble_eq_true rfl, Nat.le_of_ble_eq_true rfl⟩ hB.1 h0 ro_27 rfl rfl hl.1 rfl (Nat.le_of_ble_eq_true rfl) dX7_bestLook_32 ⟨Nat.le_refl _, Nat.le_refl _⟩) hB.2.1 (fun v32 H32 locs hp hz hS => ?_)
            obtain ⟨x4, rfl, rfl⟩ := hp
            have hB := th_B_s hB hS
            refine W.eq (g2 := F0 m 35 ls [.int x4, .int x3]) rfl ?_
            refine tr_icmp_ge (tgt := 40) hx hb dX7_bestLook_35 (by decide) (Eq.refl _) (Eq.refl _) (fun c35 => ?_) (fun c35 => ?_)
            · exact jn40 locs ls j4_1 hB (lv_sub hl [0, 2, 1] rfl) (by omega) (by omega)
            · exact jn38 locs ls hB (lv_sub hl [0, 2] rfl)
  exact lp4 ((2147483648 : Int) - (0)).toNat [] ls (-1) 0 hB (lv_sub hl [2, 1, 0] rfl) (by decide) (by decide) (by decide) (by decide) (by have w0 := tk_0; have w1 := tk_m1; omega)

set_option maxHeartbeats 4000000 in
set_option maxRecDepth 100000 in
theorem c_X7_begin (l : Launch) (G : th_G) (Γ : th_Ga) (H0 : Heap) (hI : th_I G Γ H0) (hR : th_RC G Γ H0) (hU : dv_U Γ) (a0 : Nat) (h0 : Γ a0 = (27, 0)) (p1 : Int32) (f1 : 0 ≤ p1.toInt) (g1 : p1.toInt ≤ 1) (p2 : Int32) : Met l yX7_begin (.code yX7_begin cX7_begin 3 (none) :: th_tb) ({ frames := 1, cells := 0, slots := 0, locals := 21 } : Room) (th_P [.ref a0, .int p1, .int p2] G H0) (th_Q (fun (v : Option Value) (H1 : Heap) => v = none ∧ th_I G Γ H1 ∧ th_F G Γ [(27, 12), (27, 13), (27, 6), (27, 5), (12, 5), (12, 6)] H0 H1 ∧ th_RC G Γ H1) G) 0 0 (fun q => G.2.2 ≤ q) := by
  refine th_met RX7 (by decide) rfl (Nat.le_of_ble_eq_true rfl) ?_
  intro p e s m below meth c hC hH hr hlocks hnm ls hl
  have hx := hC.1
  have hb := hC.2.1
  have hB : th_B G Γ Γ [(27, 12), (27, 13), (27, 6), (27, 5), (12, 5), (12, 6)] H0 H0 [] := ⟨hI, va_S.rf, th_F_rf⟩
  have hl : lv_has ls 3 [(0, .ref a0), (1, .int p1), (2, .int p2)] := hl
  have lp1 := ti_lo p1; have up1 := ti_hi p1
  have lp2 := ti_lo p2; have up2 := ti_hi p2
  refine lv_aload_n hx hb dX7_begin_0 rfl (lv_at hl 0 rfl) ?_
  refine lv_iload_n hx hb dX7_begin_1 rfl (lv_at hl 1 rfl) ?_
  refine th_put hC cf_X7 hB h0 (Or.inl h0) ro_27 rfl (j := 12) rfl (th_sI (by omega) (by omega)) (by decide) rfl (th_nb (by omega) (by omega)) (th_fb (by omega) (by omega)) kf_X7_131 dX7_begin_2 (fun H2 locs hB hf hst2 => ?_)
  have hR := th_RC_F hB.1 hR hf (th_T_s h0 ro_27 hst2) (by decide)
  refine lv_aload_n hx hb dX7_begin_5 rfl (lv_at hl 0 rfl) ?_
  refine lv_iload_n hx hb dX7_begin_6 rfl (lv_at hl 2 rfl) ?_
  refine th_put hC cf_X7 hB h0 (Or.inl h0) ro_27 rfl (j := 13) rfl th_sIa (by decide) rfl rfl rfl kf_X7_135 dX7_begin_7 (fun H7 locs hB hf hst7 => ?_)
  have hR := th_RC_F hB.1 hR hf (th_T_s h0 ro_27 hst7) (by decide)
  refine lv_aload_n hx hb dX7_begin_10 rfl (lv_at hl 0 rfl) ?_
  refine th_getR (j := 0) (r2 := 12) hC cf_X7 hB.1 h0 ro_27 rfl rfl kf_X7_12 dX7_begin_11 (fun b1 mb1 hb1 => ?_)
  refine th_call (th_runV (As := []) (rest := []) hC mf_X3_clear km_X7_138 im_X3_clear se_X3_clear (c_X3_clear l G Γ H7 hB.1 hR b1 hb1) rfl rfl ⟨Nat.le_of_ble_eq_true rfl, Nat.le_of_ble_eq_true rfl⟩ hB.1 hb1 ro_12 rfl rfl hl.1 rfl (Nat.le_of_ble_eq_true rfl) dX7_begin_14 ⟨Nat.le_refl _, Nat.le_refl _⟩) hB.2.1 (fun v14 H14 locs hp hz hS => ?_)
  obtain ⟨rfl, hI1, hf, hR⟩ := hp
  have hB := th_B_c hB hI1 hS hf (by decide)
  refine W.eq (g2 := F0 m 17 ls []) rfl ?_
  refine lv_aload_n hx hb dX7_begin_17 rfl (lv_at hl 0 rfl) ?_
  refine lv_dup hx hb dX7_begin_18 rfl ?_
  refine th_getI (j := 6) hC cf_X7 hB.1 h0 ro_27 rfl rfl kf_X7_35 dX7_begin_19 (fun x2 mx2 lx2 ux2 => ?_)
  refine lv_iconst (v := 1) hx hb dX7_begin_22 (by decide) ?_
  refine lv_iadd hx hb dX7_begin_23 ?_
  refine lv_topi (fun x3 ex3 => ?_)
  have lx3 := ti_lo x3; have ux3 := ti_hi x3
  refine th_put hC cf_X7 hB h0 (Or.inl h0) ro_27 rfl (j := 6) rfl th_sIa (by decide) rfl rfl rfl kf_X7_35 dX7_begin_24 (fun H24 locs hB hf hst24 => ?_)
  have hR := th_RC_F hB.1 hR hf (th_T_s h0 ro_27 hst24) (by decide)
  refine lv_aload_n hx hb dX7_begin_27 rfl (lv_at hl 0 rfl) ?_
  refine lv_iconst (v := 0) hx hb dX7_begin_28 (by decide) ?_
  refine th_put hC cf_X7 hB h0 (Or.inl h0) ro_27 rfl (j := 5) rfl th_sIa (by decide) rfl rfl rfl kf_X7_31 dX7_begin_29 (fun H29 locs hB hf hst29 => ?_)
  have hR := th_RC_F hB.1 hR hf (th_T_s h0 ro_27 hst29) (by decide)
  exact th_vret hC hH hr hlocks hB.2.1 ⟨rfl, hB.1, hB.2.2, hR⟩ dX7_begin_32

set_option maxHeartbeats 4000000 in
set_option maxRecDepth 100000 in
theorem c_X7_heed (l : Launch) (G : th_G) (Γ : th_Ga) (H0 : Heap) (hI : th_I G Γ H0) (hR : th_RC G Γ H0) (hU : dv_U Γ) (a0 : Nat) (h0 : Γ a0 = (27, 0)) (p1 : Nat) (h1 : Γ p1 = (32, 0)) (nn8 : ∃ b : Nat, th_sl H0 a0 (G.1.2 7 8) = .ref b ∧ Γ b = (3, 0)) : Met l yX7_heed (.code yX7_heed cX7_heed 4 (some FieldType.boolean) :: th_tb) ({ frames := 3, cells := 0, slots := 0, locals := 65 } : Room) (th_P [.ref a0, .ref p1] G H0) (th_Q (fun (v : Option Value) (H1 : Heap) => ∃ r : Int32, v = some (.int r) ∧ 0 ≤ r.toInt ∧ r.toInt ≤ 1 ∧ th_I G Γ H1 ∧ th_F G Γ [(27, 10)] H0 H1 ∧ th_RC G Γ H1) G) 0 0 (fun q => G.2.2 ≤ q) := by
  refine th_met RX7 (by decide) rfl (Nat.le_of_ble_eq_true rfl) ?_
  intro p e s m below meth c hC hH hr hlocks hnm ls hl
  have hx := hC.1
  have hb := hC.2.1
  have hB : th_B G Γ Γ [(27, 10)] H0 H0 [] := ⟨hI, va_S.rf, th_F_rf⟩
  have hl : lv_has ls 4 [(0, .ref a0), (1, .ref p1)] := hl
  obtain ⟨bn8, mbn8, hbn8⟩ := nn8
  refine lv_aload_n hx hb dX7_heed_0 rfl (lv_at hl 0 rfl) ?_
  refine lv_aload_n hx hb dX7_heed_1 rfl (lv_at hl 1 rfl) ?_
  refine th_put hC cf_X7 hB h0 (Or.inl h0) ro_27 rfl (j := 10) rfl (th_sQ h1) (by decide) rfl rfl rfl kf_X7_50 dX7_heed_2 (fun H2 locs hB hf hst2 => ?_)
  have mm1 := (th_F_o hf h0 ro_27 (j := 8) (by decide) (by decide)).trans mbn8
  have hR := th_RC_F hB.1 hR hf (th_T_s h0 ro_27 hst2) (by decide)
  refine lv_iconst (v := 0) hx hb dX7_heed_5 (by decide) ?_
  refine lv_istore_n (lv' := [(2, .int 0), (0, .ref a0), (1, .ref p1)]) hx hb dX7_heed_6 rfl hl (by decide) rfl (fun ls hl => ?_)
  have lp7 : ∀ (n7 : Nat) (locs : List Loc) (ls : Array Slot) (j7_2 : Int32), th_B G Γ Γ [(27, 10)] H0 H2 locs → lv_has ls 4 [(0, .ref a0), (1, .ref p1), (2, .int j7_2)] → 0 ≤ j7_2.toInt → j7_2.toInt ≤ 6 → (2147483648 : Int) - j7_2.toInt ≤ (n7 : Int) → W p l e ({ frames := 3, cells := 0, slots := 0, locals := 65 } : Room) s m ([.ref a0, .ref p1] : List Value).toArray below meth c H2 locs 0 0 (MQ below (th_Q (fun (v : Option Value) (H1 : Heap) => ∃ r : Int32, v = some (.int r) ∧ 0 ≤ r.toInt ∧ r.toInt ≤ 1 ∧ th_I G Γ H1 ∧ th_F G Γ [(27, 10)] H0 H1 ∧ th_RC G Γ H1) G) ([.ref a0, .ref p1] : List Value).toArray s 0 0 (fun q => G.2.2 ≤ q)) (F0 m 7 ls []) := by
    intro n7
    induction n7 with
    | zero => intro locs ls j7_2 hB hl g7_0 g7_1 hm7; exact absurd hm7 (by have := ti_hi j7_2; omega)
    | succ n7 ih7 =>
      intro locs ls j7_2 hB hl g7_0 g7_1 hm7
      have lj7_2 := ti_lo j7_2; have uj7_2 := ti_hi j7_2
      have hm7 : (2147483648 : Int) - j7_2.toInt ≤ (n7 : Int) + 1 := by omega
      refine lv_iload_n hx hb dX7_heed_7 rfl (lv_at hl 2 rfl) ?_
      refine lv_aload_n hx hb dX7_heed_8 rfl (lv_at hl 1 rfl) ?_
      refine th_getI (j := 7) hC cf_X8 hB.1 h1 ro_32 rfl rfl kf_X7_66 dX7_heed_9 (fun x2 mx2 lx2 ux2 => ?_)
      have sx2 := (th_F_o hB.2.2 h1 ro_32 (j := 7) (by decide) (by decide)).symm.trans mx2
      refine tr_icmp_ge (tgt := 100) hx hb dX7_heed_12 (by decide) (Eq.refl _) (Eq.refl _) (fun c12 => ?_) (fun c12 => ?_)
      · refine lv_iconst (v := 1) hx hb dX7_heed_100 (by decide) ?_
        exact th_iret hC hH hr hlocks narrow_b1 hB.2.1 ⟨_, rfl, by decide, by decide, hB.1, hB.2.2, hR⟩ dX7_heed_101
      · refine lv_aload_n hx hb dX7_heed_15 rfl (lv_at hl 1 rfl) ?_
        refine th_getO (j := 2) (r2 := 34) hC cf_X8 hB.1 h1 ro_32 rfl rfl kf_X7_71 dX7_heed_16 (fun b3 mb3 hb3 => ?_)
        have sb3 := (th_F_o hB.2.2 h1 ro_32 (j := 2) (by decide) (by decide)).symm.trans mb3
        refine lv_iload_n hx hb dX7_heed_19 rfl (lv_at hl 2 rfl) ?_
        refine th_ialdF hC hB.1 hb3 ro_34 rfl (Eq.refl _) (by omega) (by omega) rfl dX7_heed_20 (fun x4 mx4 lx4 ux4 => ?_)
        refine lv_aload_n hx hb dX7_heed_21 rfl (lv_at hl 0 rfl) ?_
        refine th_getK hC cf_X7 hB.1 h0 ro_27 rfl (j := 8) (by decide) mm1 kf_X7_38 dX7_heed_22 ?_
        refine th_getI (j := 8) hC cf_X1 hB.1 hbn8 ro_3 rfl rfl kf_X7_74 dX7_heed_25 (fun x5 mx5 lx5 ux5 => ?_)
        have sx5 := (th_F_o hB.2.2 hbn8 ro_3 (j := 8) (by decide) (by decide)).symm.trans mx5
        refine tr_icmp_ge (tgt := 47) hx hb dX7_heed_28 (by decide) (Eq.refl _) (Eq.refl _) (fun c28 => ?_) (fun c28 => ?_)
        · refine lv_iconst (v := 0) hx hb dX7_heed_47 (by decide) ?_
          exact th_iret hC hH hr hlocks narrow_b0 hB.2.1 ⟨_, rfl, by decide, by decide, hB.1, hB.2.2, hR⟩ dX7_heed_48
        · refine lv_aload_n hx hb dX7_heed_31 rfl (lv_at hl 1 rfl) ?_
          refine th_getO (j := 3) (r2 := 35) hC cf_X8 hB.1 h1 ro_32 rfl rfl kf_X7_77 dX7_heed_32 (fun b6 mb6 hb6 => ?_)
          have sb6 := (th_F_o hB.2.2 h1 ro_32 (j := 3) (by decide) (by decide)).symm.trans mb6
          refine lv_iload_n hx hb dX7_heed_35 rfl (lv_at hl 2 rfl) ?_
          refine th_ialdF hC hB.1 hb6 ro_35 rfl (Eq.refl _) (by omega) (by omega) rfl dX7_heed_36 (fun x7 mx7 lx7 ux7 => ?_)
          refine lv_aload_n hx hb dX7_heed_37 rfl (lv_at hl 0 rfl) ?_
          refine th_getK hC cf_X7 hB.1 h0 ro_27 rfl (j := 8) (by decide) mm1 kf_X7_38 dX7_heed_38 ?_
          refine th_getI (j := 9) hC cf_X1 hB.1 hbn8 ro_3 rfl rfl kf_X7_80 dX7_heed_41 (fun x8 mx8 lx8 ux8 => ?_)
          have sx8 := (th_F_o hB.2.2 hbn8 ro_3 (j := 9) (by decide) (by decide)).symm.trans mx8
          refine tr_icmp_lt (tgt := 49) hx hb dX7_heed_44 (by decide) (Eq.refl _) (Eq.refl _) (fun c44 => ?_) (fun c44 => ?_)
          · refine lv_aload_n hx hb dX7_heed_49 rfl (lv_at hl 0 rfl) ?_
            refine th_getK hC cf_X7 hB.1 h0 ro_27 rfl (j := 8) (by decide) mm1 kf_X7_38 dX7_heed_50 ?_
            refine lv_aload_n hx hb dX7_heed_53 rfl (lv_at hl 1 rfl) ?_
            refine th_getK hC cf_X8 hB.1 h1 ro_32 rfl (j := 2) (by decide) mb3 kf_X7_71 dX7_heed_54 ?_
            refine lv_iload_n hx hb dX7_heed_57 rfl (lv_at hl 2 rfl) ?_
            refine th_ialdF hC hB.1 hb3 ro_34 rfl (Eq.refl _) (by omega) (by omega) rfl dX7_heed_58 (fun x9 mx9 lx9 ux9 => ?_)
            have qx9 : x9.toInt = x4.toInt := by rw [show x9 = x4 from Value.int.inj (mx9.symm.trans mx4)]
            refine lv_aload_n hx hb dX7_heed_59 rfl (lv_at hl 1 rfl) ?_
            refine th_getK hC cf_X8 hB.1 h1 ro_32 rfl (j := 3) (by decide) mb6 kf_X7_77 dX7_heed_60 ?_
            refine lv_iload_n hx hb dX7_heed_63 rfl (lv_at hl 2 rfl) ?_
            refine th_ialdF hC hB.1 hb6 ro_35 rfl (Eq.refl _) (by omega) (by omega) rfl dX7_heed_64 (fun x10 mx10 lx10 ux10 => ?_)
            have qx10 : x10.toInt = x7.toInt := by rw [show x10 = x7 from Value.int.inj (mx10.symm.trans mx7)]
            refine th_call (th_runV (As := [.int x9, .int x10]) (rest := []) hC mf_X1_carpetOn km_X7_83 im_X1_carpetOn se_X1_carpetOn (c_X1_carpetOn l G Γ H2 hB.1 hU bn8 hbn8 x9 x10) rfl rfl ⟨Nat.le_of_ble_eq_true rfl, Nat.le_of_ble_eq_true rfl⟩ hB.1 hbn8 ro_3 rfl rfl hl.1 rfl (Nat.le_of_ble_eq_true rfl) dX7_heed_65 ⟨Nat.le_refl _, Nat.le_refl _⟩) hB.2.1 (fun v65 H65 locs hp hz hS => ?_)
            obtain ⟨x11, rfl, lx11, ux11, q65_0, rfl⟩ := hp
            have hB := th_B_s hB hS
            refine W.eq (g2 := F0 m 68 ls [.int x11]) rfl ?_
            refine lv_istore_n (lv' := [(3, .int x11), (0, .ref a0), (1, .ref p1), (2, .int j7_2)]) hx hb dX7_heed_68 rfl hl (by decide) rfl (fun ls hl => ?_)
            refine lv_iload_n hx hb dX7_heed_69 rfl (lv_at hl 0 rfl) ?_
            refine lv_iconst (v := (-1)) hx hb dX7_heed_70 (by decide) ?_
            have jn94 : ∀ (locs : List Loc) (ls : Array Slot) , th_B G Γ Γ [(27, 10)] H0 H2 locs → lv_has ls 4 [(0, .ref a0), (1, .ref p1), (2, .int j7_2)] → W p l e ({ frames := 3, cells := 0, slots := 0, locals := 65 } : Room) s m ([.ref a0, .ref p1] : List Value).toArray below meth c H2 locs 0 0 (MQ below (th_Q (fun (v : Option Value) (H1 : Heap) => ∃ r : Int32, v = some (.int r) ∧ 0 ≤ r.toInt ∧ r.toInt ≤ 1 ∧ th_I G Γ H1 ∧ th_F G Γ [(27, 10)] H0 H1 ∧ th_RC G Γ H1) G) ([.ref a0, .ref p1] : List Value).toArray s 0 0 (fun q => G.2.2 ≤ q)) (F0 m 94 ls []) := by
              intro locs ls hB hl
              refine tr_iinc (fun x12 => [(2, .int x12), (0, .ref a0), (1, .ref p1)]) hx hb dX7_heed_94 hl (k := 2) rfl (Eq.refl _) tk_1 (by omega) (by omega) (by decide) (fun _ => rfl) (fun x12 ls ex12 hl => ?_)
              refine lv_goto (tgt := 7) hx hb dX7_heed_97 (by decide) ?_
              exact ih7 locs ls x12 hB (lv_sub hl [1, 2, 0] rfl) (by omega) (by omega) (by omega)
            refine tr_icmp_eq (tgt := 94) hx hb dX7_heed_71 (by decide) (Eq.refl _) tk_m1 (fun c71 => ?_) (fun c71 => ?_)
            · exact jn94 locs ls hB (lv_sub hl [1, 2, 3] rfl)
            · refine lv_aload_n hx hb dX7_heed_74 rfl (lv_at hl 1 rfl) ?_
              refine th_getK hC cf_X7 hB.1 h0 ro_27 rfl (j := 8) (by decide) mm1 kf_X7_38 dX7_heed_75 ?_
              refine th_getO (j := 0) (r2 := 4) hC cf_X1 hB.1 hbn8 ro_3 rfl rfl kf_X7_87 dX7_heed_78 (fun b13 mb13 hb13 => ?_)
              have sb13 := (th_F_o hB.2.2 hbn8 ro_3 (j := 0) (by decide) (by decide)).symm.trans mb13
              refine lv_iload_n hx hb dX7_heed_81 rfl (lv_at hl 0 rfl) ?_
              refine th_ialdF hC hB.1 hb13 ro_4 rfl (Eq.refl _) (by omega) (by omega) rfl dX7_heed_82 (fun x14 mx14 lx14 ux14 => ?_)
              refine lv_aload_n hx hb dX7_heed_83 rfl (lv_at hl 2 rfl) ?_
              refine th_getO (j := 4) (r2 := 36) hC cf_X8 hB.1 h1 ro_32 rfl rfl kf_X7_90 dX7_heed_84 (fun b15 mb15 hb15 => ?_)
              have sb15 := (th_F_o hB.2.2 h1 ro_32 (j := 4) (by decide) (by decide)).symm.trans mb15
              refine lv_iload_n hx hb dX7_heed_87 rfl (lv_at hl 3 rfl) ?_
              refine th_ialdF hC hB.1 hb15 ro_36 rfl (Eq.refl _) (by omega) (by omega) rfl dX7_heed_88 (fun x16 mx16 lx16 ux16 => ?_)
              refine tr_icmp_eq (tgt := 94) hx hb dX7_heed_89 (by decide) (Eq.refl _) (Eq.refl _) (fun c89 => ?_) (fun c89 => ?_)
              · exact jn94 locs ls hB (lv_sub hl [1, 2, 3] rfl)
              · refine lv_iconst (v := 0) hx hb dX7_heed_92 (by decide) ?_
                exact th_iret hC hH hr hlocks narrow_b0 hB.2.1 ⟨_, rfl, by decide, by decide, hB.1, hB.2.2, hR⟩ dX7_heed_93
          · refine lv_iconst (v := 0) hx hb dX7_heed_47 (by decide) ?_
            exact th_iret hC hH hr hlocks narrow_b0 hB.2.1 ⟨_, rfl, by decide, by decide, hB.1, hB.2.2, hR⟩ dX7_heed_48
  exact lp7 ((2147483648 : Int) - (0)).toNat locs ls 0 hB (lv_sub hl [1, 2, 0] rfl) (by decide) (by decide) (by have w0 := tk_0; omega)
