set_option maxHeartbeats 4000000 in
set_option maxRecDepth 100000 in
theorem c_X0_setStart (l : Launch) (G : th_G) (Γ : th_Ga) (H0 : Heap) (hI : th_I G Γ H0) (hR : th_RC G Γ H0) (hU : dv_U Γ) (a0 : Nat) (h0 : Γ a0 = (1, 0)) (p1 : Int32) (f1 : 0 ≤ p1.toInt) (g1 : p1.toInt ≤ 99) : Met l yX0_setStart (.code yX0_setStart cX0_setStart 6 (none) :: th_tb) ({ frames := 1, cells := 0, slots := 0, locals := 24 } : Room) (th_P [.ref a0, .int p1] G H0) (th_Q (fun (v : Option Value) (H1 : Heap) => v = none ∧ th_I G Γ H1 ∧ th_F G Γ [(2, 0)] H0 H1 ∧ th_RC G Γ H1) G) 0 0 (fun q => G.2.2 ≤ q) := by
  refine th_met RX0 (by decide) rfl (Nat.le_of_ble_eq_true rfl) ?_
  intro p e s m below meth c hC hH hr hlocks hnm ls hl
  have hx := hC.1
  have hb := hC.2.1
  have hB : th_B G Γ Γ [(2, 0)] H0 H0 [] := ⟨hI, va_S.rf, th_F_rf⟩
  have hl : lv_has ls 6 [(0, .ref a0), (1, .int p1)] := hl
  have lp1 := ti_lo p1; have up1 := ti_hi p1
  refine lv_aload_n hx hb dX0_setStart_0 rfl (lv_at hl 0 rfl) ?_
  refine th_getO (j := 0) (r2 := 2) hC cf_X0 hB.1 h0 ro_1 rfl rfl kf_X0_9 dX0_setStart_1 (fun b1 mb1 hb1 => ?_)
  refine lv_lconst (v := 0) hx hb dX0_setStart_4 rfl ?_
  refine th_call (th_runS (As := [.ref b1, .long 0]) (rest := []) hC mf_J7_fill_d0a16 km_X0_23 st_J7_fill_d0a16 (c_J7_fill_d0a16_Climbs l G Γ H0 hB.1 hR hU b1 a0 hb1 0) rfl rfl ⟨Nat.le_of_ble_eq_true rfl, Nat.le_of_ble_eq_true rfl⟩ rfl hl.1 rfl (Nat.le_of_ble_eq_true rfl) dX0_setStart_5 ⟨Nat.le_refl _, Nat.le_refl _⟩) hB.2.1 (fun v5 H5 locs hp hz hS => ?_)
  obtain ⟨rfl, hI1, hf, hR⟩ := hp
  have hB := th_B_c hB hI1 hS hf (by decide)
  have mm2 := (th_F_o hf h0 ro_1 (j := 0) (by decide) (by decide)).trans mb1
  refine W.eq (g2 := F0 m 8 ls []) rfl ?_
  refine lv_bipush (v := 108) hx hb dX0_setStart_8 (by decide) ?_
  refine lv_iload_n hx hb dX0_setStart_10 rfl (lv_at hl 1 rfl) ?_
  refine tr_isub hx hb dX0_setStart_11 tk_108 (Eq.refl _) (by omega) (by omega) (fun x3 ex3 => ?_)
  refine lv_istore_n (lv' := [(2, .int x3), (0, .ref a0), (1, .int p1)]) hx hb dX0_setStart_12 rfl hl (by decide) rfl (fun ls hl => ?_)
  refine lv_lconst (v := 1) hx hb dX0_setStart_13 rfl ?_
  refine lv_lstore_n (lv' := [(3, .long 1), (2, .int x3), (0, .ref a0), (1, .int p1)]) hx hb dX0_setStart_14 rfl hl (by decide) rfl (fun ls hl => ?_)
  refine lv_iconst (v := 0) hx hb dX0_setStart_15 (by decide) ?_
  refine lv_istore (lv' := [(5, .int 0), (3, .long 1), (2, .int x3), (0, .ref a0), (1, .int p1)]) hx hb dX0_setStart_16 hl (by decide) rfl (fun ls hl => ?_)
  have lp18 : ∀ (n18 : Nat) (locs : List Loc) (ls : Array Slot) (j18_3 : Int64) (j18_5 : Int32), th_B G Γ Γ [(2, 0)] H0 H5 locs → lv_has ls 6 [(2, .int x3), (0, .ref a0), (3, .long j18_3), (5, .int j18_5)] → 0 ≤ j18_5.toInt → j18_5.toInt ≤ 11 → (2147483648 : Int) - j18_5.toInt ≤ (n18 : Int) → W p l e ({ frames := 1, cells := 0, slots := 0, locals := 24 } : Room) s m ([.ref a0, .int p1] : List Value).toArray below meth c H5 locs 0 0 (MQ below (th_Q (fun (v : Option Value) (H1 : Heap) => v = none ∧ th_I G Γ H1 ∧ th_F G Γ [(2, 0)] H0 H1 ∧ th_RC G Γ H1) G) ([.ref a0, .int p1] : List Value).toArray s 0 0 (fun q => G.2.2 ≤ q)) (F0 m 18 ls []) := by
    intro n18
    induction n18 with
    | zero => intro locs ls j18_3 j18_5 hB hl g18_0 g18_1 hm18; exact absurd hm18 (by have := ti_hi j18_5; omega)
    | succ n18 ih18 =>
      intro locs ls j18_3 j18_5 hB hl g18_0 g18_1 hm18
      have lj18_5 := ti_lo j18_5; have uj18_5 := ti_hi j18_5
      have hm18 : (2147483648 : Int) - j18_5.toInt ≤ (n18 : Int) + 1 := by omega
      refine lv_iload hx hb dX0_setStart_18 (lv_at hl 3 rfl) ?_
      refine lv_iload_n hx hb dX0_setStart_20 rfl (lv_at hl 0 rfl) ?_
      refine lv_bipush (v := 12) hx hb dX0_setStart_21 (by decide) ?_
      refine tr_irem hx hb dX0_setStart_23 (Eq.refl _) tk_12 (by omega) (by omega) (fun x4 ex4 => ?_)
      refine tr_icmp_ge (tgt := 39) hx hb dX0_setStart_24 (by decide) (Eq.refl _) (Eq.refl _) (fun c24 => ?_) (fun c24 => ?_)
      · refine lv_iload_n hx hb dX0_setStart_39 rfl (lv_at hl 0 rfl) ?_
        refine tr_if_lt (tgt := 53) hx hb dX0_setStart_40 (by decide) (Eq.refl _) (fun c40 => ?_) (fun c40 => ?_)
        · exfalso; omega
        · refine lv_aload_n hx hb dX0_setStart_43 rfl (lv_at hl 1 rfl) ?_
          refine th_getK hC cf_X0 hB.1 h0 ro_1 rfl (j := 0) (by decide) mm2 kf_X0_9 dX0_setStart_44 ?_
          refine lv_iload_n hx hb dX0_setStart_47 rfl (lv_at hl 0 rfl) ?_
          refine lv_bipush (v := 12) hx hb dX0_setStart_48 (by decide) ?_
          refine tr_idiv hx hb dX0_setStart_50 (Eq.refl _) tk_12 (by omega) (by omega) (fun x5 ex5 => ?_)
          refine lv_lload_n hx hb dX0_setStart_51 rfl (lv_at hl 2 rfl) ?_
          refine th_lastF hC hB hb1 (Or.inl hb1) ro_2 rfl (by decide) (Eq.refl _) (by omega) (by omega) th_sLa dX0_setStart_52 (fun H52 locs hB hf52 hst52 => ?_)
          have hf := hf52
          have mm6 := (th_F_o hf h0 ro_1 (j := 0) (by decide) (by decide)).trans mm2
          have hR := th_RC_F hB.1 hR hf (th_T_s hb1 ro_2 hst52) (by decide)
          exact th_vret hC hH hr hlocks hB.2.1 ⟨rfl, hB.1, hB.2.2, hR⟩ dX0_setStart_53
      · refine lv_lload_n hx hb dX0_setStart_27 rfl (lv_at hl 2 rfl) ?_
        refine lv_ldc2 (v := 10) hx hb hC.2.2.2.1 (hC.2.2.2.2.1 _ kw_1162) dX0_setStart_28 ?_
        refine lv_lmul hx hb dX0_setStart_31 ?_
        refine lv_topl (fun y7 ey7 => ?_)
        refine lv_lstore_n (lv' := [(3, .long y7), (2, .int x3), (0, .ref a0), (5, .int j18_5)]) hx hb dX0_setStart_32 rfl hl (by decide) rfl (fun ls hl => ?_)
        refine tr_iinc (fun x8 => [(5, .int x8), (3, .long y7), (2, .int x3), (0, .ref a0)]) hx hb dX0_setStart_33 hl (k := 3) rfl (Eq.refl _) tk_1 (by omega) (by omega) (by decide) (fun _ => rfl) (fun x8 ls ex8 hl => ?_)
        refine lv_goto (tgt := 18) hx hb dX0_setStart_36 (by decide) ?_
        exact ih18 locs ls y7 x8 hB (lv_sub hl [2, 3, 1, 0] rfl) (by omega) (by omega) (by omega)
  exact lp18 ((2147483648 : Int) - (0)).toNat locs ls 1 0 hB (lv_sub hl [2, 3, 1, 0] rfl) (by decide) (by decide) (by have w0 := tk_0; omega)

set_option maxHeartbeats 4000000 in
set_option maxRecDepth 100000 in
theorem c_X0_addOneMore (l : Launch) (G : th_G) (Γ : th_Ga) (H0 : Heap) (hI : th_I G Γ H0) (hR : th_RC G Γ H0) (hU : dv_U Γ) (a0 : Nat) (h0 : Γ a0 = (1, 0)) (p1 : Int32) (f1 : 0 ≤ p1.toInt) (g1 : p1.toInt ≤ 19) (p2 : Int32) : Met l yX0_addOneMore (.code yX0_addOneMore cX0_addOneMore 9 (none) :: th_tb) ({ frames := 0, cells := 0, slots := 0, locals := 0 } : Room) (th_P [.ref a0, .int p1, .int p2] G H0) (th_Q (fun (v : Option Value) (H1 : Heap) => v = none ∧ th_I G Γ H1 ∧ th_F G Γ [(2, 0)] H0 H1 ∧ th_RC G Γ H1) G) 0 0 (fun q => G.2.2 ≤ q) := by
  refine th_met RX0 (by decide) rfl (Nat.le_of_ble_eq_true rfl) ?_
  intro p e s m below meth c hC hH hr hlocks hnm ls hl
  have hx := hC.1
  have hb := hC.2.1
  have hB : th_B G Γ Γ [(2, 0)] H0 H0 [] := ⟨hI, va_S.rf, th_F_rf⟩
  have hl : lv_has ls 9 [(0, .ref a0), (1, .int p1), (2, .int p2)] := hl
  have lp1 := ti_lo p1; have up1 := ti_hi p1
  have lp2 := ti_lo p2; have up2 := ti_hi p2
  refine lv_lconst (v := 0) hx hb dX0_addOneMore_0 rfl ?_
  refine lv_lstore_n (lv' := [(3, .long 0), (0, .ref a0), (1, .int p1), (2, .int p2)]) hx hb dX0_addOneMore_1 rfl hl (by decide) rfl (fun ls hl => ?_)
  refine lv_iconst (v := 0) hx hb dX0_addOneMore_2 (by decide) ?_
  refine lv_istore (lv' := [(5, .int 0), (3, .long 0), (0, .ref a0), (1, .int p1), (2, .int p2)]) hx hb dX0_addOneMore_3 hl (by decide) rfl (fun ls hl => ?_)
  have lp5 : ∀ (n5 : Nat) (H5 : Heap) (locs : List Loc) (ls : Array Slot) (j5_3 : Int64) (j5_5 : Int32), th_B G Γ Γ [(2, 0)] H0 H5 locs → th_RC G Γ H5 → lv_has ls 9 [(0, .ref a0), (1, .int p1), (2, .int p2), (3, .long j5_3), (5, .int j5_5)] → 0 ≤ j5_5.toInt → j5_5.toInt ≤ 11 → (2147483648 : Int) - j5_5.toInt ≤ (n5 : Int) → W p l e ({ frames := 0, cells := 0, slots := 0, locals := 0 } : Room) s m ([.ref a0, .int p1, .int p2] : List Value).toArray below meth c H5 locs 0 0 (MQ below (th_Q (fun (v : Option Value) (H1 : Heap) => v = none ∧ th_I G Γ H1 ∧ th_F G Γ [(2, 0)] H0 H1 ∧ th_RC G Γ H1) G) ([.ref a0, .int p1, .int p2] : List Value).toArray s 0 0 (fun q => G.2.2 ≤ q)) (F0 m 5 ls []) := by
    intro n5
    induction n5 with
    | zero => intro H5 locs ls j5_3 j5_5 hB hR hl g5_0 g5_1 hm5; exact absurd hm5 (by have := ti_hi j5_5; omega)
    | succ n5 ih5 =>
      intro H5 locs ls j5_3 j5_5 hB hR hl g5_0 g5_1 hm5
      have lj5_5 := ti_lo j5_5; have uj5_5 := ti_hi j5_5
      have hm5 : (2147483648 : Int) - j5_5.toInt ≤ (n5 : Int) + 1 := by omega
      refine lv_iload hx hb dX0_addOneMore_5 (lv_at hl 4 rfl) ?_
      refine lv_bipush (v := 10) hx hb dX0_addOneMore_7 (by decide) ?_
      refine tr_icmp_ge (tgt := 86) hx hb dX0_addOneMore_9 (by decide) (Eq.refl _) tk_10 (fun c9 => ?_) (fun c9 => ?_)
      · exact th_vret hC hH hr hlocks hB.2.1 ⟨rfl, hB.1, hB.2.2, hR⟩ dX0_addOneMore_86
      · refine lv_iload_n hx hb dX0_addOneMore_12 rfl (lv_at hl 1 rfl) ?_
        refine lv_bipush (v := 10) hx hb dX0_addOneMore_13 (by decide) ?_
        refine tr_imul hx hb dX0_addOneMore_15 (Eq.refl _) tk_10 (by omega) (by omega) (fun x1 ex1 => ?_)
        refine lv_iload hx hb dX0_addOneMore_16 (lv_at hl 4 rfl) ?_
        refine tr_iadd hx hb dX0_addOneMore_18 (Eq.refl _) (Eq.refl _) (by omega) (by omega) (fun x2 ex2 => ?_)
        refine lv_istore (lv' := [(6, .int x2), (0, .ref a0), (1, .int p1), (2, .int p2), (3, .long j5_3), (5, .int j5_5)]) hx hb dX0_addOneMore_19 hl (by decide) rfl (fun ls hl => ?_)
        refine lv_aload_n hx hb dX0_addOneMore_21 rfl (lv_at hl 1 rfl) ?_
        refine th_getO (j := 0) (r2 := 2) hC cf_X0 hB.1 h0 ro_1 rfl rfl kf_X0_9 dX0_addOneMore_22 (fun b3 mb3 hb3 => ?_)
        have sb3 := (th_F_o hB.2.2 h0 ro_1 (j := 0) (by decide) (by decide)).symm.trans mb3
        refine lv_iload hx hb dX0_addOneMore_25 (lv_at hl 0 rfl) ?_
        refine th_laldF hC hB.1 hb3 ro_2 rfl (Eq.refl _) (by omega) (by omega) rfl dX0_addOneMore_27 (fun y4 my4 ly4 uy4 => ?_)
        refine lv_bipush (v := 10) hx hb dX0_addOneMore_28 (by decide) ?_
        refine lv_iload_n hx hb dX0_addOneMore_30 rfl (lv_at hl 3 rfl) ?_
        refine lv_isub hx hb dX0_addOneMore_31 ?_
        refine lv_topi (fun x5 ex5 => ?_)
        have lx5 := ti_lo x5; have ux5 := ti_hi x5
        refine lv_i2l hx hb dX0_addOneMore_32 rfl ?_
        refine lv_topl (fun y6 ey6 => ?_)
        refine lv_lmul hx hb dX0_addOneMore_33 ?_
        refine lv_topl (fun y7 ey7 => ?_)
        refine lv_lload_n hx hb dX0_addOneMore_34 rfl (lv_at hl 4 rfl) ?_
        refine lv_ladd hx hb dX0_addOneMore_35 ?_
        refine lv_topl (fun y8 ey8 => ?_)
        refine lv_lstore (lv' := [(7, .long y8), (6, .int x2), (0, .ref a0), (1, .int p1), (2, .int p2), (3, .long j5_3), (5, .int j5_5)]) hx hb dX0_addOneMore_36 hl (by decide) rfl (fun ls hl => ?_)
        refine lv_iload_n hx hb dX0_addOneMore_38 rfl (lv_at hl 3 rfl) ?_
        have jn60 : ∀ (locs : List Loc) (ls : Array Slot) (j60_7 : Int64), th_B G Γ Γ [(2, 0)] H0 H5 locs → lv_has ls 9 [(6, .int x2), (0, .ref a0), (1, .int p1), (2, .int p2), (5, .int j5_5), (7, .long j60_7)] → W p l e ({ frames := 0, cells := 0, slots := 0, locals := 0 } : Room) s m ([.ref a0, .int p1, .int p2] : List Value).toArray below meth c H5 locs 0 0 (MQ below (th_Q (fun (v : Option Value) (H1 : Heap) => v = none ∧ th_I G Γ H1 ∧ th_F G Γ [(2, 0)] H0 H1 ∧ th_RC G Γ H1) G) ([.ref a0, .int p1, .int p2] : List Value).toArray s 0 0 (fun q => G.2.2 ≤ q)) (F0 m 60 ls []) := by
          intro locs ls j60_7 hB hl
          refine lv_aload_n hx hb dX0_addOneMore_60 rfl (lv_at hl 1 rfl) ?_
          refine th_getK hC cf_X0 hB.1 h0 ro_1 rfl (j := 0) (by decide) mb3 kf_X0_9 dX0_addOneMore_61 ?_
          refine lv_iload hx hb dX0_addOneMore_64 (lv_at hl 0 rfl) ?_
          refine lv_lload hx hb dX0_addOneMore_66 (lv_at hl 5 rfl) ?_
          refine lv_ldc2 (v := 1000000000000) hx hb hC.2.2.2.1 (hC.2.2.2.2.1 _ kw_1167) dX0_addOneMore_68 ?_
          refine lv_lrem hx hb dX0_addOneMore_71 (by decide) ?_
          refine lv_topl (fun y9 ey9 => ?_)
          refine th_lastF hC hB hb3 (Or.inl hb3) ro_2 rfl (by decide) (Eq.refl _) (by omega) (by omega) th_sLa dX0_addOneMore_72 (fun H72 locs hB hf72 hst72 => ?_)
          have hf := hf72
          have mm10 := (th_F_o hf h0 ro_1 (j := 0) (by decide) (by decide)).trans mb3
          have hR := th_RC_F hB.1 hR hf (th_T_s hb3 ro_2 hst72) (by decide)
          refine lv_lload hx hb dX0_addOneMore_73 (lv_at hl 5 rfl) ?_
          refine lv_ldc2 (v := 1000000000000) hx hb hC.2.2.2.1 (hC.2.2.2.2.1 _ kw_1167) dX0_addOneMore_75 ?_
          refine lv_ldiv hx hb dX0_addOneMore_78 (by decide) ?_
          refine lv_topl (fun y11 ey11 => ?_)
          refine lv_lstore_n (lv' := [(3, .long y11), (6, .int x2), (0, .ref a0), (1, .int p1), (2, .int p2), (5, .int j5_5), (7, .long j60_7)]) hx hb dX0_addOneMore_79 rfl hl (by decide) rfl (fun ls hl => ?_)
          refine tr_iinc (fun x12 => [(5, .int x12), (3, .long y11), (6, .int x2), (0, .ref a0), (1, .int p1), (2, .int p2), (7, .long j60_7)]) hx hb dX0_addOneMore_80 hl (k := 5) rfl (Eq.refl _) tk_1 (by omega) (by omega) (by decide) (fun _ => rfl) (fun x12 ls ex12 hl => ?_)
          refine lv_goto (tgt := 5) hx hb dX0_addOneMore_83 (by decide) ?_
          exact ih5 H72 locs ls y11 x12 hB hR (lv_sub hl [3, 4, 5, 1, 0] rfl) (by omega) (by omega) (by omega)
        refine tr_if_le (tgt := 60) hx hb dX0_addOneMore_39 (by decide) (Eq.refl _) (fun c39 => ?_) (fun c39 => ?_)
        · exact jn60 locs ls y8 hB (lv_sub hl [1, 2, 3, 4, 6, 0] rfl)
        · refine lv_lload hx hb dX0_addOneMore_42 (lv_at hl 0 rfl) ?_
          refine lv_aload_n hx hb dX0_addOneMore_44 rfl (lv_at hl 2 rfl) ?_
          refine th_getK hC cf_X0 hB.1 h0 ro_1 rfl (j := 0) (by decide) mb3 kf_X0_9 dX0_addOneMore_45 ?_
          refine lv_iload hx hb dX0_addOneMore_48 (lv_at hl 1 rfl) ?_
          refine lv_bipush (v := 10) hx hb dX0_addOneMore_50 (by decide) ?_
          refine tr_isub hx hb dX0_addOneMore_52 (Eq.refl _) tk_10 (by omega) (by omega) (fun x13 ex13 => ?_)
          refine th_laldF hC hB.1 hb3 ro_2 rfl (Eq.refl _) (by omega) (by omega) rfl dX0_addOneMore_53 (fun y14 my14 ly14 uy14 => ?_)
          refine lv_iload_n hx hb dX0_addOneMore_54 rfl (lv_at hl 4 rfl) ?_
          refine lv_i2l hx hb dX0_addOneMore_55 rfl ?_
          refine lv_topl (fun y15 ey15 => ?_)
          refine lv_lmul hx hb dX0_addOneMore_56 ?_
          refine lv_topl (fun y16 ey16 => ?_)
          refine lv_ladd hx hb dX0_addOneMore_57 ?_
          refine lv_topl (fun y17 ey17 => ?_)
          refine lv_lstore (lv' := [(7, .long y17), (6, .int x2), (0, .ref a0), (1, .int p1), (2, .int p2), (3, .long j5_3), (5, .int j5_5)]) hx hb dX0_addOneMore_58 hl (by decide) rfl (fun ls hl => ?_)
          exact jn60 locs ls y17 hB (lv_sub hl [1, 2, 3, 4, 6, 0] rfl)
  exact lp5 ((2147483648 : Int) - (0)).toNat H0 [] ls 0 0 hB hR (lv_sub hl [2, 3, 4, 1, 0] rfl) (by decide) (by decide) (by have w0 := tk_0; omega)

set_option maxHeartbeats 4000000 in
set_option maxRecDepth 100000 in
theorem c_X0_fewer (l : Launch) (G : th_G) (Γ : th_Ga) (H0 : Heap) (hI : th_I G Γ H0) (hR : th_RC G Γ H0) (hU : dv_U Γ) (a0 : Nat) (h0 : Γ a0 = (1, 0)) (p1 : Int32) (f1 : 1 ≤ p1.toInt) (g1 : p1.toInt ≤ 20) (p2 : Int32) (f2 : 0 ≤ p2.toInt) (g2 : p2.toInt ≤ 99) (p3 : Int32) : Met l yX0_fewer (.code yX0_fewer cX0_fewer 7 (some FieldType.long) :: th_tb) ({ frames := 2, cells := 0, slots := 0, locals := 49 } : Room) (th_P [.ref a0, .int p1, .int p2, .int p3] G H0) (th_Q (fun (v : Option Value) (H1 : Heap) => ∃ r : Int64, v = some (.long r) ∧ th_I G Γ H1 ∧ th_F G Γ [(2, 0)] H0 H1 ∧ th_RC G Γ H1) G) 0 0 (fun q => G.2.2 ≤ q) := by
  refine th_met RX0 (by decide) rfl (Nat.le_of_ble_eq_true rfl) ?_
  intro p e s m below meth c hC hH hr hlocks hnm ls hl
  have hx := hC.1
  have hb := hC.2.1
  have hB : th_B G Γ Γ [(2, 0)] H0 H0 [] := ⟨hI, va_S.rf, th_F_rf⟩
  have hl : lv_has ls 7 [(0, .ref a0), (1, .int p1), (2, .int p2), (3, .int p3)] := hl
  have lp1 := ti_lo p1; have up1 := ti_hi p1
  have lp2 := ti_lo p2; have up2 := ti_hi p2
  have lp3 := ti_lo p3; have up3 := ti_hi p3
  refine lv_aload_n hx hb dX0_fewer_0 rfl (lv_at hl 0 rfl) ?_
  refine lv_iload_n hx hb dX0_fewer_1 rfl (lv_at hl 2 rfl) ?_
  refine th_call (th_runV (As := [.int p2]) (rest := []) hC mf_X0_setStart km_X0_13 im_X0_setStart se_X0_setStart (c_X0_setStart l G Γ H0 hB.1 hR hU a0 h0 p2 (by omega) (by omega)) rfl rfl ⟨Nat.le_of_ble_eq_true rfl, Nat.le_of_ble_eq_true rfl⟩ hB.1 h0 ro_1 rfl rfl hl.1 rfl (Nat.le_of_ble_eq_true rfl) dX0_fewer_2 ⟨Nat.le_refl _, Nat.le_refl _⟩) hB.2.1 (fun v2 H2 locs hp hz hS => ?_)
  obtain ⟨rfl, hI1, hf, hR⟩ := hp
  have hB := th_B_c hB hI1 hS hf (by decide)
  refine W.eq (g2 := F0 m 5 ls []) rfl ?_
  refine lv_iconst (v := 0) hx hb dX0_fewer_5 (by decide) ?_
  refine lv_istore (lv' := [(4, .int 0), (0, .ref a0), (1, .int p1), (2, .int p2), (3, .int p3)]) hx hb dX0_fewer_6 hl (by decide) rfl (fun ls hl => ?_)
  have lp8 : ∀ (n8 : Nat) (H8 : Heap) (locs : List Loc) (ls : Array Slot) (j8_4 : Int32), th_B G Γ Γ [(2, 0)] H0 H8 locs → th_RC G Γ H8 → lv_has ls 7 [(0, .ref a0), (1, .int p1), (2, .int p2), (3, .int p3), (4, .int j8_4)] → 0 ≤ j8_4.toInt → j8_4.toInt ≤ 100 → (2147483648 : Int) - j8_4.toInt ≤ (n8 : Int) → W p l e ({ frames := 2, cells := 0, slots := 0, locals := 49 } : Room) s m ([.ref a0, .int p1, .int p2, .int p3] : List Value).toArray below meth c H8 locs 0 0 (MQ below (th_Q (fun (v : Option Value) (H1 : Heap) => ∃ r : Int64, v = some (.long r) ∧ th_I G Γ H1 ∧ th_F G Γ [(2, 0)] H0 H1 ∧ th_RC G Γ H1) G) ([.ref a0, .int p1, .int p2, .int p3] : List Value).toArray s 0 0 (fun q => G.2.2 ≤ q)) (F0 m 8 ls []) := by
    intro n8
    induction n8 with
    | zero => intro H8 locs ls j8_4 hB hR hl g8_0 g8_1 hm8; exact absurd hm8 (by have := ti_hi j8_4; omega)
    | succ n8 ih8 =>
      intro H8 locs ls j8_4 hB hR hl g8_0 g8_1 hm8
      have lj8_4 := ti_lo j8_4; have uj8_4 := ti_hi j8_4
      have hm8 : (2147483648 : Int) - j8_4.toInt ≤ (n8 : Int) + 1 := by omega
      refine lv_iload hx hb dX0_fewer_8 (lv_at hl 4 rfl) ?_
      refine lv_iload_n hx hb dX0_fewer_10 rfl (lv_at hl 2 rfl) ?_
      refine tr_icmp_ge (tgt := 43) hx hb dX0_fewer_11 (by decide) (Eq.refl _) (Eq.refl _) (fun c11 => ?_) (fun c11 => ?_)
      · refine lv_lconst (v := 0) hx hb dX0_fewer_43 rfl ?_
        refine lv_lstore (lv' := [(4, .long 0), (0, .ref a0), (1, .int p1), (2, .int p2), (3, .int p3)]) hx hb dX0_fewer_44 hl (by decide) rfl (fun ls hl => ?_)
        refine lv_iconst (v := 0) hx hb dX0_fewer_46 (by decide) ?_
        refine lv_istore (lv' := [(6, .int 0), (4, .long 0), (0, .ref a0), (1, .int p1), (2, .int p2), (3, .int p3)]) hx hb dX0_fewer_47 hl (by decide) rfl (fun ls hl => ?_)
        have lp49 : ∀ (n49 : Nat) (locs : List Loc) (ls : Array Slot) (j49_4 : Int64) (j49_6 : Int32), th_B G Γ Γ [(2, 0)] H0 H8 locs → lv_has ls 7 [(0, .ref a0), (1, .int p1), (4, .long j49_4), (6, .int j49_6)] → 0 ≤ j49_6.toInt → j49_6.toInt ≤ 20 → (2147483648 : Int) - j49_6.toInt ≤ (n49 : Int) → W p l e ({ frames := 2, cells := 0, slots := 0, locals := 49 } : Room) s m ([.ref a0, .int p1, .int p2, .int p3] : List Value).toArray below meth c H8 locs 0 0 (MQ below (th_Q (fun (v : Option Value) (H1 : Heap) => ∃ r : Int64, v = some (.long r) ∧ th_I G Γ H1 ∧ th_F G Γ [(2, 0)] H0 H1 ∧ th_RC G Γ H1) G) ([.ref a0, .int p1, .int p2, .int p3] : List Value).toArray s 0 0 (fun q => G.2.2 ≤ q)) (F0 m 49 ls []) := by
          intro n49
          induction n49 with
          | zero => intro locs ls j49_4 j49_6 hB hl g49_0 g49_1 hm49; exact absurd hm49 (by have := ti_hi j49_6; omega)
          | succ n49 ih49 =>
            intro locs ls j49_4 j49_6 hB hl g49_0 g49_1 hm49
            have lj49_6 := ti_lo j49_6; have uj49_6 := ti_hi j49_6
            have hm49 : (2147483648 : Int) - j49_6.toInt ≤ (n49 : Int) + 1 := by omega
            refine lv_iload hx hb dX0_fewer_49 (lv_at hl 3 rfl) ?_
            refine lv_iload_n hx hb dX0_fewer_51 rfl (lv_at hl 1 rfl) ?_
            refine tr_icmp_ge (tgt := 99) hx hb dX0_fewer_52 (by decide) (Eq.refl _) (Eq.refl _) (fun c52 => ?_) (fun c52 => ?_)
            · refine lv_lload hx hb dX0_fewer_99 (lv_at hl 2 rfl) ?_
              exact th_lret hC hH hr hlocks hB.2.1 ⟨_, rfl, hB.1, hB.2.2, hR⟩ dX0_fewer_101
            · refine lv_lload hx hb dX0_fewer_55 (lv_at hl 2 rfl) ?_
              refine lv_aload_n hx hb dX0_fewer_57 rfl (lv_at hl 0 rfl) ?_
              refine th_getO (j := 0) (r2 := 2) hC cf_X0 hB.1 h0 ro_1 rfl rfl kf_X0_9 dX0_fewer_58 (fun b1 mb1 hb1 => ?_)
              have sb1 := (th_F_o hB.2.2 h0 ro_1 (j := 0) (by decide) (by decide)).symm.trans mb1
              refine lv_iload hx hb dX0_fewer_61 (lv_at hl 3 rfl) ?_
              refine lv_bipush (v := 10) hx hb dX0_fewer_63 (by decide) ?_
              refine tr_imul hx hb dX0_fewer_65 (Eq.refl _) tk_10 (by omega) (by omega) (fun x2 ex2 => ?_)
              refine lv_bipush (v := 9) hx hb dX0_fewer_66 (by decide) ?_
              refine tr_iadd hx hb dX0_fewer_68 (Eq.refl _) tk_9 (by omega) (by omega) (fun x3 ex3 => ?_)
              refine th_laldF hC hB.1 hb1 ro_2 rfl (Eq.refl _) (by omega) (by omega) rfl dX0_fewer_69 (fun y4 my4 ly4 uy4 => ?_)
              refine lv_ldc2 (v := 1000000000000) hx hb hC.2.2.2.1 (hC.2.2.2.2.1 _ kw_1167) dX0_fewer_70 ?_
              refine lv_lmul hx hb dX0_fewer_73 ?_
              refine lv_topl (fun y5 ey5 => ?_)
              refine lv_aload_n hx hb dX0_fewer_74 rfl (lv_at hl 0 rfl) ?_
              refine th_getK hC cf_X0 hB.1 h0 ro_1 rfl (j := 0) (by decide) mb1 kf_X0_9 dX0_fewer_75 ?_
              refine lv_iload hx hb dX0_fewer_78 (lv_at hl 3 rfl) ?_
              refine lv_bipush (v := 10) hx hb dX0_fewer_80 (by decide) ?_
              refine tr_imul hx hb dX0_fewer_82 (Eq.refl _) tk_10 (by omega) (by omega) (fun x6 ex6 => ?_)
              refine lv_bipush (v := 9) hx hb dX0_fewer_83 (by decide) ?_
              refine tr_iadd hx hb dX0_fewer_85 (Eq.refl _) tk_9 (by omega) (by omega) (fun x7 ex7 => ?_)
              refine lv_iconst (v := 1) hx hb dX0_fewer_86 (by decide) ?_
              refine tr_isub hx hb dX0_fewer_87 (Eq.refl _) tk_1 (by omega) (by omega) (fun x8 ex8 => ?_)
              refine th_laldF hC hB.1 hb1 ro_2 rfl (Eq.refl _) (by omega) (by omega) rfl dX0_fewer_88 (fun y9 my9 ly9 uy9 => ?_)
              refine lv_ladd hx hb dX0_fewer_89 ?_
              refine lv_topl (fun y10 ey10 => ?_)
              refine lv_ladd hx hb dX0_fewer_90 ?_
              refine lv_topl (fun y11 ey11 => ?_)
              refine lv_lstore (lv' := [(4, .long y11), (0, .ref a0), (1, .int p1), (6, .int j49_6)]) hx hb dX0_fewer_91 hl (by decide) rfl (fun ls hl => ?_)
              refine tr_iinc (fun x12 => [(6, .int x12), (4, .long y11), (0, .ref a0), (1, .int p1)]) hx hb dX0_fewer_93 hl (k := 3) rfl (Eq.refl _) tk_1 (by omega) (by omega) (by decide) (fun _ => rfl) (fun x12 ls ex12 hl => ?_)
              refine lv_goto (tgt := 49) hx hb dX0_fewer_96 (by decide) ?_
              exact ih49 locs ls y11 x12 hB (lv_sub hl [2, 3, 1, 0] rfl) (by omega) (by omega) (by omega)
        exact lp49 ((2147483648 : Int) - (0)).toNat locs ls 0 0 hB (lv_sub hl [2, 3, 1, 0] rfl) (by decide) (by decide) (by have w0 := tk_0; omega)
      · refine lv_iload_n hx hb dX0_fewer_14 rfl (lv_at hl 1 rfl) ?_
        refine lv_iconst (v := 1) hx hb dX0_fewer_15 (by decide) ?_
        refine tr_isub hx hb dX0_fewer_16 (Eq.refl _) tk_1 (by omega) (by omega) (fun x13 ex13 => ?_)
        refine lv_istore (lv' := [(5, .int x13), (0, .ref a0), (1, .int p1), (2, .int p2), (3, .int p3), (4, .int j8_4)]) hx hb dX0_fewer_17 hl (by decide) rfl (fun ls hl => ?_)
        have lp19 : ∀ (n19 : Nat) (H19 : Heap) (locs : List Loc) (ls : Array Slot) (j19_5 : Int32), th_B G Γ Γ [(2, 0)] H0 H19 locs → th_RC G Γ H19 → lv_has ls 7 [(0, .ref a0), (1, .int p1), (2, .int p2), (3, .int p3), (4, .int j8_4), (5, .int j19_5)] → (-1) ≤ j19_5.toInt → j19_5.toInt ≤ 19 → j19_5.toInt + (2147483649 : Int) ≤ (n19 : Int) → W p l e ({ frames := 2, cells := 0, slots := 0, locals := 49 } : Room) s m ([.ref a0, .int p1, .int p2, .int p3] : List Value).toArray below meth c H19 locs 0 0 (MQ below (th_Q (fun (v : Option Value) (H1 : Heap) => ∃ r : Int64, v = some (.long r) ∧ th_I G Γ H1 ∧ th_F G Γ [(2, 0)] H0 H1 ∧ th_RC G Γ H1) G) ([.ref a0, .int p1, .int p2, .int p3] : List Value).toArray s 0 0 (fun q => G.2.2 ≤ q)) (F0 m 19 ls []) := by
          intro n19
          induction n19 with
          | zero => intro H19 locs ls j19_5 hB hR hl g19_0 g19_1 hm19; exact absurd hm19 (by have := ti_lo j19_5; omega)
          | succ n19 ih19 =>
            intro H19 locs ls j19_5 hB hR hl g19_0 g19_1 hm19
            have lj19_5 := ti_lo j19_5; have uj19_5 := ti_hi j19_5
            have hm19 : j19_5.toInt + (2147483649 : Int) ≤ (n19 : Int) + 1 := by omega
            refine lv_iload hx hb dX0_fewer_19 (lv_at hl 5 rfl) ?_
            refine tr_if_lt (tgt := 37) hx hb dX0_fewer_21 (by decide) (Eq.refl _) (fun c21 => ?_) (fun c21 => ?_)
            · refine tr_iinc (fun x14 => [(4, .int x14), (0, .ref a0), (1, .int p1), (2, .int p2), (3, .int p3), (5, .int j19_5)]) hx hb dX0_fewer_37 hl (k := 4) rfl (Eq.refl _) tk_1 (by omega) (by omega) (by decide) (fun _ => rfl) (fun x14 ls ex14 hl => ?_)
              refine lv_goto (tgt := 8) hx hb dX0_fewer_40 (by decide) ?_
              exact ih8 H19 locs ls x14 hB hR (lv_sub hl [1, 2, 3, 4, 0] rfl) (by omega) (by omega) (by omega)
            · refine lv_aload_n hx hb dX0_fewer_24 rfl (lv_at hl 0 rfl) ?_
              refine lv_iload hx hb dX0_fewer_25 (lv_at hl 5 rfl) ?_
              refine lv_iload_n hx hb dX0_fewer_27 rfl (lv_at hl 3 rfl) ?_
              refine th_call (th_runV (As := [.int j19_5, .int p3]) (rest := []) hC mf_X0_addOneMore km_X0_17 im_X0_addOneMore se_X0_addOneMore (c_X0_addOneMore l G Γ H19 hB.1 hR hU a0 h0 j19_5 (by omega) (by omega) p3) rfl rfl ⟨Nat.le_of_ble_eq_true rfl, Nat.le_of_ble_eq_true rfl⟩ hB.1 h0 ro_1 rfl rfl hl.1 rfl (Nat.le_of_ble_eq_true rfl) dX0_fewer_28 ⟨Nat.le_refl _, Nat.le_refl _⟩) hB.2.1 (fun v28 H28 locs hp hz hS => ?_)
              obtain ⟨rfl, hI1, hf, hR⟩ := hp
              have hB := th_B_c hB hI1 hS hf (by decide)
              refine W.eq (g2 := F0 m 31 ls []) rfl ?_
              refine tr_iinc (fun x15 => [(5, .int x15), (0, .ref a0), (1, .int p1), (2, .int p2), (3, .int p3), (4, .int j8_4)]) hx hb dX0_fewer_31 hl (k := 5) rfl (Eq.refl _) tk_m1 (by omega) (by omega) (by decide) (fun _ => rfl) (fun x15 ls ex15 hl => ?_)
              refine lv_goto (tgt := 19) hx hb dX0_fewer_34 (by decide) ?_
              exact ih19 H28 locs ls x15 hB hR (lv_sub hl [1, 2, 3, 4, 5, 0] rfl) (by omega) (by omega) (by omega)
        exact lp19 ((x13.toInt) + (2147483649 : Int)).toNat H8 locs ls x13 hB hR (lv_sub hl [1, 2, 3, 4, 5, 0] rfl) (by omega) (by omega) (by omega)
  exact lp8 ((2147483648 : Int) - (0)).toNat H2 locs ls 0 hB hR (lv_sub hl [1, 2, 3, 4, 0] rfl) (by decide) (by decide) (by have w0 := tk_0; omega)

set_option maxHeartbeats 4000000 in
set_option maxRecDepth 100000 in
theorem c_X8_lawOf (l : Launch) (G : th_G) (Γ : th_Ga) (H0 : Heap) (hI : th_I G Γ H0) (hU : dv_U Γ) (a0 : Nat) (h0 : Γ a0 = (32, 0)) (p1 : Int32) : Met l yX8_lawOf (.code yX8_lawOf cX8_lawOf 2 (some (FieldType.object "CarpetHalls$Text")) :: th_tb) ({ frames := 0, cells := 0, slots := 0, locals := 0 } : Room) (th_P [.ref a0, .int p1] G H0) (th_Q (fun (v : Option Value) (H1 : Heap) => ∃ r : Value, v = some r ∧ (r = .null ∨ ∃ b : Nat, r = .ref b ∧ Γ b = (39, 0)) ∧ (f_X8_lawOf (dv G Γ H0) (a0 : Int) p1.toInt = (dv_iv r, ())) ∧ H0 = H1) G) 0 0 (fun q => G.2.2 ≤ q) := by
  refine th_met RX8 (by decide) rfl (Nat.le_of_ble_eq_true rfl) ?_
  intro p e s m below meth c hC hH hr hlocks hnm ls hl
  have hx := hC.1
  have hb := hC.2.1
  have hB : th_B G Γ Γ [] H0 H0 [] := ⟨hI, va_S.rf, th_F_rf⟩
  have hl : lv_has ls 2 [(0, .ref a0), (1, .int p1)] := hl
  have lp1 := ti_lo p1; have up1 := ti_hi p1
  obtain ⟨F, hF0⟩ : ∃ F, F = f_X8_lawOf (dv G Γ H0) ((a0 : Int)) (p1.toInt) := ⟨_, rfl⟩
  have hF := hF0.trans (f_X8_lawOf.eq_1 (dv G Γ H0) ((a0 : Int)) (p1.toInt))
  refine lv_iload_n hx hb dX8_lawOf_0 rfl (lv_at hl 1 rfl) ?_
  refine tr_if_lt (tgt := 21) hx hb dX8_lawOf_1 (by decide) (Eq.refl _) (fun c1 => ?_) (fun c1 => ?_)
  · replace hF := hF.trans (if_pos c1)
    refine lv_null hx hb dX8_lawOf_21 ?_
    exact th_aret hC hH hr (Or.inl ⟨_, rfl⟩) (Or.inl rfl) hlocks hB.2.1 ⟨_, rfl, Or.inl rfl, (hF0.symm.trans hF), rfl⟩ dX8_lawOf_22
  · replace hF := hF.trans (if_neg (Int.not_lt.mpr c1))
    refine lv_iload_n hx hb dX8_lawOf_4 rfl (lv_at hl 1 rfl) ?_
    refine lv_aload_n hx hb dX8_lawOf_5 rfl (lv_at hl 0 rfl) ?_
    refine th_getI (j := 5) hC cf_X8 hB.1 h0 ro_32 rfl rfl kf_X8_34 dX8_lawOf_6 (fun x1 mx1 lx1 ux1 => ?_)
    replace hF := hF.trans (dv_bn (dv_getI h0 ro_32 (j := 5) rfl mx1 (by decide)))
    refine tr_icmp_ge (tgt := 21) hx hb dX8_lawOf_9 (by decide) (Eq.refl _) (Eq.refl _) (fun c9 => ?_) (fun c9 => ?_)
    · replace hF := hF.trans (if_pos c9)
      refine lv_null hx hb dX8_lawOf_21 ?_
      exact th_aret hC hH hr (Or.inl ⟨_, rfl⟩) (Or.inl rfl) hlocks hB.2.1 ⟨_, rfl, Or.inl rfl, (hF0.symm.trans hF), rfl⟩ dX8_lawOf_22
    · replace hF := hF.trans (if_neg (Int.not_le.mpr c9))
      refine lv_aload_n hx hb dX8_lawOf_12 rfl (lv_at hl 0 rfl) ?_
      refine th_getO (j := 1) (r2 := 33) hC cf_X8 hB.1 h0 ro_32 rfl rfl kf_X8_20 dX8_lawOf_13 (fun b2 mb2 hb2 => ?_)
      refine lv_iload_n hx hb dX8_lawOf_16 rfl (lv_at hl 1 rfl) ?_
      refine th_aaldF (r2 := 39) hC hB.1 hb2 ro_33 rfl (Eq.refl _) (by omega) (by omega) rfl dX8_lawOf_17 (fun b3 mb3 hb3 => ?_)
      replace hF := hF.trans (dv_bn (dv_aldR hB.1 hU hb2 ow_33 (z := p1.toInt) mb3 (by omega)))
      refine lv_goto (tgt := 22) hx hb dX8_lawOf_18 (by decide) ?_
      exact th_aret hC hH hr (Or.inl ⟨_, rfl⟩) (Or.inr ⟨_, rfl⟩) hlocks hB.2.1 ⟨_, rfl, Or.inr ⟨_, rfl, hb3⟩, (hF0.symm.trans hF), rfl⟩ dX8_lawOf_22

set_option maxHeartbeats 4000000 in
set_option maxRecDepth 100000 in
theorem c_X8_forcedLaw (l : Launch) (G : th_G) (Γ : th_Ga) (H0 : Heap) (hI : th_I G Γ H0) (hU : dv_U Γ) (a0 : Nat) (h0 : Γ a0 = (32, 0)) : Met l yX8_forcedLaw (.code yX8_forcedLaw cX8_forcedLaw 1 (some (FieldType.object "CarpetHalls$Text")) :: th_tb) ({ frames := 1, cells := 0, slots := 0, locals := 21 } : Room) (th_P [.ref a0] G H0) (th_Q (fun (v : Option Value) (H1 : Heap) => ∃ r : Value, v = some r ∧ (r = .null ∨ ∃ b : Nat, r = .ref b ∧ Γ b = (39, 0)) ∧ (f_X8_forcedLaw (dv G Γ H0) (a0 : Int) = (dv_iv r, ())) ∧ H0 = H1) G) 0 0 (fun q => G.2.2 ≤ q) := by
  refine th_met RX8 (by decide) rfl (Nat.le_of_ble_eq_true rfl) ?_
  intro p e s m below meth c hC hH hr hlocks hnm ls hl
  have hx := hC.1
  have hb := hC.2.1
  have hB : th_B G Γ Γ [] H0 H0 [] := ⟨hI, va_S.rf, th_F_rf⟩
  have hl : lv_has ls 1 [(0, .ref a0)] := hl
  obtain ⟨F, hF0⟩ : ∃ F, F = f_X8_forcedLaw (dv G Γ H0) ((a0 : Int)) := ⟨_, rfl⟩
  have hF := hF0.trans (f_X8_forcedLaw.eq_1 (dv G Γ H0) ((a0 : Int)))
  refine lv_aload_n hx hb dX8_forcedLaw_0 rfl (lv_at hl 0 rfl) ?_
  refine lv_aload_n hx hb dX8_forcedLaw_1 rfl (lv_at hl 0 rfl) ?_
  refine th_getI (j := 6) hC cf_X8 hB.1 h0 ro_32 rfl rfl kf_X8_38 dX8_forcedLaw_2 (fun x1 mx1 lx1 ux1 => ?_)
  replace hF := hF.trans (dv_bn (dv_getI h0 ro_32 (j := 6) rfl mx1 (by decide)))
  refine th_call (th_runV (As := [.int x1]) (rest := []) hC mf_X8_lawOf km_X8_45 im_X8_lawOf se_X8_lawOf (c_X8_lawOf l G Γ H0 hB.1 hU a0 h0 x1) rfl rfl ⟨Nat.le_of_ble_eq_true rfl, Nat.le_of_ble_eq_true rfl⟩ hB.1 h0 ro_32 rfl rfl hl.1 rfl (Nat.le_of_ble_eq_true rfl) dX8_forcedLaw_5 ⟨Nat.le_refl _, Nat.le_refl _⟩) hB.2.1 (fun v5 H5 locs hp hz hS => ?_)
  obtain ⟨v2, rfl, hv2, q5_0, rfl⟩ := hp
  have hB := th_B_s hB hS
  replace hF := hF.trans (dv_bn2 (q5_0))
  refine W.eq (g2 := F0 m 8 ls [v2]) rfl ?_
  exact th_aret hC hH hr (Or.inl ⟨_, rfl⟩) (tr_qr hv2) hlocks hB.2.1 ⟨_, rfl, hv2, (hF0.symm.trans hF), rfl⟩ dX8_forcedLaw_8

set_option maxHeartbeats 4000000 in
set_option maxRecDepth 100000 in
theorem c_X8_copyFrom (l : Launch) (G : th_G) (Γ : th_Ga) (H0 : Heap) (hI : th_I G Γ H0) (hR : th_RC G Γ H0) (hU : dv_U Γ) (a0 : Nat) (h0 : Γ a0 = (32, 0)) (p1 : Nat) (h1 : Γ p1 = (32, 0)) : Met l yX8_copyFrom (.code yX8_copyFrom cX8_copyFrom 3 (none) :: th_tb) ({ frames := 2, cells := 0, slots := 0, locals := 61 } : Room) (th_P [.ref a0, .ref p1] G H0) (th_Q (fun (v : Option Value) (H1 : Heap) => v = none ∧ th_I G Γ H1 ∧ th_F G Γ [(4, 0), (5, 0), (6, 0), (9, 0), (3, 7), (3, 8), (3, 9), (3, 10), (7, 0), (8, 0), (40, 0), (41, 0), (39, 2), (39, 3), (34, 0), (35, 0), (36, 0), (32, 5), (32, 6), (32, 7)] H0 H1 ∧ th_RC G Γ H1 ∧ (f_X8_copyFrom (dv G Γ H0) (a0 : Int) (p1 : Int) = (dv G Γ H1, 0))) G) 0 0 (fun q => G.2.2 ≤ q) := by
  refine th_met RX8 (by decide) rfl (Nat.le_of_ble_eq_true rfl) ?_
  intro p e s m below meth c hC hH hr hlocks hnm ls hl
  have hx := hC.1
  have hb := hC.2.1
  have hB : th_B G Γ Γ [(4, 0), (5, 0), (6, 0), (9, 0), (3, 7), (3, 8), (3, 9), (3, 10), (7, 0), (8, 0), (40, 0), (41, 0), (39, 2), (39, 3), (34, 0), (35, 0), (36, 0), (32, 5), (32, 6), (32, 7)] H0 H0 [] := ⟨hI, va_S.rf, th_F_rf⟩
  have hl : lv_has ls 3 [(0, .ref a0), (1, .ref p1)] := hl
  obtain ⟨F, hF0⟩ : ∃ F, F = f_X8_copyFrom (dv G Γ H0) ((a0 : Int)) ((p1 : Int)) := ⟨_, rfl⟩
  have hF := hF0.trans (f_X8_copyFrom.eq_1 (dv G Γ H0) ((a0 : Int)) ((p1 : Int)))
  refine lv_aload_n hx hb dX8_copyFrom_0 rfl (lv_at hl 0 rfl) ?_
  refine th_getR (j := 0) (r2 := 3) hC cf_X8 hB.1 h0 ro_32 rfl rfl kf_X8_12 dX8_copyFrom_1 (fun b1 mb1 hb1 => ?_)
  replace hF := hF.trans (dv_bn (dv_getR h0 ro_32 (j := 0) rfl mb1 (by decide)))
  refine lv_aload_n hx hb dX8_copyFrom_4 rfl (lv_at hl 1 rfl) ?_
  refine th_getR (j := 0) (r2 := 3) hC cf_X8 hB.1 h1 ro_32 rfl rfl kf_X8_12 dX8_copyFrom_5 (fun b2 mb2 hb2 => ?_)
  replace hF := hF.trans (dv_bn (dv_getR h1 ro_32 (j := 0) rfl mb2 (by decide)))
  refine th_call (th_runV (As := [.ref b2]) (rest := []) hC mf_X1_copyFrom km_X8_49 im_X1_copyFrom se_X1_copyFrom (c_X1_copyFrom l G Γ H0 hB.1 hR hU b1 hb1 b2 hb2) rfl rfl ⟨Nat.le_of_ble_eq_true rfl, Nat.le_of_ble_eq_true rfl⟩ hB.1 hb1 ro_3 rfl rfl hl.1 rfl (Nat.le_of_ble_eq_true rfl) dX8_copyFrom_8 ⟨Nat.le_refl _, Nat.le_refl _⟩) hB.2.1 (fun v8 H8 locs hp hz hS => ?_)
  obtain ⟨rfl, hI1, hf, hR, z8_0⟩ := hp
  have hB := th_B_c hB hI1 hS hf (by decide)
  have mm3 := (th_F_o hf h0 ro_32 (j := 0) (by decide) (by decide)).trans mb1
  replace hF := hF.trans (dv_bn2 (z8_0))
  refine W.eq (g2 := F0 m 11 ls []) rfl ?_
  refine lv_iconst (v := 0) hx hb dX8_copyFrom_11 (by decide) ?_
  refine lv_istore_n (lv' := [(2, .int 0), (0, .ref a0), (1, .ref p1)]) hx hb dX8_copyFrom_12 rfl hl (by decide) rfl (fun ls hl => ?_)
  have lp13 : ∀ (n13 : Nat) (H13 : Heap) (locs : List Loc) (ls : Array Slot) (j13_2 : Int32), th_B G Γ Γ [(4, 0), (5, 0), (6, 0), (9, 0), (3, 7), (3, 8), (3, 9), (3, 10), (7, 0), (8, 0), (40, 0), (41, 0), (39, 2), (39, 3), (34, 0), (35, 0), (36, 0), (32, 5), (32, 6), (32, 7)] H0 H13 locs → th_RC G Γ H13 → lv_has ls 3 [(0, .ref a0), (1, .ref p1), (2, .int j13_2)] → F = dv_lp f_X8_copyFrom_13b (dv G Γ H13, (a0 : Int), (p1 : Int), j13_2.toInt) → 0 ≤ j13_2.toInt → j13_2.toInt ≤ 6 → (2147483648 : Int) - j13_2.toInt ≤ (n13 : Int) → W p l e ({ frames := 2, cells := 0, slots := 0, locals := 61 } : Room) s m ([.ref a0, .ref p1] : List Value).toArray below meth c H13 locs 0 0 (MQ below (th_Q (fun (v : Option Value) (H1 : Heap) => v = none ∧ th_I G Γ H1 ∧ th_F G Γ [(4, 0), (5, 0), (6, 0), (9, 0), (3, 7), (3, 8), (3, 9), (3, 10), (7, 0), (8, 0), (40, 0), (41, 0), (39, 2), (39, 3), (34, 0), (35, 0), (36, 0), (32, 5), (32, 6), (32, 7)] H0 H1 ∧ th_RC G Γ H1 ∧ (f_X8_copyFrom (dv G Γ H0) (a0 : Int) (p1 : Int) = (dv G Γ H1, 0))) G) ([.ref a0, .ref p1] : List Value).toArray s 0 0 (fun q => G.2.2 ≤ q)) (F0 m 13 ls []) := by
    intro n13
    induction n13 with
    | zero => intro H13 locs ls j13_2 hB hR hl hF g13_0 g13_1 hm13; exact absurd hm13 (by have := ti_hi j13_2; omega)
    | succ n13 ih13 =>
      intro H13 locs ls j13_2 hB hR hl hF g13_0 g13_1 hm13
      have lj13_2 := ti_lo j13_2; have uj13_2 := ti_hi j13_2
      have hm13 : (2147483648 : Int) - j13_2.toInt ≤ (n13 : Int) + 1 := by omega
      replace hF := hF.trans (dv_lp_eq)
      replace hF := hF.trans (congrArg (dv_k f_X8_copyFrom_13b) (f_X8_copyFrom_13c.eq_1 (dv G Γ H13) ((a0 : Int)) ((p1 : Int)) (j13_2.toInt)))
      refine lv_iload_n hx hb dX8_copyFrom_13 rfl (lv_at hl 2 rfl) ?_
      refine lv_aload_n hx hb dX8_copyFrom_14 rfl (lv_at hl 1 rfl) ?_
      refine th_getI (j := 5) hC cf_X8 hB.1 h1 ro_32 rfl rfl kf_X8_34 dX8_copyFrom_15 (fun x4 mx4 lx4 ux4 => ?_)
      replace hF := hF.trans (congrArg (dv_k f_X8_copyFrom_13b) (dv_bn (dv_getI h1 ro_32 (j := 5) rfl mx4 (by decide))))
      refine tr_icmp_ge (tgt := 42) hx hb dX8_copyFrom_18 (by decide) (Eq.refl _) (Eq.refl _) (fun c18 => ?_) (fun c18 => ?_)
      · replace hF := hF.trans (congrArg (dv_k f_X8_copyFrom_13b) (if_pos c18))
        refine lv_aload_n hx hb dX8_copyFrom_42 rfl (lv_at hl 1 rfl) ?_
        refine th_getO (j := 2) (r2 := 34) hC cf_X8 hB.1 h1 ro_32 rfl rfl kf_X8_24 dX8_copyFrom_43 (fun b5 mb5 hb5 => ?_)
        have sb5 := (th_F_o hB.2.2 h1 ro_32 (j := 2) (by decide) (by decide)).symm.trans mb5
        refine lv_iconst (v := 0) hx hb dX8_copyFrom_46 (by decide) ?_
        refine lv_aload_n hx hb dX8_copyFrom_47 rfl (lv_at hl 0 rfl) ?_
        refine th_getO (j := 2) (r2 := 34) hC cf_X8 hB.1 h0 ro_32 rfl rfl kf_X8_24 dX8_copyFrom_48 (fun b6 mb6 hb6 => ?_)
        refine lv_iconst (v := 0) hx hb dX8_copyFrom_51 (by decide) ?_
        refine lv_bipush (v := 6) hx hb dX8_copyFrom_52 (by decide) ?_
        have hIo := hB.1
        refine tr_acopy hC kac_X8_56 kw_nat kw_sta kw_sys hl.1 hB hb5 hb6 (Or.inl hb6) ro_34 ro_34 (by decide) tk_0 tk_0 tk_6 (by omega) (by omega) (by omega) (by omega) (by omega) (fun _ _ => rfl) (fun _ _ _ hv => hv) (Nat.le_of_ble_eq_true rfl) (Nat.le_of_ble_eq_true rfl) dX8_copyFrom_54 (fun H54 locs hB hf54 hcp54 => ?_)
        have hf := hf54
        have mm7 := (th_F_o hf h1 ro_32 (j := 5) (by decide) (by decide)).trans mx4
        have mm8 := (th_F_o hf h1 ro_32 (j := 2) (by decide) (by decide)).trans mb5
        have hR := th_RC_F hB.1 hR hf (th_T_c hb6 ro_34 hcp54) (by decide)
        replace hF := hF.trans (congrArg (dv_k f_X8_copyFrom_13b) (dv_bn (dv_cpy hIo hB.1 hU hb5 ow_34 hb6 ow_34 (x := 0) (y := 0) (n := 6) hcp54 (by omega) (by omega) (by omega))))
        refine lv_aload_n hx hb dX8_copyFrom_57 rfl (lv_at hl 1 rfl) ?_
        refine th_getO (j := 3) (r2 := 35) hC cf_X8 hB.1 h1 ro_32 rfl rfl kf_X8_28 dX8_copyFrom_58 (fun b9 mb9 hb9 => ?_)
        have sb9 := (th_F_o hB.2.2 h1 ro_32 (j := 3) (by decide) (by decide)).symm.trans mb9
        refine lv_iconst (v := 0) hx hb dX8_copyFrom_61 (by decide) ?_
        refine lv_aload_n hx hb dX8_copyFrom_62 rfl (lv_at hl 0 rfl) ?_
        refine th_getO (j := 3) (r2 := 35) hC cf_X8 hB.1 h0 ro_32 rfl rfl kf_X8_28 dX8_copyFrom_63 (fun b10 mb10 hb10 => ?_)
        refine lv_iconst (v := 0) hx hb dX8_copyFrom_66 (by decide) ?_
        refine lv_bipush (v := 6) hx hb dX8_copyFrom_67 (by decide) ?_
        have hIo := hB.1
        refine tr_acopy hC kac_X8_56 kw_nat kw_sta kw_sys hl.1 hB hb9 hb10 (Or.inl hb10) ro_35 ro_35 (by decide) tk_0 tk_0 tk_6 (by omega) (by omega) (by omega) (by omega) (by omega) (fun _ _ => rfl) (fun _ _ _ hv => hv) (Nat.le_of_ble_eq_true rfl) (Nat.le_of_ble_eq_true rfl) dX8_copyFrom_69 (fun H69 locs hB hf69 hcp69 => ?_)
        have hf := hf69
        have mm11 := (th_F_o hf h1 ro_32 (j := 5) (by decide) (by decide)).trans mm7
        have mm12 := (th_F_o hf h1 ro_32 (j := 2) (by decide) (by decide)).trans mm8
        have mm13 := (th_F_o hf h1 ro_32 (j := 3) (by decide) (by decide)).trans mb9
        have hR := th_RC_F hB.1 hR hf (th_T_c hb10 ro_35 hcp69) (by decide)
        replace hF := hF.trans (congrArg (dv_k f_X8_copyFrom_13b) (dv_bn (dv_cpy hIo hB.1 hU hb9 ow_35 hb10 ow_35 (x := 0) (y := 0) (n := 6) hcp69 (by omega) (by omega) (by omega))))
        refine lv_aload_n hx hb dX8_copyFrom_72 rfl (lv_at hl 1 rfl) ?_
        refine th_getO (j := 4) (r2 := 36) hC cf_X8 hB.1 h1 ro_32 rfl rfl kf_X8_31 dX8_copyFrom_73 (fun b14 mb14 hb14 => ?_)
        have sb14 := (th_F_o hB.2.2 h1 ro_32 (j := 4) (by decide) (by decide)).symm.trans mb14
        refine lv_iconst (v := 0) hx hb dX8_copyFrom_76 (by decide) ?_
        refine lv_aload_n hx hb dX8_copyFrom_77 rfl (lv_at hl 0 rfl) ?_
        refine th_getO (j := 4) (r2 := 36) hC cf_X8 hB.1 h0 ro_32 rfl rfl kf_X8_31 dX8_copyFrom_78 (fun b15 mb15 hb15 => ?_)
        refine lv_iconst (v := 0) hx hb dX8_copyFrom_81 (by decide) ?_
        refine lv_bipush (v := 6) hx hb dX8_copyFrom_82 (by decide) ?_
        have hIo := hB.1
        refine tr_acopy hC kac_X8_56 kw_nat kw_sta kw_sys hl.1 hB hb14 hb15 (Or.inl hb15) ro_36 ro_36 (by decide) tk_0 tk_0 tk_6 (by omega) (by omega) (by omega) (by omega) (by omega) (fun _ _ => rfl) (fun _ _ _ hv => hv) (Nat.le_of_ble_eq_true rfl) (Nat.le_of_ble_eq_true rfl) dX8_copyFrom_84 (fun H84 locs hB hf84 hcp84 => ?_)
        have hf := hf84
        have mm16 := (th_F_o hf h1 ro_32 (j := 5) (by decide) (by decide)).trans mm11
        have mm17 := (th_F_o hf h1 ro_32 (j := 2) (by decide) (by decide)).trans mm12
        have mm18 := (th_F_o hf h1 ro_32 (j := 3) (by decide) (by decide)).trans mm13
        have mm19 := (th_F_o hf h1 ro_32 (j := 4) (by decide) (by decide)).trans mb14
        have hR := th_RC_F hB.1 hR hf (th_T_c hb15 ro_36 hcp84) (by decide)
        replace hF := hF.trans (congrArg (dv_k f_X8_copyFrom_13b) (dv_bn (dv_cpy hIo hB.1 hU hb14 ow_36 hb15 ow_36 (x := 0) (y := 0) (n := 6) hcp84 (by omega) (by omega) (by omega))))
        refine lv_aload_n hx hb dX8_copyFrom_87 rfl (lv_at hl 0 rfl) ?_
        refine lv_aload_n hx hb dX8_copyFrom_88 rfl (lv_at hl 1 rfl) ?_
        refine th_getK hC cf_X8 hB.1 h1 ro_32 rfl (j := 5) (by decide) mm16 kf_X8_34 dX8_copyFrom_89 ?_
        replace hF := hF.trans (congrArg (dv_k f_X8_copyFrom_13b) (dv_bn (dv_getI h1 ro_32 (j := 5) rfl mm16 (by decide))))
        refine th_put hC cf_X8 hB h0 (Or.inl h0) ro_32 rfl (j := 5) rfl (th_sI (by omega) (by omega)) (by decide) rfl rfl rfl kf_X8_34 dX8_copyFrom_92 (fun H92 locs hB hf hst92 => ?_)
        have mm20 := (th_F_o hf h1 ro_32 (j := 2) (by decide) (by decide)).trans mm17
        have mm21 := (th_F_o hf h1 ro_32 (j := 3) (by decide) (by decide)).trans mm18
        have mm22 := (th_F_o hf h1 ro_32 (j := 4) (by decide) (by decide)).trans mm19
        have hR := th_RC_F hB.1 hR hf (th_T_s h0 ro_32 hst92) (by decide)
        replace hF := hF.trans (congrArg (dv_k f_X8_copyFrom_13b) (dv_bn (dv_putI hB.1 h0 ro_32 (j := 5) rfl (th_apart hC cf_X8) hst92 (Eq.refl _) (by decide))))
        refine lv_aload_n hx hb dX8_copyFrom_95 rfl (lv_at hl 0 rfl) ?_
        refine lv_aload_n hx hb dX8_copyFrom_96 rfl (lv_at hl 1 rfl) ?_
        refine th_getI (j := 6) hC cf_X8 hB.1 h1 ro_32 rfl rfl kf_X8_38 dX8_copyFrom_97 (fun x23 mx23 lx23 ux23 => ?_)
        replace hF := hF.trans (congrArg (dv_k f_X8_copyFrom_13b) (dv_bn (dv_getI h1 ro_32 (j := 6) rfl mx23 (by decide))))
        refine th_put hC cf_X8 hB h0 (Or.inl h0) ro_32 rfl (j := 6) rfl th_sIa (by decide) rfl rfl rfl kf_X8_38 dX8_copyFrom_100 (fun H100 locs hB hf hst100 => ?_)
        have mm24 := (th_F_o hf h1 ro_32 (j := 2) (by decide) (by decide)).trans mm20
        have mm25 := (th_F_o hf h1 ro_32 (j := 3) (by decide) (by decide)).trans mm21
        have mm26 := (th_F_o hf h1 ro_32 (j := 4) (by decide) (by decide)).trans mm22
        have hR := th_RC_F hB.1 hR hf (th_T_s h0 ro_32 hst100) (by decide)
        replace hF := hF.trans (congrArg (dv_k f_X8_copyFrom_13b) (dv_bn (dv_putI hB.1 h0 ro_32 (j := 6) rfl (th_apart hC cf_X8) hst100 (Eq.refl _) (by decide))))
        refine lv_aload_n hx hb dX8_copyFrom_103 rfl (lv_at hl 0 rfl) ?_
        refine lv_aload_n hx hb dX8_copyFrom_104 rfl (lv_at hl 1 rfl) ?_
        refine th_getI (j := 7) hC cf_X8 hB.1 h1 ro_32 rfl rfl kf_X8_41 dX8_copyFrom_105 (fun x27 mx27 lx27 ux27 => ?_)
        replace hF := hF.trans (congrArg (dv_k f_X8_copyFrom_13b) (dv_bn (dv_getI h1 ro_32 (j := 7) rfl mx27 (by decide))))
        refine th_put hC cf_X8 hB h0 (Or.inl h0) ro_32 rfl (j := 7) rfl (th_sI (by omega) (by omega)) (by decide) rfl rfl rfl kf_X8_41 dX8_copyFrom_108 (fun H108 locs hB hf hst108 => ?_)
        have mm28 := (th_F_o hf h1 ro_32 (j := 2) (by decide) (by decide)).trans mm24
        have mm29 := (th_F_o hf h1 ro_32 (j := 3) (by decide) (by decide)).trans mm25
        have mm30 := (th_F_o hf h1 ro_32 (j := 4) (by decide) (by decide)).trans mm26
        have hR := th_RC_F hB.1 hR hf (th_T_s h0 ro_32 hst108) (by decide)
        replace hF := hF.trans (congrArg (dv_k f_X8_copyFrom_13b) (dv_bn (dv_putI hB.1 h0 ro_32 (j := 7) rfl (th_apart hC cf_X8) hst108 (Eq.refl _) (by decide))))
        replace hF := hF.trans (dv_kr)
        exact th_vret hC hH hr hlocks hB.2.1 ⟨rfl, hB.1, hB.2.2, hR, (hF0.symm.trans hF)⟩ dX8_copyFrom_111
      · replace hF := hF.trans (congrArg (dv_k f_X8_copyFrom_13b) (if_neg (Int.not_le.mpr c18)))
        refine lv_aload_n hx hb dX8_copyFrom_21 rfl (lv_at hl 0 rfl) ?_
        refine th_getO (j := 1) (r2 := 33) hC cf_X8 hB.1 h0 ro_32 rfl rfl kf_X8_20 dX8_copyFrom_22 (fun b31 mb31 hb31 => ?_)
        have sb31 := (th_F_o hB.2.2 h0 ro_32 (j := 1) (by decide) (by decide)).symm.trans mb31
        refine lv_iload_n hx hb dX8_copyFrom_25 rfl (lv_at hl 2 rfl) ?_
        refine th_aaldF (r2 := 39) hC hB.1 hb31 ro_33 rfl (Eq.refl _) (by omega) (by omega) rfl dX8_copyFrom_26 (fun b32 mb32 hb32 => ?_)
        replace hF := hF.trans (congrArg (dv_k f_X8_copyFrom_13b) (dv_bn (dv_aldR hB.1 hU hb31 ow_33 (z := j13_2.toInt) mb32 (by omega))))
        refine lv_aload_n hx hb dX8_copyFrom_27 rfl (lv_at hl 1 rfl) ?_
        refine th_getO (j := 1) (r2 := 33) hC cf_X8 hB.1 h1 ro_32 rfl rfl kf_X8_20 dX8_copyFrom_28 (fun b33 mb33 hb33 => ?_)
        have sb33 := (th_F_o hB.2.2 h1 ro_32 (j := 1) (by decide) (by decide)).symm.trans mb33
        refine lv_iload_n hx hb dX8_copyFrom_31 rfl (lv_at hl 2 rfl) ?_
        refine th_aaldF (r2 := 39) hC hB.1 hb33 ro_33 rfl (Eq.refl _) (by omega) (by omega) rfl dX8_copyFrom_32 (fun b34 mb34 hb34 => ?_)
        replace hF := hF.trans (congrArg (dv_k f_X8_copyFrom_13b) (dv_bn (dv_aldR hB.1 hU hb33 ow_33 (z := j13_2.toInt) mb34 (by omega))))
        refine th_call (th_runV (As := [.ref b34]) (rest := []) hC mf_X10_copyFrom km_X8_53 im_X10_copyFrom se_X10_copyFrom (c_X10_copyFrom l G Γ H13 hB.1 hR hU b32 hb32 b34 hb34) rfl rfl ⟨Nat.le_of_ble_eq_true rfl, Nat.le_of_ble_eq_true rfl⟩ hB.1 hb32 ro_39 rfl rfl hl.1 rfl (Nat.le_of_ble_eq_true rfl) dX8_copyFrom_33 ⟨Nat.le_refl _, Nat.le_refl _⟩) hB.2.1 (fun v33 H33 locs hp hz hS => ?_)
        obtain ⟨rfl, hI1, hf, hR, z33_0⟩ := hp
        have hB := th_B_c hB hI1 hS hf (by decide)
        have mm35 := (th_F_o hf h1 ro_32 (j := 5) (by decide) (by decide)).trans mx4
        have mm36 := (th_F_o hf h0 ro_32 (j := 1) (by decide) (by decide)).trans mb31
        have mm37 := (th_F_o hf h1 ro_32 (j := 1) (by decide) (by decide)).trans mb33
        replace hF := hF.trans (congrArg (dv_k f_X8_copyFrom_13b) (dv_bn2 (z33_0)))
        refine W.eq (g2 := F0 m 36 ls []) rfl ?_
        refine tr_iinc (fun x38 => [(2, .int x38), (0, .ref a0), (1, .ref p1)]) hx hb dX8_copyFrom_36 hl (k := 2) rfl (Eq.refl _) tk_1 (by omega) (by omega) (by decide) (fun _ => rfl) (fun x38 ls ex38 hl => ?_)
        replace hF := hF.trans (congrArg (dv_k f_X8_copyFrom_13b) (dv_bn (ex38.symm)))
        refine lv_goto (tgt := 13) hx hb dX8_copyFrom_39 (by decide) ?_
        replace hF := hF.trans (dv_kl)
        exact ih13 H33 locs ls x38 hB hR (lv_sub hl [1, 2, 0] rfl) hF (by omega) (by omega) (by omega)
  exact lp13 ((2147483648 : Int) - (0)).toNat H8 locs ls 0 hB hR (lv_sub hl [1, 2, 0] rfl) (by rw [tk_0]; exact hF) (by decide) (by decide) (by have w0 := tk_0; omega)
