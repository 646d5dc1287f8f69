set_option maxHeartbeats 4000000 in
set_option maxRecDepth 100000 in
theorem c_X11_onGrid (l : Launch) (G : th_G) (Γ : th_Ga) (H0 : Heap) (hI : th_I G Γ H0) (hU : dv_U Γ) (p1 : Int32) : Met l yX11_onGrid (.code yX11_onGrid cX11_onGrid 1 (some FieldType.boolean) :: th_tb) ({ frames := 0, cells := 0, slots := 0, locals := 0 } : Room) (th_P [.int p1] G H0) (th_Q (fun (v : Option Value) (H1 : Heap) => ∃ r : Int32, v = some (.int r) ∧ 0 ≤ r.toInt ∧ r.toInt ≤ 1 ∧ (r.toInt = 1 → 0 ≤ p1.toInt ∧ p1.toInt ≤ 11) ∧ (f_X11_onGrid (dv G Γ H0) p1.toInt = (r.toInt, ())) ∧ H0 = H1) G) 0 0 (fun q => G.2.2 ≤ q) := by
  refine th_met RX11 (by decide) rfl (Nat.le_of_ble_eq_true rfl) ?_
  intro p e s m below meth c hC hH hr hlocks hnm ls hl
  have hx := hC.1
  have hb := hC.2.1
  have hB : th_B G Γ Γ [] H0 H0 [] := ⟨hI, va_S.rf, th_F_rf⟩
  have hl : lv_has ls 1 [(0, .int p1)] := hl
  have lp1 := ti_lo p1; have up1 := ti_hi p1
  obtain ⟨F, hF0⟩ : ∃ F, F = f_X11_onGrid (dv G Γ H0) (p1.toInt) := ⟨_, rfl⟩
  have hF := hF0.trans (f_X11_onGrid.eq_1 (dv G Γ H0) (p1.toInt))
  refine lv_iload_n hx hb dX11_onGrid_0 rfl (lv_at hl 0 rfl) ?_
  refine tr_if_lt (tgt := 14) hx hb dX11_onGrid_1 (by decide) (Eq.refl _) (fun c1 => ?_) (fun c1 => ?_)
  · replace hF := hF.trans (if_pos c1)
    refine lv_iconst (v := 0) hx hb dX11_onGrid_14 (by decide) ?_
    exact th_iret hC hH hr hlocks narrow_b0 hB.2.1 ⟨_, rfl, by decide, by decide, by first | (intro h9; exact absurd h9 (by decide)) | (have w9 := tk_0; intros; omega), (hF0.symm.trans (hF.trans (by rw [tk_0]))), rfl⟩ dX11_onGrid_15
  · replace hF := hF.trans (if_neg (Int.not_lt.mpr c1))
    refine lv_iload_n hx hb dX11_onGrid_4 rfl (lv_at hl 0 rfl) ?_
    refine lv_bipush (v := 12) hx hb dX11_onGrid_5 (by decide) ?_
    refine tr_icmp_ge (tgt := 14) hx hb dX11_onGrid_7 (by decide) (Eq.refl _) tk_12 (fun c7 => ?_) (fun c7 => ?_)
    · replace hF := hF.trans (if_pos c7)
      refine lv_iconst (v := 0) hx hb dX11_onGrid_14 (by decide) ?_
      exact th_iret hC hH hr hlocks narrow_b0 hB.2.1 ⟨_, rfl, by decide, by decide, by first | (intro h9; exact absurd h9 (by decide)) | (have w9 := tk_0; intros; omega), (hF0.symm.trans (hF.trans (by rw [tk_0]))), rfl⟩ dX11_onGrid_15
    · replace hF := hF.trans (if_neg (Int.not_le.mpr c7))
      refine lv_iconst (v := 1) hx hb dX11_onGrid_10 (by decide) ?_
      refine lv_goto (tgt := 15) hx hb dX11_onGrid_11 (by decide) ?_
      exact th_iret hC hH hr hlocks narrow_b1 hB.2.1 ⟨_, rfl, by decide, by decide, by first | (intro h9; exact absurd h9 (by decide)) | (have w9 := tk_1; intros; omega), (hF0.symm.trans (hF.trans (by rw [tk_1]))), rfl⟩ dX11_onGrid_15

set_option maxHeartbeats 4000000 in
set_option maxRecDepth 100000 in
theorem c_X11_mostOfTerm (l : Launch) (G : th_G) (Γ : th_Ga) (H0 : Heap) (hI : th_I G Γ H0) (hU : dv_U Γ) (p1 : Int32) : Met l yX11_mostOfTerm (.code yX11_mostOfTerm cX11_mostOfTerm 1 (some FieldType.int) :: th_tb) ({ frames := 0, cells := 0, slots := 0, locals := 0 } : Room) (th_P [.int p1] G H0) (th_Q (fun (v : Option Value) (H1 : Heap) => ∃ r : Int32, v = some (.int r) ∧ (f_X11_mostOfTerm (dv G Γ H0) p1.toInt = (r.toInt, ())) ∧ H0 = H1) G) 0 0 (fun q => G.2.2 ≤ q) := by
  refine th_met RX11 (by decide) rfl (Nat.le_of_ble_eq_true rfl) ?_
  intro p e s m below meth c hC hH hr hlocks hnm ls hl
  have hx := hC.1
  have hb := hC.2.1
  have hB : th_B G Γ Γ [] H0 H0 [] := ⟨hI, va_S.rf, th_F_rf⟩
  have hl : lv_has ls 1 [(0, .int p1)] := hl
  have lp1 := ti_lo p1; have up1 := ti_hi p1
  obtain ⟨F, hF0⟩ : ∃ F, F = f_X11_mostOfTerm (dv G Γ H0) (p1.toInt) := ⟨_, rfl⟩
  have hF := hF0.trans (f_X11_mostOfTerm.eq_1 (dv G Γ H0) (p1.toInt))
  refine lv_iload_n hx hb dX11_mostOfTerm_0 rfl (lv_at hl 0 rfl) ?_
  refine tr_if_ne (tgt := 10) hx hb dX11_mostOfTerm_1 (by decide) (Eq.refl _) (fun c1 => ?_) (fun c1 => ?_)
  · replace hF := hF.trans (if_pos c1)
    refine lv_iload_n hx hb dX11_mostOfTerm_10 rfl (lv_at hl 0 rfl) ?_
    refine lv_iconst (v := 1) hx hb dX11_mostOfTerm_11 (by decide) ?_
    refine tr_icmp_ne (tgt := 20) hx hb dX11_mostOfTerm_12 (by decide) (Eq.refl _) tk_1 (fun c12 => ?_) (fun c12 => ?_)
    · replace hF := hF.trans (if_pos c12)
      refine lv_bipush (v := 9) hx hb dX11_mostOfTerm_20 (by decide) ?_
      exact th_iret hC hH hr hlocks rfl hB.2.1 ⟨_, rfl, (hF0.symm.trans (hF.trans (by rw [tk_9]))), rfl⟩ dX11_mostOfTerm_22
    · replace hF := hF.trans (if_neg (not_not_intro c12))
      refine lv_bipush (v := 10) hx hb dX11_mostOfTerm_15 (by decide) ?_
      refine lv_goto (tgt := 22) hx hb dX11_mostOfTerm_17 (by decide) ?_
      exact th_iret hC hH hr hlocks rfl hB.2.1 ⟨_, rfl, (hF0.symm.trans (hF.trans (by rw [tk_10]))), rfl⟩ dX11_mostOfTerm_22
  · replace hF := hF.trans (if_neg (not_not_intro c1))
    refine lv_sipush (v := 999) hx hb dX11_mostOfTerm_4 (by decide) ?_
    refine lv_goto (tgt := 22) hx hb dX11_mostOfTerm_7 (by decide) ?_
    exact th_iret hC hH hr hlocks rfl hB.2.1 ⟨_, rfl, (hF0.symm.trans (hF.trans (by rw [tk_999]))), rfl⟩ dX11_mostOfTerm_22

set_option maxHeartbeats 4000000 in
set_option maxRecDepth 100000 in
theorem c_X11_nextDraw (l : Launch) (G : th_G) (Γ : th_Ga) (H0 : Heap) (hI : th_I G Γ H0) (hU : dv_U Γ) (p1 : Int32) : Met l yX11_nextDraw (.code yX11_nextDraw cX11_nextDraw 1 (some FieldType.int) :: th_tb) ({ frames := 0, cells := 0, slots := 0, locals := 0 } : Room) (th_P [.int p1] G H0) (th_Q (fun (v : Option Value) (H1 : Heap) => ∃ r : Int32, v = some (.int r) ∧ (f_X11_nextDraw (dv G Γ H0) p1.toInt = (r.toInt, ())) ∧ H0 = H1) G) 0 0 (fun q => G.2.2 ≤ q) := by
  refine th_met RX11 (by decide) rfl (Nat.le_of_ble_eq_true rfl) ?_
  intro p e s m below meth c hC hH hr hlocks hnm ls hl
  have hx := hC.1
  have hb := hC.2.1
  have hB : th_B G Γ Γ [] H0 H0 [] := ⟨hI, va_S.rf, th_F_rf⟩
  have hl : lv_has ls 1 [(0, .int p1)] := hl
  have lp1 := ti_lo p1; have up1 := ti_hi p1
  obtain ⟨F, hF0⟩ : ∃ F, F = f_X11_nextDraw (dv G Γ H0) (p1.toInt) := ⟨_, rfl⟩
  have hF := hF0.trans (f_X11_nextDraw.eq_1 (dv G Γ H0) (p1.toInt))
  refine lv_iload_n hx hb dX11_nextDraw_0 rfl (lv_at hl 0 rfl) ?_
  refine lv_sipush (v := 1103) hx hb dX11_nextDraw_1 (by decide) ?_
  refine lv_imul hx hb dX11_nextDraw_4 ?_
  refine lv_topi (fun x1 ex1 => ?_)
  have lx1 := ti_lo x1; have ux1 := ti_hi x1
  replace hF := hF.trans (dv_bn (dv_mul_e (Eq.refl _) tk_1103 ex1))
  refine lv_sipush (v := 12345) hx hb dX11_nextDraw_5 (by decide) ?_
  refine lv_iadd hx hb dX11_nextDraw_8 ?_
  refine lv_topi (fun x2 ex2 => ?_)
  have lx2 := ti_lo x2; have ux2 := ti_hi x2
  replace hF := hF.trans (dv_bn (dv_add_e (Eq.refl _) tk_12345 ex2))
  refine lv_ldcw (v := 1000003) hx hb hC.2.2.2.1 (hC.2.2.2.2.1 _ kw_1184) dX11_nextDraw_9 ?_
  refine lv_irem hx hb dX11_nextDraw_12 (fun q => by have := congrArg Int32.toInt q; have h0 : (0 : Int32).toInt = 0 := rfl; have hy := tk_1000003; omega) ?_
  refine lv_topi (fun x3 ex3 => ?_)
  have lx3 := ti_lo x3; have ux3 := ti_hi x3
  replace hF := hF.trans (dv_bn (dv_rem_e (Eq.refl _) tk_1000003 ex3))
  exact th_iret hC hH hr hlocks rfl hB.2.1 ⟨_, rfl, (hF0.symm.trans hF), rfl⟩ dX11_nextDraw_13

set_option maxHeartbeats 4000000 in
set_option maxRecDepth 100000 in
theorem c_X11_answer (l : Launch) (G : th_G) (Γ : th_Ga) (H0 : Heap) (hI : th_I G Γ H0) (hR : th_RC G Γ H0) (hU : dv_U Γ) (a0 : Nat) (h0 : Γ a0 = (42, 0)) (p1 : Int32) : Met l yX11_answer (.code yX11_answer cX11_answer 2 (some FieldType.int) :: th_tb) ({ frames := 0, cells := 0, slots := 0, locals := 0 } : Room) (th_P [.ref a0, .int p1] G H0) (th_Q (fun (v : Option Value) (H1 : Heap) => ∃ r : Int32, v = some (.int r) ∧ (r.toInt = p1.toInt) ∧ th_I G Γ H1 ∧ th_F G Γ [(45, 0), (42, 14)] H0 H1 ∧ th_RC G Γ H1 ∧ (f_X11_answer (dv G Γ H0) (a0 : Int) p1.toInt = (dv G Γ H1, r.toInt))) G) 0 0 (fun q => G.2.2 ≤ q) := by
  refine th_met RX11 (by decide) rfl (Nat.le_of_ble_eq_true rfl) ?_
  intro p e s m below meth c hC hH hr hlocks hnm ls hl
  have hx := hC.1
  have hb := hC.2.1
  have hB : th_B G Γ Γ [(45, 0), (42, 14)] H0 H0 [] := ⟨hI, va_S.rf, th_F_rf⟩
  have hl : lv_has ls 2 [(0, .ref a0), (1, .int p1)] := hl
  have lp1 := ti_lo p1; have up1 := ti_hi p1
  obtain ⟨F, hF0⟩ : ∃ F, F = f_X11_answer (dv G Γ H0) ((a0 : Int)) (p1.toInt) := ⟨_, rfl⟩
  have hF := hF0.trans (f_X11_answer.eq_1 (dv G Γ H0) ((a0 : Int)) (p1.toInt))
  refine lv_aload_n hx hb dX11_answer_0 rfl (lv_at hl 0 rfl) ?_
  refine lv_iload_n hx hb dX11_answer_1 rfl (lv_at hl 1 rfl) ?_
  have jn10 : ∀ (locs : List Loc) (ls : Array Slot) (s10_1 : Int32), th_B G Γ Γ [(45, 0), (42, 14)] H0 H0 locs → lv_has ls 2 [(0, .ref a0), (1, .int p1)] → F = f_X11_answer_10 (dv G Γ H0) ((a0 : Int)) (p1.toInt) (s10_1.toInt) → s10_1.toInt ≤ 0 → W p l e ({ frames := 0, cells := 0, slots := 0, locals := 0 } : Room) s m ([.ref a0, .int p1] : List Value).toArray below meth c H0 locs 0 0 (MQ below (th_Q (fun (v : Option Value) (H1 : Heap) => ∃ r : Int32, v = some (.int r) ∧ (r.toInt = p1.toInt) ∧ th_I G Γ H1 ∧ th_F G Γ [(45, 0), (42, 14)] H0 H1 ∧ th_RC G Γ H1 ∧ (f_X11_answer (dv G Γ H0) (a0 : Int) p1.toInt = (dv G Γ H1, r.toInt))) G) ([.ref a0, .int p1] : List Value).toArray s 0 0 (fun q => G.2.2 ≤ q)) (F0 m 10 ls [.int s10_1, .ref a0]) := by
    intro locs ls s10_1 hB hl hF g10_0
    have ls10_1 := ti_lo s10_1; have us10_1 := ti_hi s10_1
    replace hF := hF.trans (f_X11_answer_10.eq_1 (dv G Γ H0) ((a0 : Int)) (p1.toInt) (s10_1.toInt))
    refine th_put hC cf_X11 hB h0 (Or.inl h0) ro_42 rfl (j := 14) rfl th_sIa (by decide) rfl rfl rfl kf_X11_94 dX11_answer_10 (fun H10 locs hB hf hst10 => ?_)
    have hR := th_RC_F hB.1 hR hf (th_T_s h0 ro_42 hst10) (by decide)
    replace hF := hF.trans (dv_bn (dv_putI hB.1 h0 ro_42 (j := 14) rfl (th_apart hC cf_X11) hst10 (Eq.refl _) (by decide)))
    refine lv_iload_n hx hb dX11_answer_13 rfl (lv_at hl 1 rfl) ?_
    by_cases k14_0 : p1.toInt = (-6)
    · replace hF := hF.trans (if_pos k14_0)
      refine lv_tableIn (off := 90) (tgt := 104) hx hb dX11_answer_14 (by omega) (by omega) (by rw [show p1.toInt = (-6) from k14_0]; decide) (by decide) ?_
      refine lv_aload_n hx hb dX11_answer_104 rfl (lv_at hl 0 rfl) ?_
      refine th_getO (j := 13) (r2 := 45) hC cf_X11 hB.1 h0 ro_42 rfl rfl kf_X11_90 dX11_answer_105 (fun b1 mb1 hb1 => ?_)
      refine lv_iconst (v := 4) hx hb dX11_answer_108 (by decide) ?_
      refine lv_dup2_11 hx hb dX11_answer_109 rfl rfl ?_
      refine th_ialdF hC hB.1 hb1 ro_45 rfl tk_4 (by omega) (by omega) rfl dX11_answer_110 (fun x2 mx2 lx2 ux2 => ?_)
      replace hF := hF.trans (dv_bn (dv_aldI hB.1 hU hb1 ow_45 (z := 4) mx2 (by omega)))
      refine lv_iconst (v := 1) hx hb dX11_answer_111 (by decide) ?_
      refine lv_iadd hx hb dX11_answer_112 ?_
      refine lv_topi (fun x3 ex3 => ?_)
      have lx3 := ti_lo x3; have ux3 := ti_hi x3
      replace hF := hF.trans (dv_bn (dv_add_e (Eq.refl _) tk_1 ex3))
      have hIo := hB.1
      refine th_iastF hC hB hb1 (Or.inl hb1) ro_45 rfl (by decide) tk_4 (by omega) (by omega) th_sIa dX11_answer_113 (fun H113 locs hB hf113 hst113 => ?_)
      have hf := hf113
      have hR := th_RC_F hB.1 hR hf (th_T_s hb1 ro_45 hst113) (by decide)
      replace hF := hF.trans (dv_bn (dv_stoI hIo hB.1 hU hb1 ow_45 (i := 4) hst113 (Eq.refl _) (by omega)))
      refine lv_goto (tgt := 117) hx hb dX11_answer_114 (by decide) ?_
      refine lv_iload_n hx hb dX11_answer_117 rfl (lv_at hl 1 rfl) ?_
      exact th_iret hC hH hr hlocks rfl hB.2.1 ⟨_, rfl, by intros; omega, hB.1, hB.2.2, hR, (hF0.symm.trans hF)⟩ dX11_answer_118
    replace hF := hF.trans (if_neg k14_0)
    by_cases k14_1 : p1.toInt = (-5)
    · replace hF := hF.trans (if_pos k14_1)
      refine lv_tableIn (off := 77) (tgt := 91) hx hb dX11_answer_14 (by omega) (by omega) (by rw [show p1.toInt = (-5) from k14_1]; decide) (by decide) ?_
      refine lv_aload_n hx hb dX11_answer_91 rfl (lv_at hl 0 rfl) ?_
      refine th_getO (j := 13) (r2 := 45) hC cf_X11 hB.1 h0 ro_42 rfl rfl kf_X11_90 dX11_answer_92 (fun b4 mb4 hb4 => ?_)
      refine lv_iconst (v := 3) hx hb dX11_answer_95 (by decide) ?_
      refine lv_dup2_11 hx hb dX11_answer_96 rfl rfl ?_
      refine th_ialdF hC hB.1 hb4 ro_45 rfl tk_3 (by omega) (by omega) rfl dX11_answer_97 (fun x5 mx5 lx5 ux5 => ?_)
      replace hF := hF.trans (dv_bn (dv_aldI hB.1 hU hb4 ow_45 (z := 3) mx5 (by omega)))
      refine lv_iconst (v := 1) hx hb dX11_answer_98 (by decide) ?_
      refine lv_iadd hx hb dX11_answer_99 ?_
      refine lv_topi (fun x6 ex6 => ?_)
      have lx6 := ti_lo x6; have ux6 := ti_hi x6
      replace hF := hF.trans (dv_bn (dv_add_e (Eq.refl _) tk_1 ex6))
      have hIo := hB.1
      refine th_iastF hC hB hb4 (Or.inl hb4) ro_45 rfl (by decide) tk_3 (by omega) (by omega) th_sIa dX11_answer_100 (fun H100 locs hB hf100 hst100 => ?_)
      have hf := hf100
      have hR := th_RC_F hB.1 hR hf (th_T_s hb4 ro_45 hst100) (by decide)
      replace hF := hF.trans (dv_bn (dv_stoI hIo hB.1 hU hb4 ow_45 (i := 3) hst100 (Eq.refl _) (by omega)))
      refine lv_goto (tgt := 117) hx hb dX11_answer_101 (by decide) ?_
      refine lv_iload_n hx hb dX11_answer_117 rfl (lv_at hl 1 rfl) ?_
      exact th_iret hC hH hr hlocks rfl hB.2.1 ⟨_, rfl, by intros; omega, hB.1, hB.2.2, hR, (hF0.symm.trans hF)⟩ dX11_answer_118
    replace hF := hF.trans (if_neg k14_1)
    by_cases k14_2 : p1.toInt = (-4)
    · replace hF := hF.trans (if_pos k14_2)
      refine lv_tableIn (off := 103) (tgt := 117) hx hb dX11_answer_14 (by omega) (by omega) (by rw [show p1.toInt = (-4) from k14_2]; decide) (by decide) ?_
      refine lv_iload_n hx hb dX11_answer_117 rfl (lv_at hl 1 rfl) ?_
      exact th_iret hC hH hr hlocks rfl hB.2.1 ⟨_, rfl, by intros; omega, hB.1, hB.2.2, hR, (hF0.symm.trans hF)⟩ dX11_answer_118
    replace hF := hF.trans (if_neg k14_2)
    by_cases k14_3 : p1.toInt = (-3)
    · replace hF := hF.trans (if_pos k14_3)
      refine lv_tableIn (off := 64) (tgt := 78) hx hb dX11_answer_14 (by omega) (by omega) (by rw [show p1.toInt = (-3) from k14_3]; decide) (by decide) ?_
      refine lv_aload_n hx hb dX11_answer_78 rfl (lv_at hl 0 rfl) ?_
      refine th_getO (j := 13) (r2 := 45) hC cf_X11 hB.1 h0 ro_42 rfl rfl kf_X11_90 dX11_answer_79 (fun b7 mb7 hb7 => ?_)
      refine lv_iconst (v := 2) hx hb dX11_answer_82 (by decide) ?_
      refine lv_dup2_11 hx hb dX11_answer_83 rfl rfl ?_
      refine th_ialdF hC hB.1 hb7 ro_45 rfl tk_2 (by omega) (by omega) rfl dX11_answer_84 (fun x8 mx8 lx8 ux8 => ?_)
      replace hF := hF.trans (dv_bn (dv_aldI hB.1 hU hb7 ow_45 (z := 2) mx8 (by omega)))
      refine lv_iconst (v := 1) hx hb dX11_answer_85 (by decide) ?_
      refine lv_iadd hx hb dX11_answer_86 ?_
      refine lv_topi (fun x9 ex9 => ?_)
      have lx9 := ti_lo x9; have ux9 := ti_hi x9
      replace hF := hF.trans (dv_bn (dv_add_e (Eq.refl _) tk_1 ex9))
      have hIo := hB.1
      refine th_iastF hC hB hb7 (Or.inl hb7) ro_45 rfl (by decide) tk_2 (by omega) (by omega) th_sIa dX11_answer_87 (fun H87 locs hB hf87 hst87 => ?_)
      have hf := hf87
      have hR := th_RC_F hB.1 hR hf (th_T_s hb7 ro_45 hst87) (by decide)
      replace hF := hF.trans (dv_bn (dv_stoI hIo hB.1 hU hb7 ow_45 (i := 2) hst87 (Eq.refl _) (by omega)))
      refine lv_goto (tgt := 117) hx hb dX11_answer_88 (by decide) ?_
      refine lv_iload_n hx hb dX11_answer_117 rfl (lv_at hl 1 rfl) ?_
      exact th_iret hC hH hr hlocks rfl hB.2.1 ⟨_, rfl, by intros; omega, hB.1, hB.2.2, hR, (hF0.symm.trans hF)⟩ dX11_answer_118
    replace hF := hF.trans (if_neg k14_3)
    by_cases k14_4 : p1.toInt = (-2)
    · replace hF := hF.trans (if_pos k14_4)
      refine lv_tableIn (off := 51) (tgt := 65) hx hb dX11_answer_14 (by omega) (by omega) (by rw [show p1.toInt = (-2) from k14_4]; decide) (by decide) ?_
      refine lv_aload_n hx hb dX11_answer_65 rfl (lv_at hl 0 rfl) ?_
      refine th_getO (j := 13) (r2 := 45) hC cf_X11 hB.1 h0 ro_42 rfl rfl kf_X11_90 dX11_answer_66 (fun b10 mb10 hb10 => ?_)
      refine lv_iconst (v := 1) hx hb dX11_answer_69 (by decide) ?_
      refine lv_dup2_11 hx hb dX11_answer_70 rfl rfl ?_
      refine th_ialdF hC hB.1 hb10 ro_45 rfl tk_1 (by omega) (by omega) rfl dX11_answer_71 (fun x11 mx11 lx11 ux11 => ?_)
      replace hF := hF.trans (dv_bn (dv_aldI hB.1 hU hb10 ow_45 (z := 1) mx11 (by omega)))
      refine lv_iconst (v := 1) hx hb dX11_answer_72 (by decide) ?_
      refine lv_iadd hx hb dX11_answer_73 ?_
      refine lv_topi (fun x12 ex12 => ?_)
      have lx12 := ti_lo x12; have ux12 := ti_hi x12
      replace hF := hF.trans (dv_bn (dv_add_e (Eq.refl _) tk_1 ex12))
      have hIo := hB.1
      refine th_iastF hC hB hb10 (Or.inl hb10) ro_45 rfl (by decide) tk_1 (by omega) (by omega) th_sIa dX11_answer_74 (fun H74 locs hB hf74 hst74 => ?_)
      have hf := hf74
      have hR := th_RC_F hB.1 hR hf (th_T_s hb10 ro_45 hst74) (by decide)
      replace hF := hF.trans (dv_bn (dv_stoI hIo hB.1 hU hb10 ow_45 (i := 1) hst74 (Eq.refl _) (by omega)))
      refine lv_goto (tgt := 117) hx hb dX11_answer_75 (by decide) ?_
      refine lv_iload_n hx hb dX11_answer_117 rfl (lv_at hl 1 rfl) ?_
      exact th_iret hC hH hr hlocks rfl hB.2.1 ⟨_, rfl, by intros; omega, hB.1, hB.2.2, hR, (hF0.symm.trans hF)⟩ dX11_answer_118
    replace hF := hF.trans (if_neg k14_4)
    by_cases k14_5 : p1.toInt = (-1)
    · replace hF := hF.trans (if_pos k14_5)
      refine lv_tableIn (off := 38) (tgt := 52) hx hb dX11_answer_14 (by omega) (by omega) (by rw [show p1.toInt = (-1) from k14_5]; decide) (by decide) ?_
      refine lv_aload_n hx hb dX11_answer_52 rfl (lv_at hl 0 rfl) ?_
      refine th_getO (j := 13) (r2 := 45) hC cf_X11 hB.1 h0 ro_42 rfl rfl kf_X11_90 dX11_answer_53 (fun b13 mb13 hb13 => ?_)
      refine lv_iconst (v := 0) hx hb dX11_answer_56 (by decide) ?_
      refine lv_dup2_11 hx hb dX11_answer_57 rfl rfl ?_
      refine th_ialdF hC hB.1 hb13 ro_45 rfl tk_0 (by omega) (by omega) rfl dX11_answer_58 (fun x14 mx14 lx14 ux14 => ?_)
      replace hF := hF.trans (dv_bn (dv_aldI hB.1 hU hb13 ow_45 (z := 0) mx14 (by omega)))
      refine lv_iconst (v := 1) hx hb dX11_answer_59 (by decide) ?_
      refine lv_iadd hx hb dX11_answer_60 ?_
      refine lv_topi (fun x15 ex15 => ?_)
      have lx15 := ti_lo x15; have ux15 := ti_hi x15
      replace hF := hF.trans (dv_bn (dv_add_e (Eq.refl _) tk_1 ex15))
      have hIo := hB.1
      refine th_iastF hC hB hb13 (Or.inl hb13) ro_45 rfl (by decide) tk_0 (by omega) (by omega) th_sIa dX11_answer_61 (fun H61 locs hB hf61 hst61 => ?_)
      have hf := hf61
      have hR := th_RC_F hB.1 hR hf (th_T_s hb13 ro_45 hst61) (by decide)
      replace hF := hF.trans (dv_bn (dv_stoI hIo hB.1 hU hb13 ow_45 (i := 0) hst61 (Eq.refl _) (by omega)))
      refine lv_goto (tgt := 117) hx hb dX11_answer_62 (by decide) ?_
      refine lv_iload_n hx hb dX11_answer_117 rfl (lv_at hl 1 rfl) ?_
      exact th_iret hC hH hr hlocks rfl hB.2.1 ⟨_, rfl, by intros; omega, hB.1, hB.2.2, hR, (hF0.symm.trans hF)⟩ dX11_answer_118
    replace hF := hF.trans (if_neg k14_5)
    refine lv_tableOut (tgt := 117) hx hb dX11_answer_14 (by omega) (by decide) ?_
    refine lv_iload_n hx hb dX11_answer_117 rfl (lv_at hl 1 rfl) ?_
    exact th_iret hC hH hr hlocks rfl hB.2.1 ⟨_, rfl, by intros; omega, hB.1, hB.2.2, hR, (hF0.symm.trans hF)⟩ dX11_answer_118
  refine tr_if_ge (tgt := 9) hx hb dX11_answer_2 (by decide) (Eq.refl _) (fun c2 => ?_) (fun c2 => ?_)
  · replace hF := hF.trans (if_pos c2)
    refine lv_iconst (v := 0) hx hb dX11_answer_9 (by decide) ?_
    exact jn10 [] ls 0 hB (lv_sub hl [0, 1] rfl) (by rw [tk_0]; exact hF) (by decide)
  · replace hF := hF.trans (if_neg (Int.not_le.mpr c2))
    refine lv_iload_n hx hb dX11_answer_5 rfl (lv_at hl 1 rfl) ?_
    refine lv_goto (tgt := 10) hx hb dX11_answer_6 (by decide) ?_
    exact jn10 [] ls p1 hB (lv_sub hl [0, 1] rfl) hF (by omega)

set_option maxHeartbeats 4000000 in
set_option maxRecDepth 100000 in
theorem c_X11_canLie (l : Launch) (G : th_G) (Γ : th_Ga) (H0 : Heap) (hI : th_I G Γ H0) (hR : th_RC G Γ H0) (hU : dv_U Γ) (a0 : Nat) (h0 : Γ a0 = (42, 0)) (p1 : Nat) (h1 : Γ p1 = (3, 0)) (p2 : Int32) (p3 : Int32) (p4 : Int32) : Met l yX11_canLie (.code yX11_canLie cX11_canLie 5 (some FieldType.boolean) :: th_tb) ({ frames := 4, cells := 0, slots := 0, locals := 105 } : Room) (th_P [.ref a0, .ref p1, .int p2, .int p3, .int p4] G H0) (th_Q (fun (v : Option Value) (H1 : Heap) => ∃ r : Int32, v = some (.int r) ∧ 0 ≤ r.toInt ∧ r.toInt ≤ 1 ∧ (r.toInt = 1 → 0 ≤ p2.toInt ∧ p2.toInt ≤ 8) ∧ (r.toInt = 1 → 0 ≤ p4.toInt) ∧ th_I G Γ H1 ∧ th_F G Γ [(24, 0), (23, 3), (26, 0), (25, 0)] H0 H1 ∧ th_RC G Γ H1 ∧ (f_X11_canLie (dv G Γ H0) (a0 : Int) (p1 : Int) p2.toInt p3.toInt p4.toInt = (dv G Γ H1, r.toInt))) G) 0 0 (fun q => G.2.2 ≤ q) := by
  refine th_met RX11 (by decide) rfl (Nat.le_of_ble_eq_true rfl) ?_
  intro p e s m below meth c hC hH hr hlocks hnm ls hl
  have hx := hC.1
  have hb := hC.2.1
  have hB : th_B G Γ Γ [(24, 0), (23, 3), (26, 0), (25, 0)] H0 H0 [] := ⟨hI, va_S.rf, th_F_rf⟩
  have hl : lv_has ls 5 [(0, .ref a0), (1, .ref p1), (2, .int p2), (3, .int p3), (4, .int p4)] := hl
  have lp2 := ti_lo p2; have up2 := ti_hi p2
  have lp3 := ti_lo p3; have up3 := ti_hi p3
  have lp4 := ti_lo p4; have up4 := ti_hi p4
  obtain ⟨F, hF0⟩ : ∃ F, F = f_X11_canLie (dv G Γ H0) ((a0 : Int)) ((p1 : Int)) (p2.toInt) (p3.toInt) (p4.toInt) := ⟨_, rfl⟩
  have hF := hF0.trans (f_X11_canLie.eq_1 (dv G Γ H0) ((a0 : Int)) ((p1 : Int)) (p2.toInt) (p3.toInt) (p4.toInt))
  refine lv_aload_n hx hb dX11_canLie_0 rfl (lv_at hl 1 rfl) ?_
  refine lv_iload_n hx hb dX11_canLie_1 rfl (lv_at hl 2 rfl) ?_
  refine lv_iload_n hx hb dX11_canLie_2 rfl (lv_at hl 3 rfl) ?_
  refine lv_iload hx hb dX11_canLie_3 (lv_at hl 4 rfl) ?_
  refine th_call (th_runV (As := [.int p2, .int p3, .int p4]) (rest := []) hC mf_X1_hasPlaceFor km_X11_354 im_X1_hasPlaceFor se_X1_hasPlaceFor (c_X1_hasPlaceFor l G Γ H0 hB.1 hU p1 h1 p2 p3 p4) rfl rfl ⟨Nat.le_of_ble_eq_true rfl, Nat.le_of_ble_eq_true rfl⟩ hB.1 h1 ro_3 rfl rfl hl.1 rfl (Nat.le_of_ble_eq_true rfl) dX11_canLie_5 ⟨Nat.le_refl _, Nat.le_refl _⟩) hB.2.1 (fun v5 H5 locs hp hz hS => ?_)
  obtain ⟨x1, rfl, lx1, ux1, q5_0, q5_1, q5_2, rfl⟩ := hp
  have hB := th_B_s hB hS
  replace hF := hF.trans (dv_bn2 (q5_2))
  refine W.eq (g2 := F0 m 8 ls [.int x1]) rfl ?_
  refine tr_if_eq (tgt := 37) hx hb dX11_canLie_8 (by decide) (Eq.refl _) (fun c8 => ?_) (fun c8 => ?_)
  · replace hF := hF.trans (if_pos c8)
    refine lv_iconst (v := 0) hx hb dX11_canLie_37 (by decide) ?_
    exact th_iret hC hH hr hlocks narrow_b0 hB.2.1 ⟨_, rfl, by decide, by decide, by first | (intro h9; exact absurd h9 (by decide)) | (have w9 := tk_0; intros; omega), by first | (intro h9; exact absurd h9 (by decide)) | (have w9 := tk_0; intros; omega), hB.1, hB.2.2, hR, (hF0.symm.trans (hF.trans (by rw [tk_0])))⟩ dX11_canLie_38
  · replace hF := hF.trans (if_neg c8)
    refine lv_aload_n hx hb dX11_canLie_11 rfl (lv_at hl 0 rfl) ?_
    refine th_getR (j := 9) (r2 := 11) hC cf_X11 hB.1 h0 ro_42 rfl rfl kf_X11_65 dX11_canLie_12 (fun b2 mb2 hb2 => ?_)
    replace hF := hF.trans (dv_bn (dv_getR h0 ro_42 (j := 9) rfl mb2 (by decide)))
    refine lv_aload_n hx hb dX11_canLie_15 rfl (lv_at hl 0 rfl) ?_
    refine th_getR (j := 0) (r2 := 32) hC cf_X11 hB.1 h0 ro_42 rfl rfl kf_X11_12 dX11_canLie_16 (fun b3 mb3 hb3 => ?_)
    replace hF := hF.trans (dv_bn (dv_getR h0 ro_42 (j := 0) rfl mb3 (by decide)))
    refine th_call (th_runV (As := []) (rest := [.ref b2]) hC mf_X8_forcedLaw km_X11_143 im_X8_forcedLaw se_X8_forcedLaw (c_X8_forcedLaw l G Γ H0 hB.1 hU b3 hb3) rfl rfl ⟨Nat.le_of_ble_eq_true rfl, Nat.le_of_ble_eq_true rfl⟩ hB.1 hb3 ro_32 rfl rfl hl.1 rfl (Nat.le_of_ble_eq_true rfl) dX11_canLie_19 ⟨Nat.le_refl _, Nat.le_refl _⟩) hB.2.1 (fun v19 H19 locs hp hz hS => ?_)
    obtain ⟨v4, rfl, hv4, q19_0, rfl⟩ := hp
    have hB := th_B_s hB hS
    replace hF := hF.trans (dv_bn2 (q19_0))
    refine W.eq (g2 := F0 m 22 ls [v4, .ref b2]) rfl ?_
    refine lv_aload_n hx hb dX11_canLie_22 rfl (lv_at hl 1 rfl) ?_
    refine lv_iload_n hx hb dX11_canLie_23 rfl (lv_at hl 2 rfl) ?_
    refine lv_iload_n hx hb dX11_canLie_24 rfl (lv_at hl 3 rfl) ?_
    refine lv_iload hx hb dX11_canLie_25 (lv_at hl 4 rfl) ?_
    refine th_call (th_runV (As := [v4, .ref p1, .int p2, .int p3, .int p4]) (rest := []) hC mf_X2_isBarred km_X11_172 im_X2_isBarred se_X2_isBarred (c_X2_isBarred l G Γ H0 hB.1 hR hU b2 hb2 v4 hv4 p1 h1 p2 (by omega) (by omega) p3 p4) rfl rfl ⟨Nat.le_of_ble_eq_true rfl, Nat.le_of_ble_eq_true rfl⟩ hB.1 hb2 ro_11 rfl rfl hl.1 rfl (Nat.le_of_ble_eq_true rfl) dX11_canLie_27 ⟨Nat.le_refl _, Nat.le_refl _⟩) hB.2.1 (fun v27 H27 locs hp hz hS => ?_)
    obtain ⟨x5, rfl, lx5, ux5, hI1, hf, hR, z27_0⟩ := hp
    have hB := th_B_c hB hI1 hS hf (by decide)
    replace hF := hF.trans (dv_bn2 (z27_0))
    refine W.eq (g2 := F0 m 30 ls [.int x5]) rfl ?_
    refine tr_if_ne (tgt := 37) hx hb dX11_canLie_30 (by decide) (Eq.refl _) (fun c30 => ?_) (fun c30 => ?_)
    · replace hF := hF.trans (if_pos c30)
      refine lv_iconst (v := 0) hx hb dX11_canLie_37 (by decide) ?_
      exact th_iret hC hH hr hlocks narrow_b0 hB.2.1 ⟨_, rfl, by decide, by decide, by first | (intro h9; exact absurd h9 (by decide)) | (have w9 := tk_0; intros; omega), by first | (intro h9; exact absurd h9 (by decide)) | (have w9 := tk_0; intros; omega), hB.1, hB.2.2, hR, (hF0.symm.trans (hF.trans (by rw [tk_0])))⟩ dX11_canLie_38
    · replace hF := hF.trans (if_neg (not_not_intro c30))
      refine lv_iconst (v := 1) hx hb dX11_canLie_33 (by decide) ?_
      refine lv_goto (tgt := 38) hx hb dX11_canLie_34 (by decide) ?_
      exact th_iret hC hH hr hlocks narrow_b1 hB.2.1 ⟨_, rfl, by decide, by decide, by first | (intro h9; exact absurd h9 (by decide)) | (have w9 := tk_1; intros; omega), by first | (intro h9; exact absurd h9 (by decide)) | (have w9 := tk_1; intros; omega), hB.1, hB.2.2, hR, (hF0.symm.trans (hF.trans (by rw [tk_1])))⟩ dX11_canLie_38

set_option maxHeartbeats 4000000 in
set_option maxRecDepth 100000 in
theorem c_X11_carpet (l : Launch) (G : th_G) (Γ : th_Ga) (H0 : Heap) (hI : th_I G Γ H0) (hR : th_RC G Γ H0) (hU : dv_U Γ) (a0 : Nat) (h0 : Γ a0 = (42, 0)) (p1 : Int32) (p2 : Int32) (p3 : Int32) : Met l yX11_carpet (.code yX11_carpet cX11_carpet 5 (some FieldType.int) :: th_tb) ({ frames := 1, cells := 0, slots := 0, locals := 23 } : Room) (th_P [.ref a0, .int p1, .int p2, .int p3] G H0) (th_Q (fun (v : Option Value) (H1 : Heap) => ∃ r : Int32, v = some (.int r) ∧ th_I G Γ H1 ∧ th_F G Γ [(45, 0), (42, 14), (4, 0), (5, 0), (6, 0), (3, 7), (17, 4), (7, 0), (8, 0)] H0 H1 ∧ th_RC G Γ H1 ∧ (f_X11_carpet (dv G Γ H0) (a0 : Int) p1.toInt p2.toInt p3.toInt = (dv G Γ H1, r.toInt))) G) 0 0 (fun q => G.2.2 ≤ q) := by
  refine th_met RX11 (by decide) rfl (Nat.le_of_ble_eq_true rfl) ?_
  intro p e s m below meth c hC hH hr hlocks hnm ls hl
  have hx := hC.1
  have hb := hC.2.1
  have hB : th_B G Γ Γ [(45, 0), (42, 14), (4, 0), (5, 0), (6, 0), (3, 7), (17, 4), (7, 0), (8, 0)] H0 H0 [] := ⟨hI, va_S.rf, th_F_rf⟩
  have hl : lv_has ls 5 [(0, .ref a0), (1, .int p1), (2, .int p2), (3, .int p3)] := hl
  have lp1 := ti_lo p1; have up1 := ti_hi p1
  have lp2 := ti_lo p2; have up2 := ti_hi p2
  have lp3 := ti_lo p3; have up3 := ti_hi p3
  obtain ⟨F, hF0⟩ : ∃ F, F = f_X11_carpet (dv G Γ H0) ((a0 : Int)) (p1.toInt) (p2.toInt) (p3.toInt) := ⟨_, rfl⟩
  have hF := hF0.trans (f_X11_carpet.eq_1 (dv G Γ H0) ((a0 : Int)) (p1.toInt) (p2.toInt) (p3.toInt))
  refine lv_aload_n hx hb dX11_carpet_0 rfl (lv_at hl 0 rfl) ?_
  refine th_getR (j := 0) (r2 := 32) hC cf_X11 hB.1 h0 ro_42 rfl rfl kf_X11_12 dX11_carpet_1 (fun b1 mb1 hb1 => ?_)
  replace hF := hF.trans (dv_bn (dv_getR h0 ro_42 (j := 0) rfl mb1 (by decide)))
  refine th_getR (j := 0) (r2 := 3) hC cf_X8 hB.1 hb1 ro_32 rfl rfl kf_X11_107 dX11_carpet_4 (fun b2 mb2 hb2 => ?_)
  replace hF := hF.trans (dv_bn (dv_getR hb1 ro_32 (j := 0) rfl mb2 (by decide)))
  refine lv_iload_n hx hb dX11_carpet_7 rfl (lv_at hl 1 rfl) ?_
  refine lv_iload_n hx hb dX11_carpet_8 rfl (lv_at hl 2 rfl) ?_
  refine lv_iload_n hx hb dX11_carpet_9 rfl (lv_at hl 3 rfl) ?_
  refine th_call (th_runV (As := [.int p1, .int p2, .int p3]) (rest := []) hC mf_X1_add km_X11_110 im_X1_add se_X1_add (c_X1_add l G Γ H0 hB.1 hR hU b2 hb2 p1 p2 p3) rfl rfl ⟨Nat.le_of_ble_eq_true rfl, Nat.le_of_ble_eq_true rfl⟩ hB.1 hb2 ro_3 rfl rfl hl.1 rfl (Nat.le_of_ble_eq_true rfl) dX11_carpet_10 ⟨Nat.le_refl _, Nat.le_refl _⟩) hB.2.1 (fun v10 H10 locs hp hz hS => ?_)
  obtain ⟨x3, rfl, lx3, ux3, hI1, hf, hR, z10_0⟩ := hp
  have hB := th_B_c hB hI1 hS hf (by decide)
  replace hF := hF.trans (dv_bn2 (z10_0))
  refine W.eq (g2 := F0 m 13 ls [.int x3]) rfl ?_
  refine lv_istore (lv' := [(4, .int x3), (0, .ref a0), (1, .int p1), (2, .int p2), (3, .int p3)]) hx hb dX11_carpet_13 hl (by decide) rfl (fun ls hl => ?_)
  refine lv_iload hx hb dX11_carpet_15 (lv_at hl 0 rfl) ?_
  have jn27 : ∀ (H27 : Heap) (locs : List Loc) (ls : Array Slot) , th_B G Γ Γ [(45, 0), (42, 14), (4, 0), (5, 0), (6, 0), (3, 7), (17, 4), (7, 0), (8, 0)] H0 H27 locs → th_RC G Γ H27 → lv_has ls 5 [(4, .int x3), (0, .ref a0)] → F = f_X11_carpet_27 (dv G Γ H27) (x3.toInt) ((a0 : Int)) → W p l e ({ frames := 1, cells := 0, slots := 0, locals := 23 } : Room) s m ([.ref a0, .int p1, .int p2, .int p3] : List Value).toArray below meth c H27 locs 0 0 (MQ below (th_Q (fun (v : Option Value) (H1 : Heap) => ∃ r : Int32, v = some (.int r) ∧ th_I G Γ H1 ∧ th_F G Γ [(45, 0), (42, 14), (4, 0), (5, 0), (6, 0), (3, 7), (17, 4), (7, 0), (8, 0)] H0 H1 ∧ th_RC G Γ H1 ∧ (f_X11_carpet (dv G Γ H0) (a0 : Int) p1.toInt p2.toInt p3.toInt = (dv G Γ H1, r.toInt))) G) ([.ref a0, .int p1, .int p2, .int p3] : List Value).toArray s 0 0 (fun q => G.2.2 ≤ q)) (F0 m 27 ls []) := by
    intro H27 locs ls hB hR hl hF
    replace hF := hF.trans (f_X11_carpet_27.eq_1 (dv G Γ H27) (x3.toInt) ((a0 : Int)))
    refine lv_aload_n hx hb dX11_carpet_27 rfl (lv_at hl 1 rfl) ?_
    refine lv_iload hx hb dX11_carpet_28 (lv_at hl 0 rfl) ?_
    refine th_call (th_runV (As := [.int x3]) (rest := []) hC mf_X11_answer km_X11_117 im_X11_answer se_X11_answer (c_X11_answer l G Γ H27 hB.1 hR hU a0 h0 x3) rfl rfl ⟨Nat.le_of_ble_eq_true rfl, Nat.le_of_ble_eq_true rfl⟩ hB.1 h0 ro_42 rfl rfl hl.1 rfl (Nat.le_of_ble_eq_true rfl) dX11_carpet_30 ⟨Nat.le_refl _, Nat.le_refl _⟩) hB.2.1 (fun v30 H30 locs hp hz hS => ?_)
    obtain ⟨x4, rfl, q30_0, hI1, hf, hR, z30_0⟩ := hp
    have hB := th_B_c hB hI1 hS hf (by decide)
    replace hF := hF.trans (dv_bn2 (z30_0))
    refine W.eq (g2 := F0 m 33 ls [.int x4]) rfl ?_
    exact th_iret hC hH hr hlocks rfl hB.2.1 ⟨_, rfl, hB.1, hB.2.2, hR, (hF0.symm.trans hF)⟩ dX11_carpet_33
  refine tr_if_lt (tgt := 27) hx hb dX11_carpet_17 (by decide) (Eq.refl _) (fun c17 => ?_) (fun c17 => ?_)
  · replace hF := hF.trans (if_pos c17)
    exact jn27 H10 locs ls hB hR (lv_sub hl [0, 1] rfl) hF
  · replace hF := hF.trans (if_neg (Int.not_lt.mpr c17))
    refine lv_aload_n hx hb dX11_carpet_20 rfl (lv_at hl 1 rfl) ?_
    refine th_getR (j := 10) (r2 := 17) hC cf_X11 hB.1 h0 ro_42 rfl rfl kf_X11_72 dX11_carpet_21 (fun b5 mb5 hb5 => ?_)
    replace hF := hF.trans (dv_bn (dv_getR h0 ro_42 (j := 10) rfl mb5 (by decide)))
    refine th_call (th_runV (As := []) (rest := []) hC mf_X4_clear km_X11_114 im_X4_clear se_X4_clear (c_X4_clear l G Γ H10 hB.1 hR hU b5 hb5) rfl rfl ⟨Nat.le_of_ble_eq_true rfl, Nat.le_of_ble_eq_true rfl⟩ hB.1 hb5 ro_17 rfl rfl hl.1 rfl (Nat.le_of_ble_eq_true rfl) dX11_carpet_24 ⟨Nat.le_refl _, Nat.le_refl _⟩) hB.2.1 (fun v24 H24 locs hp hz hS => ?_)
    obtain ⟨rfl, hI1, hf, hR, z24_0⟩ := hp
    have hB := th_B_c hB hI1 hS hf (by decide)
    replace hF := hF.trans (dv_bn2 (z24_0))
    refine W.eq (g2 := F0 m 27 ls []) rfl ?_
    exact jn27 H24 locs ls hB hR (lv_sub hl [0, 1] rfl) hF

set_option maxHeartbeats 4000000 in
set_option maxRecDepth 100000 in
theorem c_X11_of (l : Launch) (G : th_G) (Γ : th_Ga) (H0 : Heap) (hI : th_I G Γ H0) (hR : th_RC G Γ H0) (hU : dv_U Γ) (a0 : Nat) (h0 : Γ a0 = (42, 0)) (p1 : Int32) (p2 : Int32) : Met l yX11_of (.code yX11_of cX11_of 4 (some FieldType.int) :: th_tb) ({ frames := 4, cells := 0, slots := 0, locals := 103 } : Room) (th_P [.ref a0, .int p1, .int p2] G H0) (th_Q (fun (v : Option Value) (H1 : Heap) => ∃ r : Int32, v = some (.int r) ∧ th_I G Γ H1 ∧ th_F G Γ [(24, 0), (23, 3), (26, 0), (25, 0)] H0 H1 ∧ th_RC G Γ H1 ∧ (f_X11_of (dv G Γ H0) (a0 : Int) p1.toInt p2.toInt = (dv G Γ H1, r.toInt))) G) 0 0 (fun q => G.2.2 ≤ q) := by
  refine th_met RX11 (by decide) rfl (Nat.le_of_ble_eq_true rfl) ?_
  intro p e s m below meth c hC hH hr hlocks hnm ls hl
  have hx := hC.1
  have hb := hC.2.1
  have hB : th_B G Γ Γ [(24, 0), (23, 3), (26, 0), (25, 0)] H0 H0 [] := ⟨hI, va_S.rf, th_F_rf⟩
  have hl : lv_has ls 4 [(0, .ref a0), (1, .int p1), (2, .int p2)] := hl
  have lp1 := ti_lo p1; have up1 := ti_hi p1
  have lp2 := ti_lo p2; have up2 := ti_hi p2
  obtain ⟨F, hF0⟩ : ∃ F, F = f_X11_of (dv G Γ H0) ((a0 : Int)) (p1.toInt) (p2.toInt) := ⟨_, rfl⟩
  have hF := hF0.trans (f_X11_of.eq_1 (dv G Γ H0) ((a0 : Int)) (p1.toInt) (p2.toInt))
  refine lv_aload_n hx hb dX11_of_0 rfl (lv_at hl 0 rfl) ?_
  refine th_getR (j := 0) (r2 := 32) hC cf_X11 hB.1 h0 ro_42 rfl rfl kf_X11_12 dX11_of_1 (fun b1 mb1 hb1 => ?_)
  replace hF := hF.trans (dv_bn (dv_getR h0 ro_42 (j := 0) rfl mb1 (by decide)))
  refine th_getR (j := 0) (r2 := 3) hC cf_X8 hB.1 hb1 ro_32 rfl rfl kf_X11_107 dX11_of_4 (fun b2 mb2 hb2 => ?_)
  replace hF := hF.trans (dv_bn (dv_getR hb1 ro_32 (j := 0) rfl mb2 (by decide)))
  refine lv_astore_n (lv' := [(3, .ref b2), (0, .ref a0), (1, .int p1), (2, .int p2)]) hx hb dX11_of_7 rfl hl (by decide) rfl (fun ls hl => ?_)
  refine lv_aload_n hx hb dX11_of_8 rfl (lv_at hl 0 rfl) ?_
  refine lv_iload_n hx hb dX11_of_9 rfl (lv_at hl 2 rfl) ?_
  refine th_call (th_runV (As := [.int p1]) (rest := []) hC mf_X1_has km_X11_121 im_X1_has se_X1_has (c_X1_has l G Γ H0 hB.1 hU b2 hb2 p1) rfl rfl ⟨Nat.le_of_ble_eq_true rfl, Nat.le_of_ble_eq_true rfl⟩ hB.1 hb2 ro_3 rfl rfl hl.1 rfl (Nat.le_of_ble_eq_true rfl) dX11_of_10 ⟨Nat.le_refl _, Nat.le_refl _⟩) hB.2.1 (fun v10 H10 locs hp hz hS => ?_)
  obtain ⟨x3, rfl, lx3, ux3, q10_0, q10_1, rfl⟩ := hp
  have hB := th_B_s hB hS
  replace hF := hF.trans (dv_bn2 (q10_1))
  refine W.eq (g2 := F0 m 13 ls [.int x3]) rfl ?_
  refine tr_if_ne (tgt := 18) hx hb dX11_of_13 (by decide) (Eq.refl _) (fun c13 => ?_) (fun c13 => ?_)
  · replace hF := hF.trans (if_pos c13)
    refine lv_iload_n hx hb dX11_of_18 rfl (lv_at hl 3 rfl) ?_
    by_cases k19_0 : p2.toInt = 0
    · replace hF := hF.trans (if_pos k19_0)
      refine lv_tableIn (off := 37) (tgt := 56) hx hb dX11_of_19 (by omega) (by omega) (by rw [show p2.toInt = 0 from k19_0]; decide) (by decide) ?_
      refine lv_aload_n hx hb dX11_of_56 rfl (lv_at hl 0 rfl) ?_
      refine th_getO (j := 0) (r2 := 4) hC cf_X1 hB.1 hb2 ro_3 rfl rfl kf_X11_125 dX11_of_57 (fun b4 mb4 hb4 => ?_)
      refine lv_iload_n hx hb dX11_of_60 rfl (lv_at hl 2 rfl) ?_
      refine th_ialdF hC hB.1 hb4 ro_4 rfl (Eq.refl _) (by omega) (by omega) rfl dX11_of_61 (fun x5 mx5 lx5 ux5 => ?_)
      replace hF := hF.trans (dv_bn (dv_aldI hB.1 hU hb4 ow_4 (z := p1.toInt) mx5 (by omega)))
      exact th_iret hC hH hr hlocks rfl hB.2.1 ⟨_, rfl, hB.1, hB.2.2, hR, (hF0.symm.trans hF)⟩ dX11_of_62
    replace hF := hF.trans (if_neg k19_0)
    by_cases k19_1 : p2.toInt = 1
    · replace hF := hF.trans (if_pos k19_1)
      refine lv_tableIn (off := 44) (tgt := 63) hx hb dX11_of_19 (by omega) (by omega) (by rw [show p2.toInt = 1 from k19_1]; decide) (by decide) ?_
      refine lv_aload_n hx hb dX11_of_63 rfl (lv_at hl 0 rfl) ?_
      refine th_getO (j := 1) (r2 := 5) hC cf_X1 hB.1 hb2 ro_3 rfl rfl kf_X11_128 dX11_of_64 (fun b6 mb6 hb6 => ?_)
      refine lv_iload_n hx hb dX11_of_67 rfl (lv_at hl 2 rfl) ?_
      refine th_ialdF hC hB.1 hb6 ro_5 rfl (Eq.refl _) (by omega) (by omega) rfl dX11_of_68 (fun x7 mx7 lx7 ux7 => ?_)
      replace hF := hF.trans (dv_bn (dv_aldI hB.1 hU hb6 ow_5 (z := p1.toInt) mx7 (by omega)))
      exact th_iret hC hH hr hlocks rfl hB.2.1 ⟨_, rfl, hB.1, hB.2.2, hR, (hF0.symm.trans hF)⟩ dX11_of_69
    replace hF := hF.trans (if_neg k19_1)
    by_cases k19_2 : p2.toInt = 2
    · replace hF := hF.trans (if_pos k19_2)
      refine lv_tableIn (off := 51) (tgt := 70) hx hb dX11_of_19 (by omega) (by omega) (by rw [show p2.toInt = 2 from k19_2]; decide) (by decide) ?_
      refine lv_aload_n hx hb dX11_of_70 rfl (lv_at hl 0 rfl) ?_
      refine th_getO (j := 2) (r2 := 6) hC cf_X1 hB.1 hb2 ro_3 rfl rfl kf_X11_131 dX11_of_71 (fun b8 mb8 hb8 => ?_)
      refine lv_iload_n hx hb dX11_of_74 rfl (lv_at hl 2 rfl) ?_
      refine th_ialdF hC hB.1 hb8 ro_6 rfl (Eq.refl _) (by omega) (by omega) rfl dX11_of_75 (fun x9 mx9 lx9 ux9 => ?_)
      replace hF := hF.trans (dv_bn (dv_aldI hB.1 hU hb8 ow_6 (z := p1.toInt) mx9 (by omega)))
      exact th_iret hC hH hr hlocks rfl hB.2.1 ⟨_, rfl, hB.1, hB.2.2, hR, (hF0.symm.trans hF)⟩ dX11_of_76
    replace hF := hF.trans (if_neg k19_2)
    by_cases k19_3 : p2.toInt = 3
    · replace hF := hF.trans (if_pos k19_3)
      refine lv_tableIn (off := 58) (tgt := 77) hx hb dX11_of_19 (by omega) (by omega) (by rw [show p2.toInt = 3 from k19_3]; decide) (by decide) ?_
      refine lv_aload_n hx hb dX11_of_77 rfl (lv_at hl 0 rfl) ?_
      refine th_getO (j := 3) (r2 := 7) hC cf_X1 hB.1 hb2 ro_3 rfl rfl kf_X11_134 dX11_of_78 (fun b10 mb10 hb10 => ?_)
      refine lv_iload_n hx hb dX11_of_81 rfl (lv_at hl 2 rfl) ?_
      refine th_ialdF hC hB.1 hb10 ro_7 rfl (Eq.refl _) (by omega) (by omega) rfl dX11_of_82 (fun x11 mx11 lx11 ux11 => ?_)
      replace hF := hF.trans (dv_bn (dv_aldI hB.1 hU hb10 ow_7 (z := p1.toInt) mx11 (by omega)))
      exact th_iret hC hH hr hlocks rfl hB.2.1 ⟨_, rfl, hB.1, hB.2.2, hR, (hF0.symm.trans hF)⟩ dX11_of_83
    replace hF := hF.trans (if_neg k19_3)
    by_cases k19_4 : p2.toInt = 4
    · replace hF := hF.trans (if_pos k19_4)
      refine lv_tableIn (off := 65) (tgt := 84) hx hb dX11_of_19 (by omega) (by omega) (by rw [show p2.toInt = 4 from k19_4]; decide) (by decide) ?_
      refine lv_aload_n hx hb dX11_of_84 rfl (lv_at hl 0 rfl) ?_
      refine th_getO (j := 4) (r2 := 8) hC cf_X1 hB.1 hb2 ro_3 rfl rfl kf_X11_137 dX11_of_85 (fun b12 mb12 hb12 => ?_)
      refine lv_iload_n hx hb dX11_of_88 rfl (lv_at hl 2 rfl) ?_
      refine th_ialdF hC hB.1 hb12 ro_8 rfl (Eq.refl _) (by omega) (by omega) rfl dX11_of_89 (fun x13 mx13 lx13 ux13 => ?_)
      replace hF := hF.trans (dv_bn (dv_aldI hB.1 hU hb12 ow_8 (z := p1.toInt) mx13 (by omega)))
      exact th_iret hC hH hr hlocks rfl hB.2.1 ⟨_, rfl, hB.1, hB.2.2, hR, (hF0.symm.trans hF)⟩ dX11_of_90
    replace hF := hF.trans (if_neg k19_4)
    by_cases k19_5 : p2.toInt = 5
    · replace hF := hF.trans (if_pos k19_5)
      refine lv_tableIn (off := 72) (tgt := 91) hx hb dX11_of_19 (by omega) (by omega) (by rw [show p2.toInt = 5 from k19_5]; decide) (by decide) ?_
      refine lv_aload_n hx hb dX11_of_91 rfl (lv_at hl 0 rfl) ?_
      refine lv_iload_n hx hb dX11_of_92 rfl (lv_at hl 2 rfl) ?_
      refine th_call (th_runV (As := [.int p1]) (rest := []) hC mf_X1_isLaid km_X11_140 im_X1_isLaid se_X1_isLaid (c_X1_isLaid l G Γ H0 hB.1 hU b2 hb2 p1) rfl rfl ⟨Nat.le_of_ble_eq_true rfl, Nat.le_of_ble_eq_true rfl⟩ hB.1 hb2 ro_3 rfl rfl hl.1 rfl (Nat.le_of_ble_eq_true rfl) dX11_of_93 ⟨Nat.le_refl _, Nat.le_refl _⟩) hB.2.1 (fun v93 H93 locs hp hz hS => ?_)
      obtain ⟨x14, rfl, lx14, ux14, q93_0, q93_1, q93_2, rfl⟩ := hp
      have hB := th_B_s hB hS
      replace hF := hF.trans (dv_bn2 (q93_2))
      refine W.eq (g2 := F0 m 96 ls [.int x14]) rfl ?_
      refine tr_if_eq (tgt := 118) hx hb dX11_of_96 (by decide) (Eq.refl _) (fun c96 => ?_) (fun c96 => ?_)
      · replace hF := hF.trans (if_pos c96)
        refine lv_iconst (v := (-1)) hx hb dX11_of_118 (by decide) ?_
        exact th_iret hC hH hr hlocks rfl hB.2.1 ⟨_, rfl, hB.1, hB.2.2, hR, (hF0.symm.trans (hF.trans (by rw [tk_m1])))⟩ dX11_of_119
      · replace hF := hF.trans (if_neg c96)
        refine lv_aload_n hx hb dX11_of_99 rfl (lv_at hl 1 rfl) ?_
        refine th_getR (j := 9) (r2 := 11) hC cf_X11 hB.1 h0 ro_42 rfl rfl kf_X11_65 dX11_of_100 (fun b15 mb15 hb15 => ?_)
        replace hF := hF.trans (dv_bn (dv_getR h0 ro_42 (j := 9) rfl mb15 (by decide)))
        refine lv_aload_n hx hb dX11_of_103 rfl (lv_at hl 1 rfl) ?_
        refine th_getK hC cf_X11 hB.1 h0 ro_42 rfl (j := 0) (by decide) mb1 kf_X11_12 dX11_of_104 ?_
        replace hF := hF.trans (dv_bn (dv_getR h0 ro_42 (j := 0) rfl mb1 (by decide)))
        refine th_call (th_runV (As := []) (rest := [.ref b15]) hC mf_X8_forcedLaw km_X11_143 im_X8_forcedLaw se_X8_forcedLaw (c_X8_forcedLaw l G Γ H0 hB.1 hU b1 hb1) rfl rfl ⟨Nat.le_of_ble_eq_true rfl, Nat.le_of_ble_eq_true rfl⟩ hB.1 hb1 ro_32 rfl rfl hl.1 rfl (Nat.le_of_ble_eq_true rfl) dX11_of_107 ⟨Nat.le_refl _, Nat.le_refl _⟩) hB.2.1 (fun v107 H107 locs hp hz hS => ?_)
        obtain ⟨v16, rfl, hv16, q107_0, rfl⟩ := hp
        have hB := th_B_s hB hS
        replace hF := hF.trans (dv_bn2 (q107_0))
        refine W.eq (g2 := F0 m 110 ls [v16, .ref b15]) rfl ?_
        refine lv_aload_n hx hb dX11_of_110 rfl (lv_at hl 0 rfl) ?_
        refine lv_iload_n hx hb dX11_of_111 rfl (lv_at hl 2 rfl) ?_
        refine th_call (th_runV (As := [v16, .ref b2, .int p1]) (rest := []) hC mf_X2_wearOf km_X11_147 im_X2_wearOf se_X2_wearOf (c_X2_wearOf l G Γ H0 hB.1 hR hU b15 hb15 v16 hv16 b2 hb2 p1 (by omega) (by omega)) rfl rfl ⟨Nat.le_of_ble_eq_true rfl, Nat.le_of_ble_eq_true rfl⟩ hB.1 hb15 ro_11 rfl rfl hl.1 rfl (Nat.le_of_ble_eq_true rfl) dX11_of_112 ⟨Nat.le_refl _, Nat.le_refl _⟩) hB.2.1 (fun v112 H112 locs hp hz hS => ?_)
        obtain ⟨x17, rfl, lx17, ux17, hI1, hf, hR, z112_0⟩ := hp
        have hB := th_B_c hB hI1 hS hf (by decide)
        have mm18 := (th_F_o hf h0 ro_42 (j := 0) (by decide) (by decide)).trans mb1
        replace hF := hF.trans (dv_bn2 (z112_0))
        refine W.eq (g2 := F0 m 115 ls [.int x17]) rfl ?_
        refine lv_goto (tgt := 119) hx hb dX11_of_115 (by decide) ?_
        exact th_iret hC hH hr hlocks rfl hB.2.1 ⟨_, rfl, hB.1, hB.2.2, hR, (hF0.symm.trans hF)⟩ dX11_of_119
    replace hF := hF.trans (if_neg k19_5)
    refine lv_tableOut (tgt := 120) hx hb dX11_of_19 (by omega) (by decide) ?_
    refine lv_iconst (v := (-1)) hx hb dX11_of_120 (by decide) ?_
    exact th_iret hC hH hr hlocks rfl hB.2.1 ⟨_, rfl, hB.1, hB.2.2, hR, (hF0.symm.trans (hF.trans (by rw [tk_m1])))⟩ dX11_of_121
  · replace hF := hF.trans (if_neg (not_not_intro c13))
    refine lv_iconst (v := (-1)) hx hb dX11_of_16 (by decide) ?_
    exact th_iret hC hH hr hlocks rfl hB.2.1 ⟨_, rfl, hB.1, hB.2.2, hR, (hF0.symm.trans (hF.trans (by rw [tk_m1])))⟩ dX11_of_17

set_option maxHeartbeats 4000000 in
set_option maxRecDepth 100000 in
theorem c_X11_hall (l : Launch) (G : th_G) (Γ : th_Ga) (H0 : Heap) (hI : th_I G Γ H0) (hR : th_RC G Γ H0) (hU : dv_U Γ) (a0 : Nat) (h0 : Γ a0 = (42, 0)) (p1 : Int32) (p2 : Int32) : Met l yX11_hall (.code yX11_hall cX11_hall 3 (some FieldType.int) :: th_tb) ({ frames := 3, cells := 0, slots := 0, locals := 64 } : Room) (th_P [.ref a0, .int p1, .int p2] G H0) (th_Q (fun (v : Option Value) (H1 : Heap) => ∃ r : Int32, v = some (.int r) ∧ th_I G Γ H1 ∧ th_F G Γ [(45, 0), (42, 14), (3, 8), (3, 9), (17, 4)] H0 H1 ∧ th_RC G Γ H1 ∧ (f_X11_hall (dv G Γ H0) (a0 : Int) p1.toInt p2.toInt = (dv G Γ H1, r.toInt))) G) 0 0 (fun q => G.2.2 ≤ q) := by
  refine th_met RX11 (by decide) rfl (Nat.le_of_ble_eq_true rfl) ?_
  intro p e s m below meth c hC hH hr hlocks hnm ls hl
  have hx := hC.1
  have hb := hC.2.1
  have hB : th_B G Γ Γ [(45, 0), (42, 14), (3, 8), (3, 9), (17, 4)] H0 H0 [] := ⟨hI, va_S.rf, th_F_rf⟩
  have hl : lv_has ls 3 [(0, .ref a0), (1, .int p1), (2, .int p2)] := hl
  have lp1 := ti_lo p1; have up1 := ti_hi p1
  have lp2 := ti_lo p2; have up2 := ti_hi p2
  obtain ⟨F, hF0⟩ : ∃ F, F = f_X11_hall (dv G Γ H0) ((a0 : Int)) (p1.toInt) (p2.toInt) := ⟨_, rfl⟩
  have hF := hF0.trans (f_X11_hall.eq_1 (dv G Γ H0) ((a0 : Int)) (p1.toInt) (p2.toInt))
  refine lv_iload_n hx hb dX11_hall_0 rfl (lv_at hl 1 rfl) ?_
  refine lv_iconst (v := 1) hx hb dX11_hall_1 (by decide) ?_
  have jn22 : ∀ (locs : List Loc) (ls : Array Slot) , th_B G Γ Γ [(45, 0), (42, 14), (3, 8), (3, 9), (17, 4)] H0 H0 locs → lv_has ls 3 [(0, .ref a0)] → F = f_X11_hall_22 (dv G Γ H0) ((a0 : Int)) → W p l e ({ frames := 3, cells := 0, slots := 0, locals := 64 } : Room) s m ([.ref a0, .int p1, .int p2] : List Value).toArray below meth c H0 locs 0 0 (MQ below (th_Q (fun (v : Option Value) (H1 : Heap) => ∃ r : Int32, v = some (.int r) ∧ th_I G Γ H1 ∧ th_F G Γ [(45, 0), (42, 14), (3, 8), (3, 9), (17, 4)] H0 H1 ∧ th_RC G Γ H1 ∧ (f_X11_hall (dv G Γ H0) (a0 : Int) p1.toInt p2.toInt = (dv G Γ H1, r.toInt))) G) ([.ref a0, .int p1, .int p2] : List Value).toArray s 0 0 (fun q => G.2.2 ≤ q)) (F0 m 22 ls []) := by
    intro locs ls hB hl hF
    replace hF := hF.trans (f_X11_hall_22.eq_1 (dv G Γ H0) ((a0 : Int)))
    refine lv_aload_n hx hb dX11_hall_22 rfl (lv_at hl 0 rfl) ?_
    refine lv_iconst (v := (-1)) hx hb dX11_hall_23 (by decide) ?_
    refine th_call (th_runV (As := [.int (-1)]) (rest := []) hC mf_X11_answer km_X11_117 im_X11_answer se_X11_answer (c_X11_answer l G Γ H0 hB.1 hR hU a0 h0 (-1)) rfl rfl ⟨Nat.le_of_ble_eq_true rfl, Nat.le_of_ble_eq_true rfl⟩ hB.1 h0 ro_42 rfl rfl hl.1 rfl (Nat.le_of_ble_eq_true rfl) dX11_hall_24 ⟨Nat.le_refl _, Nat.le_refl _⟩) hB.2.1 (fun v24 H24 locs hp hz hS => ?_)
    obtain ⟨x1, rfl, q24_0, hI1, hf, hR, z24_0⟩ := hp
    have hB := th_B_c hB hI1 hS hf (by decide)
    have w24_0 := tk_m1
    have zf24 := z24_0
    rw [tk_m1] at zf24
    replace hF := hF.trans (dv_bn2 (zf24))
    refine W.eq (g2 := F0 m 27 ls [.int x1]) rfl ?_
    exact th_iret hC hH hr hlocks rfl hB.2.1 ⟨_, rfl, hB.1, hB.2.2, hR, (hF0.symm.trans hF)⟩ dX11_hall_27
  refine tr_icmp_lt (tgt := 22) hx hb dX11_hall_2 (by decide) (Eq.refl _) tk_1 (fun c2 => ?_) (fun c2 => ?_)
  · replace hF := hF.trans (if_pos c2)
    exact jn22 [] ls hB (lv_sub hl [0] rfl) hF
  · replace hF := hF.trans (if_neg (Int.not_lt.mpr c2))
    refine lv_iload_n hx hb dX11_hall_5 rfl (lv_at hl 1 rfl) ?_
    refine lv_bipush (v := 12) hx hb dX11_hall_6 (by decide) ?_
    refine tr_icmp_gt (tgt := 22) hx hb dX11_hall_8 (by decide) (Eq.refl _) tk_12 (fun c8 => ?_) (fun c8 => ?_)
    · replace hF := hF.trans (if_pos c8)
      exact jn22 [] ls hB (lv_sub hl [0] rfl) hF
    · replace hF := hF.trans (if_neg (Int.not_lt.mpr c8))
      refine lv_iload_n hx hb dX11_hall_11 rfl (lv_at hl 2 rfl) ?_
      refine lv_iconst (v := 1) hx hb dX11_hall_12 (by decide) ?_
      refine tr_icmp_lt (tgt := 22) hx hb dX11_hall_13 (by decide) (Eq.refl _) tk_1 (fun c13 => ?_) (fun c13 => ?_)
      · replace hF := hF.trans (if_pos c13)
        exact jn22 [] ls hB (lv_sub hl [0] rfl) hF
      · replace hF := hF.trans (if_neg (Int.not_lt.mpr c13))
        refine lv_iload_n hx hb dX11_hall_16 rfl (lv_at hl 2 rfl) ?_
        refine lv_bipush (v := 12) hx hb dX11_hall_17 (by decide) ?_
        refine tr_icmp_le (tgt := 28) hx hb dX11_hall_19 (by decide) (Eq.refl _) tk_12 (fun c19 => ?_) (fun c19 => ?_)
        · replace hF := hF.trans (if_pos c19)
          refine lv_aload_n hx hb dX11_hall_28 rfl (lv_at hl 0 rfl) ?_
          refine th_getR (j := 0) (r2 := 32) hC cf_X11 hB.1 h0 ro_42 rfl rfl kf_X11_12 dX11_hall_29 (fun b2 mb2 hb2 => ?_)
          replace hF := hF.trans (dv_bn (dv_getR h0 ro_42 (j := 0) rfl mb2 (by decide)))
          refine th_getR (j := 0) (r2 := 3) hC cf_X8 hB.1 hb2 ro_32 rfl rfl kf_X11_107 dX11_hall_32 (fun b3 mb3 hb3 => ?_)
          replace hF := hF.trans (dv_bn (dv_getR hb2 ro_32 (j := 0) rfl mb3 (by decide)))
          refine th_call (th_runV (As := []) (rest := []) hC mf_X1_laidCarpets km_X11_151 im_X1_laidCarpets se_X1_laidCarpets (c_X1_laidCarpets l G Γ H0 hB.1 hU b3 hb3) rfl rfl ⟨Nat.le_of_ble_eq_true rfl, Nat.le_of_ble_eq_true rfl⟩ hB.1 hb3 ro_3 rfl rfl hl.1 rfl (Nat.le_of_ble_eq_true rfl) dX11_hall_35 ⟨Nat.le_refl _, Nat.le_refl _⟩) hB.2.1 (fun v35 H35 locs hp hz hS => ?_)
          obtain ⟨x4, rfl, q35_0, rfl⟩ := hp
          have hB := th_B_s hB hS
          replace hF := hF.trans (dv_bn2 (q35_0))
          refine W.eq (g2 := F0 m 38 ls [.int x4]) rfl ?_
          refine tr_if_le (tgt := 48) hx hb dX11_hall_38 (by decide) (Eq.refl _) (fun c38 => ?_) (fun c38 => ?_)
          · replace hF := hF.trans (if_pos c38)
            refine lv_aload_n hx hb dX11_hall_48 rfl (lv_at hl 0 rfl) ?_
            refine th_getK hC cf_X11 hB.1 h0 ro_42 rfl (j := 0) (by decide) mb2 kf_X11_12 dX11_hall_49 ?_
            replace hF := hF.trans (dv_bn (dv_getR h0 ro_42 (j := 0) rfl mb2 (by decide)))
            refine th_getK hC cf_X8 hB.1 hb2 ro_32 rfl (j := 0) (by decide) mb3 kf_X11_107 dX11_hall_52 ?_
            replace hF := hF.trans (dv_bn (dv_getR hb2 ro_32 (j := 0) rfl mb3 (by decide)))
            refine lv_iload_n hx hb dX11_hall_55 rfl (lv_at hl 1 rfl) ?_
            refine th_put hC cf_X1 hB hb3 (Or.inl hb3) ro_3 rfl (j := 8) rfl (th_sI (by omega) (by omega)) (by decide) rfl rfl rfl kf_X11_155 dX11_hall_56 (fun H56 locs hB hf hst56 => ?_)
            have mm5 := (th_F_o hf h0 ro_42 (j := 0) (by decide) (by decide)).trans mb2
            have mm6 := (th_F_o hf hb2 ro_32 (j := 0) (by decide) (by decide)).trans mb3
            have hR := th_RC_F hB.1 hR hf (th_T_s hb3 ro_3 hst56) (by decide)
            replace hF := hF.trans (dv_bn (dv_putI hB.1 hb3 ro_3 (j := 8) rfl (th_apart hC cf_X1) hst56 (Eq.refl _) (by decide)))
            refine lv_aload_n hx hb dX11_hall_59 rfl (lv_at hl 0 rfl) ?_
            refine th_getK hC cf_X11 hB.1 h0 ro_42 rfl (j := 0) (by decide) mm5 kf_X11_12 dX11_hall_60 ?_
            replace hF := hF.trans (dv_bn (dv_getR h0 ro_42 (j := 0) rfl mm5 (by decide)))
            refine th_getK hC cf_X8 hB.1 hb2 ro_32 rfl (j := 0) (by decide) mm6 kf_X11_107 dX11_hall_63 ?_
            replace hF := hF.trans (dv_bn (dv_getR hb2 ro_32 (j := 0) rfl mm6 (by decide)))
            refine lv_iload_n hx hb dX11_hall_66 rfl (lv_at hl 2 rfl) ?_
            refine th_put hC cf_X1 hB hb3 (Or.inl hb3) ro_3 rfl (j := 9) rfl (th_sI (by omega) (by omega)) (by decide) rfl rfl rfl kf_X11_158 dX11_hall_67 (fun H67 locs hB hf hst67 => ?_)
            have mm7 := (th_F_o hf h0 ro_42 (j := 0) (by decide) (by decide)).trans mm5
            have mm8 := (th_F_o hf hb2 ro_32 (j := 0) (by decide) (by decide)).trans mm6
            have hR := th_RC_F hB.1 hR hf (th_T_s hb3 ro_3 hst67) (by decide)
            replace hF := hF.trans (dv_bn (dv_putI hB.1 hb3 ro_3 (j := 9) rfl (th_apart hC cf_X1) hst67 (Eq.refl _) (by decide)))
            refine lv_aload_n hx hb dX11_hall_70 rfl (lv_at hl 0 rfl) ?_
            refine th_getR (j := 10) (r2 := 17) hC cf_X11 hB.1 h0 ro_42 rfl rfl kf_X11_72 dX11_hall_71 (fun b9 mb9 hb9 => ?_)
            replace hF := hF.trans (dv_bn (dv_getR h0 ro_42 (j := 10) rfl mb9 (by decide)))
            refine th_call (th_runV (As := []) (rest := []) hC mf_X4_clear km_X11_114 im_X4_clear se_X4_clear (c_X4_clear l G Γ H67 hB.1 hR hU b9 hb9) rfl rfl ⟨Nat.le_of_ble_eq_true rfl, Nat.le_of_ble_eq_true rfl⟩ hB.1 hb9 ro_17 rfl rfl hl.1 rfl (Nat.le_of_ble_eq_true rfl) dX11_hall_74 ⟨Nat.le_refl _, Nat.le_refl _⟩) hB.2.1 (fun v74 H74 locs hp hz hS => ?_)
            obtain ⟨rfl, hI1, hf, hR, z74_0⟩ := hp
            have hB := th_B_c hB hI1 hS hf (by decide)
            have mm10 := (th_F_o hf h0 ro_42 (j := 0) (by decide) (by decide)).trans mm7
            have mm11 := (th_F_o hf hb2 ro_32 (j := 0) (by decide) (by decide)).trans mm8
            replace hF := hF.trans (dv_bn2 (z74_0))
            refine W.eq (g2 := F0 m 77 ls []) rfl ?_
            refine lv_aload_n hx hb dX11_hall_77 rfl (lv_at hl 0 rfl) ?_
            refine lv_iload_n hx hb dX11_hall_78 rfl (lv_at hl 1 rfl) ?_
            refine lv_iload_n hx hb dX11_hall_79 rfl (lv_at hl 2 rfl) ?_
            have q13 := ti_mulr (a := p1.toInt) (b := p2.toInt) (A := 12) (B := 12) (by omega) (by omega) (by omega) (by omega)
            generalize hex12 : p1.toInt * p2.toInt = wx12 at q13
            refine tr_imul hx hb dX11_hall_80 (Eq.refl _) (Eq.refl _) (by rw [hex12]; omega) (by rw [hex12]; omega) (fun x12 ex12 => ?_)
            rw [hex12] at ex12
            replace hF := hF.trans (dv_bn (hex12.trans ex12.symm))
            refine th_call (th_runV (As := [.int x12]) (rest := []) hC mf_X11_answer km_X11_117 im_X11_answer se_X11_answer (c_X11_answer l G Γ H74 hB.1 hR hU a0 h0 x12) rfl rfl ⟨Nat.le_of_ble_eq_true rfl, Nat.le_of_ble_eq_true rfl⟩ hB.1 h0 ro_42 rfl rfl hl.1 rfl (Nat.le_of_ble_eq_true rfl) dX11_hall_81 ⟨Nat.le_refl _, Nat.le_refl _⟩) hB.2.1 (fun v81 H81 locs hp hz hS => ?_)
            obtain ⟨x14, rfl, q81_0, hI1, hf, hR, z81_0⟩ := hp
            have hB := th_B_c hB hI1 hS hf (by decide)
            have mm15 := (th_F_o hf h0 ro_42 (j := 0) (by decide) (by decide)).trans mm10
            have mm16 := (th_F_o hf hb2 ro_32 (j := 0) (by decide) (by decide)).trans mm11
            replace hF := hF.trans (dv_bn2 (z81_0))
            refine W.eq (g2 := F0 m 84 ls [.int x14]) rfl ?_
            exact th_iret hC hH hr hlocks rfl hB.2.1 ⟨_, rfl, hB.1, hB.2.2, hR, (hF0.symm.trans hF)⟩ dX11_hall_84
          · replace hF := hF.trans (if_neg (Int.not_le.mpr c38))
            refine lv_aload_n hx hb dX11_hall_41 rfl (lv_at hl 0 rfl) ?_
            refine lv_bipush (v := (-3)) hx hb dX11_hall_42 (by decide) ?_
            refine th_call (th_runV (As := [.int (-3)]) (rest := []) hC mf_X11_answer km_X11_117 im_X11_answer se_X11_answer (c_X11_answer l G Γ H0 hB.1 hR hU a0 h0 (-3)) rfl rfl ⟨Nat.le_of_ble_eq_true rfl, Nat.le_of_ble_eq_true rfl⟩ hB.1 h0 ro_42 rfl rfl hl.1 rfl (Nat.le_of_ble_eq_true rfl) dX11_hall_44 ⟨Nat.le_refl _, Nat.le_refl _⟩) hB.2.1 (fun v44 H44 locs hp hz hS => ?_)
            obtain ⟨x17, rfl, q44_0, hI1, hf, hR, z44_0⟩ := hp
            have hB := th_B_c hB hI1 hS hf (by decide)
            have mm18 := (th_F_o hf h0 ro_42 (j := 0) (by decide) (by decide)).trans mb2
            have mm19 := (th_F_o hf hb2 ro_32 (j := 0) (by decide) (by decide)).trans mb3
            have w44_0 := tk_m3
            have zf44 := z44_0
            rw [tk_m3] at zf44
            replace hF := hF.trans (dv_bn2 (zf44))
            refine W.eq (g2 := F0 m 47 ls [.int x17]) rfl ?_
            exact th_iret hC hH hr hlocks rfl hB.2.1 ⟨_, rfl, hB.1, hB.2.2, hR, (hF0.symm.trans hF)⟩ dX11_hall_47
        · replace hF := hF.trans (if_neg (Int.not_le.mpr c19))
          exact jn22 [] ls hB (lv_sub hl [0] rfl) hF

set_option maxHeartbeats 4000000 in
set_option maxRecDepth 100000 in
theorem c_X11_at (l : Launch) (G : th_G) (Γ : th_Ga) (H0 : Heap) (hI : th_I G Γ H0) (hU : dv_U Γ) (a0 : Nat) (h0 : Γ a0 = (42, 0)) (p1 : Int32) (p2 : Int32) : Met l yX11_at (.code yX11_at cX11_at 3 (some FieldType.int) :: th_tb) ({ frames := 3, cells := 0, slots := 0, locals := 65 } : Room) (th_P [.ref a0, .int p1, .int p2] G H0) (th_Q (fun (v : Option Value) (H1 : Heap) => ∃ r : Int32, v = some (.int r) ∧ (f_X11_at (dv G Γ H0) (a0 : Int) p1.toInt p2.toInt = (r.toInt, ())) ∧ H0 = H1) G) 0 0 (fun q => G.2.2 ≤ q) := by
  refine th_met RX11 (by decide) rfl (Nat.le_of_ble_eq_true rfl) ?_
  intro p e s m below meth c hC hH hr hlocks hnm ls hl
  have hx := hC.1
  have hb := hC.2.1
  have hB : th_B G Γ Γ [] H0 H0 [] := ⟨hI, va_S.rf, th_F_rf⟩
  have hl : lv_has ls 3 [(0, .ref a0), (1, .int p1), (2, .int p2)] := hl
  have lp1 := ti_lo p1; have up1 := ti_hi p1
  have lp2 := ti_lo p2; have up2 := ti_hi p2
  obtain ⟨F, hF0⟩ : ∃ F, F = f_X11_at (dv G Γ H0) ((a0 : Int)) (p1.toInt) (p2.toInt) := ⟨_, rfl⟩
  have hF := hF0.trans (f_X11_at.eq_1 (dv G Γ H0) ((a0 : Int)) (p1.toInt) (p2.toInt))
  refine lv_aload_n hx hb dX11_at_0 rfl (lv_at hl 0 rfl) ?_
  refine th_getR (j := 0) (r2 := 32) hC cf_X11 hB.1 h0 ro_42 rfl rfl kf_X11_12 dX11_at_1 (fun b1 mb1 hb1 => ?_)
  replace hF := hF.trans (dv_bn (dv_getR h0 ro_42 (j := 0) rfl mb1 (by decide)))
  refine th_getR (j := 0) (r2 := 3) hC cf_X8 hB.1 hb1 ro_32 rfl rfl kf_X11_107 dX11_at_4 (fun b2 mb2 hb2 => ?_)
  replace hF := hF.trans (dv_bn (dv_getR hb1 ro_32 (j := 0) rfl mb2 (by decide)))
  refine lv_iload_n hx hb dX11_at_7 rfl (lv_at hl 1 rfl) ?_
  refine lv_iload_n hx hb dX11_at_8 rfl (lv_at hl 2 rfl) ?_
  refine th_call (th_runV (As := [.int p1, .int p2]) (rest := []) hC mf_X1_carpetOn km_X11_161 im_X1_carpetOn se_X1_carpetOn (c_X1_carpetOn l G Γ H0 hB.1 hU b2 hb2 p1 p2) rfl rfl ⟨Nat.le_of_ble_eq_true rfl, Nat.le_of_ble_eq_true rfl⟩ hB.1 hb2 ro_3 rfl rfl hl.1 rfl (Nat.le_of_ble_eq_true rfl) dX11_at_9 ⟨Nat.le_refl _, Nat.le_refl _⟩) hB.2.1 (fun v9 H9 locs hp hz hS => ?_)
  obtain ⟨x3, rfl, lx3, ux3, q9_0, rfl⟩ := hp
  have hB := th_B_s hB hS
  replace hF := hF.trans (dv_bn2 (q9_0))
  refine W.eq (g2 := F0 m 12 ls [.int x3]) rfl ?_
  exact th_iret hC hH hr hlocks rfl hB.2.1 ⟨_, rfl, (hF0.symm.trans hF), rfl⟩ dX11_at_12

set_option maxHeartbeats 4000000 in
set_option maxRecDepth 100000 in
theorem c_X11_asks (l : Launch) (G : th_G) (Γ : th_Ga) (H0 : Heap) (hI : th_I G Γ H0) (hR : th_RC G Γ H0) (hU : dv_U Γ) (a0 : Nat) (h0 : Γ a0 = (42, 0)) (p1 : Int32) (p2 : Int32) (p3 : Int32) (p4 : Int32) : Met l yX11_asks (.code yX11_asks cX11_asks 6 (some FieldType.int) :: th_tb) ({ frames := 5, cells := 0, slots := 0, locals := 129 } : Room) (th_P [.ref a0, .int p1, .int p2, .int p3, .int p4] G H0) (th_Q (fun (v : Option Value) (H1 : Heap) => ∃ r : Int32, v = some (.int r) ∧ th_I G Γ H1 ∧ th_F G Γ [(24, 0), (23, 3), (26, 0), (25, 0)] H0 H1 ∧ th_RC G Γ H1 ∧ (f_X11_asks (dv G Γ H0) (a0 : Int) p1.toInt p2.toInt p3.toInt p4.toInt = (dv G Γ H1, r.toInt))) G) 0 0 (fun q => G.2.2 ≤ q) := by
  refine th_met RX11 (by decide) rfl (Nat.le_of_ble_eq_true rfl) ?_
  intro p e s m below meth c hC hH hr hlocks hnm ls hl
  have hx := hC.1
  have hb := hC.2.1
  have hB : th_B G Γ Γ [(24, 0), (23, 3), (26, 0), (25, 0)] H0 H0 [] := ⟨hI, va_S.rf, th_F_rf⟩
  have hl : lv_has ls 6 [(0, .ref a0), (1, .int p1), (2, .int p2), (3, .int p3), (4, .int p4)] := hl
  have lp1 := ti_lo p1; have up1 := ti_hi p1
  have lp2 := ti_lo p2; have up2 := ti_hi p2
  have lp3 := ti_lo p3; have up3 := ti_hi p3
  have lp4 := ti_lo p4; have up4 := ti_hi p4
  obtain ⟨F, hF0⟩ : ∃ F, F = f_X11_asks (dv G Γ H0) ((a0 : Int)) (p1.toInt) (p2.toInt) (p3.toInt) (p4.toInt) := ⟨_, rfl⟩
  have hF := hF0.trans (f_X11_asks.eq_1 (dv G Γ H0) ((a0 : Int)) (p1.toInt) (p2.toInt) (p3.toInt) (p4.toInt))
  refine lv_aload_n hx hb dX11_asks_0 rfl (lv_at hl 0 rfl) ?_
  refine th_getR (j := 0) (r2 := 32) hC cf_X11 hB.1 h0 ro_42 rfl rfl kf_X11_12 dX11_asks_1 (fun b1 mb1 hb1 => ?_)
  replace hF := hF.trans (dv_bn (dv_getR h0 ro_42 (j := 0) rfl mb1 (by decide)))
  refine th_getR (j := 0) (r2 := 3) hC cf_X8 hB.1 hb1 ro_32 rfl rfl kf_X11_107 dX11_asks_4 (fun b2 mb2 hb2 => ?_)
  replace hF := hF.trans (dv_bn (dv_getR hb1 ro_32 (j := 0) rfl mb2 (by decide)))
  refine lv_astore (lv' := [(5, .ref b2), (0, .ref a0), (1, .int p1), (2, .int p2), (3, .int p3), (4, .int p4)]) hx hb dX11_asks_7 hl (by decide) rfl (fun ls hl => ?_)
  refine lv_aload hx hb dX11_asks_9 (lv_at hl 0 rfl) ?_
  refine lv_iload_n hx hb dX11_asks_11 rfl (lv_at hl 2 rfl) ?_
  refine th_call (th_runV (As := [.int p1]) (rest := []) hC mf_X1_has km_X11_121 im_X1_has se_X1_has (c_X1_has l G Γ H0 hB.1 hU b2 hb2 p1) rfl rfl ⟨Nat.le_of_ble_eq_true rfl, Nat.le_of_ble_eq_true rfl⟩ hB.1 hb2 ro_3 rfl rfl hl.1 rfl (Nat.le_of_ble_eq_true rfl) dX11_asks_12 ⟨Nat.le_refl _, Nat.le_refl _⟩) hB.2.1 (fun v12 H12 locs hp hz hS => ?_)
  obtain ⟨x3, rfl, lx3, ux3, q12_0, q12_1, rfl⟩ := hp
  have hB := th_B_s hB hS
  replace hF := hF.trans (dv_bn2 (q12_1))
  refine W.eq (g2 := F0 m 15 ls [.int x3]) rfl ?_
  refine tr_if_eq (tgt := 32) hx hb dX11_asks_15 (by decide) (Eq.refl _) (fun c15 => ?_) (fun c15 => ?_)
  · replace hF := hF.trans (if_pos c15)
    refine lv_iconst (v := (-1)) hx hb dX11_asks_32 (by decide) ?_
    exact th_iret hC hH hr hlocks rfl hB.2.1 ⟨_, rfl, hB.1, hB.2.2, hR, (hF0.symm.trans (hF.trans (by rw [tk_m1])))⟩ dX11_asks_33
  · replace hF := hF.trans (if_neg c15)
    refine lv_iload_n hx hb dX11_asks_18 rfl (lv_at hl 3 rfl) ?_
    refine th_call (th_runS (As := [.int p2]) (rest := []) hC mf_X11_onGrid km_X11_165 st_X11_onGrid (c_X11_onGrid l G Γ H0 hB.1 hU p2) rfl rfl ⟨Nat.le_of_ble_eq_true rfl, Nat.le_of_ble_eq_true rfl⟩ rfl hl.1 rfl (Nat.le_of_ble_eq_true rfl) dX11_asks_19 ⟨Nat.le_refl _, Nat.le_refl _⟩) hB.2.1 (fun v19 H19 locs hp hz hS => ?_)
    obtain ⟨x4, rfl, lx4, ux4, q19_0, q19_1, rfl⟩ := hp
    have hB := th_B_s hB hS
    replace hF := hF.trans (dv_bn2 (q19_1))
    refine W.eq (g2 := F0 m 22 ls [.int x4]) rfl ?_
    refine tr_if_eq (tgt := 32) hx hb dX11_asks_22 (by decide) (Eq.refl _) (fun c22 => ?_) (fun c22 => ?_)
    · replace hF := hF.trans (if_pos c22)
      refine lv_iconst (v := (-1)) hx hb dX11_asks_32 (by decide) ?_
      exact th_iret hC hH hr hlocks rfl hB.2.1 ⟨_, rfl, hB.1, hB.2.2, hR, (hF0.symm.trans (hF.trans (by rw [tk_m1])))⟩ dX11_asks_33
    · replace hF := hF.trans (if_neg c22)
      refine lv_iload_n hx hb dX11_asks_25 rfl (lv_at hl 4 rfl) ?_
      refine th_call (th_runS (As := [.int p3]) (rest := []) hC mf_X11_onGrid km_X11_165 st_X11_onGrid (c_X11_onGrid l G Γ H0 hB.1 hU p3) rfl rfl ⟨Nat.le_of_ble_eq_true rfl, Nat.le_of_ble_eq_true rfl⟩ rfl hl.1 rfl (Nat.le_of_ble_eq_true rfl) dX11_asks_26 ⟨Nat.le_refl _, Nat.le_refl _⟩) hB.2.1 (fun v26 H26 locs hp hz hS => ?_)
      obtain ⟨x5, rfl, lx5, ux5, q26_0, q26_1, rfl⟩ := hp
      have hB := th_B_s hB hS
      replace hF := hF.trans (dv_bn2 (q26_1))
      refine W.eq (g2 := F0 m 29 ls [.int x5]) rfl ?_
      refine tr_if_ne (tgt := 34) hx hb dX11_asks_29 (by decide) (Eq.refl _) (fun c29 => ?_) (fun c29 => ?_)
      · replace hF := hF.trans (if_pos c29)
        refine lv_iload hx hb dX11_asks_34 (lv_at hl 5 rfl) ?_
        by_cases k36_0 : p4.toInt = 0
        · replace hF := hF.trans (if_pos k36_0)
          refine lv_tableIn (off := 28) (tgt := 64) hx hb dX11_asks_36 (by omega) (by omega) (by rw [show p4.toInt = 0 from k36_0]; decide) (by decide) ?_
          refine lv_aload_n hx hb dX11_asks_64 rfl (lv_at hl 1 rfl) ?_
          refine th_getR (j := 9) (r2 := 11) hC cf_X11 hB.1 h0 ro_42 rfl rfl kf_X11_65 dX11_asks_65 (fun b6 mb6 hb6 => ?_)
          replace hF := hF.trans (dv_bn (dv_getR h0 ro_42 (j := 9) rfl mb6 (by decide)))
          refine lv_aload_n hx hb dX11_asks_68 rfl (lv_at hl 1 rfl) ?_
          refine th_getK hC cf_X11 hB.1 h0 ro_42 rfl (j := 0) (by decide) mb1 kf_X11_12 dX11_asks_69 ?_
          replace hF := hF.trans (dv_bn (dv_getR h0 ro_42 (j := 0) rfl mb1 (by decide)))
          refine th_call (th_runV (As := []) (rest := [.ref b6]) hC mf_X8_forcedLaw km_X11_143 im_X8_forcedLaw se_X8_forcedLaw (c_X8_forcedLaw l G Γ H0 hB.1 hU b1 hb1) rfl rfl ⟨Nat.le_of_ble_eq_true rfl, Nat.le_of_ble_eq_true rfl⟩ hB.1 hb1 ro_32 rfl rfl hl.1 rfl (Nat.le_of_ble_eq_true rfl) dX11_asks_72 ⟨Nat.le_refl _, Nat.le_refl _⟩) hB.2.1 (fun v72 H72 locs hp hz hS => ?_)
          obtain ⟨v7, rfl, hv7, q72_0, rfl⟩ := hp
          have hB := th_B_s hB hS
          replace hF := hF.trans (dv_bn2 (q72_0))
          refine W.eq (g2 := F0 m 75 ls [v7, .ref b6]) rfl ?_
          refine lv_aload hx hb dX11_asks_75 (lv_at hl 0 rfl) ?_
          refine lv_iload_n hx hb dX11_asks_77 rfl (lv_at hl 2 rfl) ?_
          refine lv_iload_n hx hb dX11_asks_78 rfl (lv_at hl 3 rfl) ?_
          refine lv_iload_n hx hb dX11_asks_79 rfl (lv_at hl 4 rfl) ?_
          refine th_call (th_runV (As := [v7, .ref b2, .int p1, .int p2, .int p3]) (rest := []) hC mf_X2_costOf km_X11_168 im_X2_costOf se_X2_costOf (c_X2_costOf l G Γ H0 hB.1 hR hU b6 hb6 v7 hv7 b2 hb2 p1 (by omega) (by omega) p2 p3) rfl rfl ⟨Nat.le_of_ble_eq_true rfl, Nat.le_of_ble_eq_true rfl⟩ hB.1 hb6 ro_11 rfl rfl hl.1 rfl (Nat.le_of_ble_eq_true rfl) dX11_asks_80 ⟨Nat.le_refl _, Nat.le_refl _⟩) hB.2.1 (fun v80 H80 locs hp hz hS => ?_)
          obtain ⟨x8, rfl, lx8, ux8, hI1, hf, hR, z80_0⟩ := hp
          have hB := th_B_c hB hI1 hS hf (by decide)
          have mm9 := (th_F_o hf h0 ro_42 (j := 0) (by decide) (by decide)).trans mb1
          replace hF := hF.trans (dv_bn2 (z80_0))
          refine W.eq (g2 := F0 m 83 ls [.int x8]) rfl ?_
          exact th_iret hC hH hr hlocks rfl hB.2.1 ⟨_, rfl, hB.1, hB.2.2, hR, (hF0.symm.trans hF)⟩ dX11_asks_83
        replace hF := hF.trans (if_neg k36_0)
        by_cases k36_1 : p4.toInt = 1
        · replace hF := hF.trans (if_pos k36_1)
          refine lv_tableIn (off := 48) (tgt := 84) hx hb dX11_asks_36 (by omega) (by omega) (by rw [show p4.toInt = 1 from k36_1]; decide) (by decide) ?_
          refine lv_aload_n hx hb dX11_asks_84 rfl (lv_at hl 1 rfl) ?_
          refine th_getR (j := 9) (r2 := 11) hC cf_X11 hB.1 h0 ro_42 rfl rfl kf_X11_65 dX11_asks_85 (fun b10 mb10 hb10 => ?_)
          replace hF := hF.trans (dv_bn (dv_getR h0 ro_42 (j := 9) rfl mb10 (by decide)))
          refine lv_aload_n hx hb dX11_asks_88 rfl (lv_at hl 1 rfl) ?_
          refine th_getK hC cf_X11 hB.1 h0 ro_42 rfl (j := 0) (by decide) mb1 kf_X11_12 dX11_asks_89 ?_
          replace hF := hF.trans (dv_bn (dv_getR h0 ro_42 (j := 0) rfl mb1 (by decide)))
          refine th_call (th_runV (As := []) (rest := [.ref b10]) hC mf_X8_forcedLaw km_X11_143 im_X8_forcedLaw se_X8_forcedLaw (c_X8_forcedLaw l G Γ H0 hB.1 hU b1 hb1) rfl rfl ⟨Nat.le_of_ble_eq_true rfl, Nat.le_of_ble_eq_true rfl⟩ hB.1 hb1 ro_32 rfl rfl hl.1 rfl (Nat.le_of_ble_eq_true rfl) dX11_asks_92 ⟨Nat.le_refl _, Nat.le_refl _⟩) hB.2.1 (fun v92 H92 locs hp hz hS => ?_)
          obtain ⟨v11, rfl, hv11, q92_0, rfl⟩ := hp
          have hB := th_B_s hB hS
          replace hF := hF.trans (dv_bn2 (q92_0))
          refine W.eq (g2 := F0 m 95 ls [v11, .ref b10]) rfl ?_
          refine lv_aload hx hb dX11_asks_95 (lv_at hl 0 rfl) ?_
          refine lv_iload_n hx hb dX11_asks_97 rfl (lv_at hl 2 rfl) ?_
          refine lv_iload_n hx hb dX11_asks_98 rfl (lv_at hl 3 rfl) ?_
          refine lv_iload_n hx hb dX11_asks_99 rfl (lv_at hl 4 rfl) ?_
          refine th_call (th_runV (As := [v11, .ref b2, .int p1, .int p2, .int p3]) (rest := []) hC mf_X2_isBarred km_X11_172 im_X2_isBarred se_X2_isBarred (c_X2_isBarred l G Γ H0 hB.1 hR hU b10 hb10 v11 hv11 b2 hb2 p1 (by omega) (by omega) p2 p3) rfl rfl ⟨Nat.le_of_ble_eq_true rfl, Nat.le_of_ble_eq_true rfl⟩ hB.1 hb10 ro_11 rfl rfl hl.1 rfl (Nat.le_of_ble_eq_true rfl) dX11_asks_100 ⟨Nat.le_refl _, Nat.le_refl _⟩) hB.2.1 (fun v100 H100 locs hp hz hS => ?_)
          obtain ⟨x12, rfl, lx12, ux12, hI1, hf, hR, z100_0⟩ := hp
          have hB := th_B_c hB hI1 hS hf (by decide)
          have mm13 := (th_F_o hf h0 ro_42 (j := 0) (by decide) (by decide)).trans mb1
          replace hF := hF.trans (dv_bn2 (z100_0))
          refine W.eq (g2 := F0 m 103 ls [.int x12]) rfl ?_
          refine tr_if_eq (tgt := 110) hx hb dX11_asks_103 (by decide) (Eq.refl _) (fun c103 => ?_) (fun c103 => ?_)
          · replace hF := hF.trans (if_pos c103)
            refine lv_iconst (v := 0) hx hb dX11_asks_110 (by decide) ?_
            exact th_iret hC hH hr hlocks rfl hB.2.1 ⟨_, rfl, hB.1, hB.2.2, hR, (hF0.symm.trans (hF.trans (by rw [tk_0])))⟩ dX11_asks_111
          · replace hF := hF.trans (if_neg c103)
            refine lv_iconst (v := 1) hx hb dX11_asks_106 (by decide) ?_
            refine lv_goto (tgt := 111) hx hb dX11_asks_107 (by decide) ?_
            exact th_iret hC hH hr hlocks rfl hB.2.1 ⟨_, rfl, hB.1, hB.2.2, hR, (hF0.symm.trans (hF.trans (by rw [tk_1])))⟩ dX11_asks_111
        replace hF := hF.trans (if_neg k36_1)
        by_cases k36_2 : p4.toInt = 2
        · replace hF := hF.trans (if_pos k36_2)
          refine lv_tableIn (off := 76) (tgt := 112) hx hb dX11_asks_36 (by omega) (by omega) (by rw [show p4.toInt = 2 from k36_2]; decide) (by decide) ?_
          refine lv_aload_n hx hb dX11_asks_112 rfl (lv_at hl 1 rfl) ?_
          refine lv_aload hx hb dX11_asks_113 (lv_at hl 0 rfl) ?_
          refine lv_iload_n hx hb dX11_asks_115 rfl (lv_at hl 2 rfl) ?_
          refine lv_iload_n hx hb dX11_asks_116 rfl (lv_at hl 3 rfl) ?_
          refine lv_iload_n hx hb dX11_asks_117 rfl (lv_at hl 4 rfl) ?_
          refine th_call (th_runV (As := [.ref b2, .int p1, .int p2, .int p3]) (rest := []) hC mf_X11_canLie km_X11_176 im_X11_canLie se_X11_canLie (c_X11_canLie l G Γ H0 hB.1 hR hU a0 h0 b2 hb2 p1 p2 p3) rfl rfl ⟨Nat.le_of_ble_eq_true rfl, Nat.le_of_ble_eq_true rfl⟩ hB.1 h0 ro_42 rfl rfl hl.1 rfl (Nat.le_of_ble_eq_true rfl) dX11_asks_118 ⟨Nat.le_refl _, Nat.le_refl _⟩) hB.2.1 (fun v118 H118 locs hp hz hS => ?_)
          obtain ⟨x14, rfl, lx14, ux14, q118_0, q118_1, hI1, hf, hR, z118_0⟩ := hp
          have hB := th_B_c hB hI1 hS hf (by decide)
          have mm15 := (th_F_o hf h0 ro_42 (j := 0) (by decide) (by decide)).trans mb1
          replace hF := hF.trans (dv_bn2 (z118_0))
          refine W.eq (g2 := F0 m 121 ls [.int x14]) rfl ?_
          refine tr_if_eq (tgt := 128) hx hb dX11_asks_121 (by decide) (Eq.refl _) (fun c121 => ?_) (fun c121 => ?_)
          · replace hF := hF.trans (if_pos c121)
            refine lv_iconst (v := 0) hx hb dX11_asks_128 (by decide) ?_
            exact th_iret hC hH hr hlocks rfl hB.2.1 ⟨_, rfl, hB.1, hB.2.2, hR, (hF0.symm.trans (hF.trans (by rw [tk_0])))⟩ dX11_asks_129
          · replace hF := hF.trans (if_neg c121)
            refine lv_iconst (v := 1) hx hb dX11_asks_124 (by decide) ?_
            refine lv_goto (tgt := 129) hx hb dX11_asks_125 (by decide) ?_
            exact th_iret hC hH hr hlocks rfl hB.2.1 ⟨_, rfl, hB.1, hB.2.2, hR, (hF0.symm.trans (hF.trans (by rw [tk_1])))⟩ dX11_asks_129
        replace hF := hF.trans (if_neg k36_2)
        refine lv_tableOut (tgt := 130) hx hb dX11_asks_36 (by omega) (by decide) ?_
        refine lv_iconst (v := (-1)) hx hb dX11_asks_130 (by decide) ?_
        exact th_iret hC hH hr hlocks rfl hB.2.1 ⟨_, rfl, hB.1, hB.2.2, hR, (hF0.symm.trans (hF.trans (by rw [tk_m1])))⟩ dX11_asks_131
      · replace hF := hF.trans (if_neg (not_not_intro c29))
        refine lv_iconst (v := (-1)) hx hb dX11_asks_32 (by decide) ?_
        exact th_iret hC hH hr hlocks rfl hB.2.1 ⟨_, rfl, hB.1, hB.2.2, hR, (hF0.symm.trans (hF.trans (by rw [tk_m1])))⟩ dX11_asks_33

set_option maxHeartbeats 4000000 in
set_option maxRecDepth 100000 in
theorem c_X11_terms (l : Launch) (G : th_G) (Γ : th_Ga) (H0 : Heap) (hI : th_I G Γ H0) (hR : th_RC G Γ H0) (hU : dv_U Γ) (a0 : Nat) (h0 : Γ a0 = (42, 0)) (p1 : Int32) (p2 : Int32) : Met l yX11_terms (.code yX11_terms cX11_terms 4 (some FieldType.int) :: th_tb) ({ frames := 1, cells := 0, slots := 0, locals := 21 } : Room) (th_P [.ref a0, .int p1, .int p2] G H0) (th_Q (fun (v : Option Value) (H1 : Heap) => ∃ r : Int32, v = some (.int r) ∧ th_I G Γ H1 ∧ th_F G Γ [(45, 0), (42, 14), (9, 0), (17, 4)] H0 H1 ∧ th_RC G Γ H1 ∧ (f_X11_terms (dv G Γ H0) (a0 : Int) p1.toInt p2.toInt = (dv G Γ H1, r.toInt))) G) 0 0 (fun q => G.2.2 ≤ q) := by
  refine th_met RX11 (by decide) rfl (Nat.le_of_ble_eq_true rfl) ?_
  intro p e s m below meth c hC hH hr hlocks hnm ls hl
  have hx := hC.1
  have hb := hC.2.1
  have hB : th_B G Γ Γ [(45, 0), (42, 14), (9, 0), (17, 4)] H0 H0 [] := ⟨hI, va_S.rf, th_F_rf⟩
  have hl : lv_has ls 4 [(0, .ref a0), (1, .int p1), (2, .int p2)] := hl
  have lp1 := ti_lo p1; have up1 := ti_hi p1
  have lp2 := ti_lo p2; have up2 := ti_hi p2
  obtain ⟨F, hF0⟩ : ∃ F, F = f_X11_terms (dv G Γ H0) ((a0 : Int)) (p1.toInt) (p2.toInt) := ⟨_, rfl⟩
  have hF := hF0.trans (f_X11_terms.eq_1 (dv G Γ H0) ((a0 : Int)) (p1.toInt) (p2.toInt))
  refine lv_iload_n hx hb dX11_terms_0 rfl (lv_at hl 1 rfl) ?_
  have jn21 : ∀ (locs : List Loc) (ls : Array Slot) , th_B G Γ Γ [(45, 0), (42, 14), (9, 0), (17, 4)] H0 H0 locs → lv_has ls 4 [(0, .ref a0)] → F = f_X11_terms_21 (dv G Γ H0) ((a0 : Int)) → W p l e ({ frames := 1, cells := 0, slots := 0, locals := 21 } : Room) s m ([.ref a0, .int p1, .int p2] : List Value).toArray below meth c H0 locs 0 0 (MQ below (th_Q (fun (v : Option Value) (H1 : Heap) => ∃ r : Int32, v = some (.int r) ∧ th_I G Γ H1 ∧ th_F G Γ [(45, 0), (42, 14), (9, 0), (17, 4)] H0 H1 ∧ th_RC G Γ H1 ∧ (f_X11_terms (dv G Γ H0) (a0 : Int) p1.toInt p2.toInt = (dv G Γ H1, r.toInt))) G) ([.ref a0, .int p1, .int p2] : List Value).toArray s 0 0 (fun q => G.2.2 ≤ q)) (F0 m 21 ls []) := by
    intro locs ls hB hl hF
    replace hF := hF.trans (f_X11_terms_21.eq_1 (dv G Γ H0) ((a0 : Int)))
    refine lv_aload_n hx hb dX11_terms_21 rfl (lv_at hl 0 rfl) ?_
    refine lv_iconst (v := (-1)) hx hb dX11_terms_22 (by decide) ?_
    refine th_call (th_runV (As := [.int (-1)]) (rest := []) hC mf_X11_answer km_X11_117 im_X11_answer se_X11_answer (c_X11_answer l G Γ H0 hB.1 hR hU a0 h0 (-1)) rfl rfl ⟨Nat.le_of_ble_eq_true rfl, Nat.le_of_ble_eq_true rfl⟩ hB.1 h0 ro_42 rfl rfl hl.1 rfl (Nat.le_of_ble_eq_true rfl) dX11_terms_23 ⟨Nat.le_refl _, Nat.le_refl _⟩) hB.2.1 (fun v23 H23 locs hp hz hS => ?_)
    obtain ⟨x1, rfl, q23_0, hI1, hf, hR, z23_0⟩ := hp
    have hB := th_B_c hB hI1 hS hf (by decide)
    have w23_0 := tk_m1
    have zf23 := z23_0
    rw [tk_m1] at zf23
    replace hF := hF.trans (dv_bn2 (zf23))
    refine W.eq (g2 := F0 m 26 ls [.int x1]) rfl ?_
    exact th_iret hC hH hr hlocks rfl hB.2.1 ⟨_, rfl, hB.1, hB.2.2, hR, (hF0.symm.trans hF)⟩ dX11_terms_26
  refine tr_if_lt (tgt := 21) hx hb dX11_terms_1 (by decide) (Eq.refl _) (fun c1 => ?_) (fun c1 => ?_)
  · replace hF := hF.trans (if_pos c1)
    exact jn21 [] ls hB (lv_sub hl [0] rfl) hF
  · replace hF := hF.trans (if_neg (Int.not_lt.mpr c1))
    refine lv_iload_n hx hb dX11_terms_4 rfl (lv_at hl 1 rfl) ?_
    refine lv_iconst (v := 3) hx hb dX11_terms_5 (by decide) ?_
    refine tr_icmp_ge (tgt := 21) hx hb dX11_terms_6 (by decide) (Eq.refl _) tk_3 (fun c6 => ?_) (fun c6 => ?_)
    · replace hF := hF.trans (if_pos c6)
      exact jn21 [] ls hB (lv_sub hl [0] rfl) hF
    · replace hF := hF.trans (if_neg (Int.not_le.mpr c6))
      refine lv_iload_n hx hb dX11_terms_9 rfl (lv_at hl 2 rfl) ?_
      refine tr_if_lt (tgt := 21) hx hb dX11_terms_10 (by decide) (Eq.refl _) (fun c10 => ?_) (fun c10 => ?_)
      · replace hF := hF.trans (if_pos c10)
        exact jn21 [] ls hB (lv_sub hl [0] rfl) hF
      · replace hF := hF.trans (if_neg (Int.not_lt.mpr c10))
        refine lv_iload_n hx hb dX11_terms_13 rfl (lv_at hl 2 rfl) ?_
        refine lv_iload_n hx hb dX11_terms_14 rfl (lv_at hl 1 rfl) ?_
        refine th_call (th_runS (As := [.int p1]) (rest := [.int p2]) hC mf_X11_mostOfTerm km_X11_180 st_X11_mostOfTerm (c_X11_mostOfTerm l G Γ H0 hB.1 hU p1) rfl rfl ⟨Nat.le_of_ble_eq_true rfl, Nat.le_of_ble_eq_true rfl⟩ rfl hl.1 rfl (Nat.le_of_ble_eq_true rfl) dX11_terms_15 ⟨Nat.le_refl _, Nat.le_refl _⟩) hB.2.1 (fun v15 H15 locs hp hz hS => ?_)
        obtain ⟨x2, rfl, q15_0, rfl⟩ := hp
        have hB := th_B_s hB hS
        replace hF := hF.trans (dv_bn2 (q15_0))
        refine W.eq (g2 := F0 m 18 ls [.int x2, .int p2]) rfl ?_
        refine tr_icmp_le (tgt := 27) hx hb dX11_terms_18 (by decide) (Eq.refl _) (Eq.refl _) (fun c18 => ?_) (fun c18 => ?_)
        · replace hF := hF.trans (if_pos c18)
          refine lv_aload_n hx hb dX11_terms_27 rfl (lv_at hl 0 rfl) ?_
          refine th_getR (j := 0) (r2 := 32) hC cf_X11 hB.1 h0 ro_42 rfl rfl kf_X11_12 dX11_terms_28 (fun b3 mb3 hb3 => ?_)
          replace hF := hF.trans (dv_bn (dv_getR h0 ro_42 (j := 0) rfl mb3 (by decide)))
          refine th_getR (j := 0) (r2 := 3) hC cf_X8 hB.1 hb3 ro_32 rfl rfl kf_X11_107 dX11_terms_31 (fun b4 mb4 hb4 => ?_)
          replace hF := hF.trans (dv_bn (dv_getR hb3 ro_32 (j := 0) rfl mb4 (by decide)))
          refine th_getO (j := 5) (r2 := 9) hC cf_X1 hB.1 hb4 ro_3 rfl rfl kf_X11_183 dX11_terms_34 (fun b5 mb5 hb5 => ?_)
          refine lv_iload_n hx hb dX11_terms_37 rfl (lv_at hl 1 rfl) ?_
          refine th_ialdF hC hB.1 hb5 ro_9 rfl (Eq.refl _) (by omega) (by omega) rfl dX11_terms_38 (fun x6 mx6 lx6 ux6 => ?_)
          replace hF := hF.trans (dv_bn (dv_aldI hB.1 hU hb5 ow_9 (z := p1.toInt) mx6 (by omega)))
          refine lv_istore_n (lv' := [(3, .int x6), (0, .ref a0), (1, .int p1), (2, .int p2)]) hx hb dX11_terms_39 rfl hl (by decide) rfl (fun ls hl => ?_)
          refine lv_aload_n hx hb dX11_terms_40 rfl (lv_at hl 1 rfl) ?_
          refine th_getK hC cf_X11 hB.1 h0 ro_42 rfl (j := 0) (by decide) mb3 kf_X11_12 dX11_terms_41 ?_
          replace hF := hF.trans (dv_bn (dv_getR h0 ro_42 (j := 0) rfl mb3 (by decide)))
          refine th_getK hC cf_X8 hB.1 hb3 ro_32 rfl (j := 0) (by decide) mb4 kf_X11_107 dX11_terms_44 ?_
          replace hF := hF.trans (dv_bn (dv_getR hb3 ro_32 (j := 0) rfl mb4 (by decide)))
          refine th_getK hC cf_X1 hB.1 hb4 ro_3 rfl (j := 5) (by decide) mb5 kf_X11_183 dX11_terms_47 ?_
          refine lv_iload_n hx hb dX11_terms_50 rfl (lv_at hl 2 rfl) ?_
          refine lv_iload_n hx hb dX11_terms_51 rfl (lv_at hl 3 rfl) ?_
          have hIo := hB.1
          refine th_iastF hC hB hb5 (Or.inl hb5) ro_9 rfl (by decide) (Eq.refl _) (by omega) (by omega) th_sIa dX11_terms_52 (fun H52 locs hB hf52 hst52 => ?_)
          have hf := hf52
          have mm7 := (th_F_o hf h0 ro_42 (j := 0) (by decide) (by decide)).trans mb3
          have mm8 := (th_F_o hf hb3 ro_32 (j := 0) (by decide) (by decide)).trans mb4
          have mm9 := (th_F_o hf hb4 ro_3 (j := 5) (by decide) (by decide)).trans mb5
          have hR := th_RC_F hB.1 hR hf (th_T_s hb5 ro_9 hst52) (by decide)
          replace hF := hF.trans (dv_bn (dv_stoI hIo hB.1 hU hb5 ow_9 (i := p1.toInt) hst52 (Eq.refl _) (by omega)))
          refine lv_aload_n hx hb dX11_terms_53 rfl (lv_at hl 1 rfl) ?_
          refine th_getR (j := 10) (r2 := 17) hC cf_X11 hB.1 h0 ro_42 rfl rfl kf_X11_72 dX11_terms_54 (fun b10 mb10 hb10 => ?_)
          replace hF := hF.trans (dv_bn (dv_getR h0 ro_42 (j := 10) rfl mb10 (by decide)))
          refine th_call (th_runV (As := []) (rest := []) hC mf_X4_clear km_X11_114 im_X4_clear se_X4_clear (c_X4_clear l G Γ H52 hB.1 hR hU b10 hb10) rfl rfl ⟨Nat.le_of_ble_eq_true rfl, Nat.le_of_ble_eq_true rfl⟩ hB.1 hb10 ro_17 rfl rfl hl.1 rfl (Nat.le_of_ble_eq_true rfl) dX11_terms_57 ⟨Nat.le_refl _, Nat.le_refl _⟩) hB.2.1 (fun v57 H57 locs hp hz hS => ?_)
          obtain ⟨rfl, hI1, hf, hR, z57_0⟩ := hp
          have hB := th_B_c hB hI1 hS hf (by decide)
          have mm11 := (th_F_o hf h0 ro_42 (j := 0) (by decide) (by decide)).trans mm7
          have mm12 := (th_F_o hf hb3 ro_32 (j := 0) (by decide) (by decide)).trans mm8
          have mm13 := (th_F_o hf hb4 ro_3 (j := 5) (by decide) (by decide)).trans mm9
          replace hF := hF.trans (dv_bn2 (z57_0))
          refine W.eq (g2 := F0 m 60 ls []) rfl ?_
          refine lv_aload_n hx hb dX11_terms_60 rfl (lv_at hl 1 rfl) ?_
          refine lv_iload_n hx hb dX11_terms_61 rfl (lv_at hl 0 rfl) ?_
          refine th_call (th_runV (As := [.int x6]) (rest := []) hC mf_X11_answer km_X11_117 im_X11_answer se_X11_answer (c_X11_answer l G Γ H57 hB.1 hR hU a0 h0 x6) rfl rfl ⟨Nat.le_of_ble_eq_true rfl, Nat.le_of_ble_eq_true rfl⟩ hB.1 h0 ro_42 rfl rfl hl.1 rfl (Nat.le_of_ble_eq_true rfl) dX11_terms_62 ⟨Nat.le_refl _, Nat.le_refl _⟩) hB.2.1 (fun v62 H62 locs hp hz hS => ?_)
          obtain ⟨x14, rfl, q62_0, hI1, hf, hR, z62_0⟩ := hp
          have hB := th_B_c hB hI1 hS hf (by decide)
          have mm15 := (th_F_o hf h0 ro_42 (j := 0) (by decide) (by decide)).trans mm11
          have mm16 := (th_F_o hf hb3 ro_32 (j := 0) (by decide) (by decide)).trans mm12
          have mm17 := (th_F_o hf hb4 ro_3 (j := 5) (by decide) (by decide)).trans mm13
          replace hF := hF.trans (dv_bn2 (z62_0))
          refine W.eq (g2 := F0 m 65 ls [.int x14]) rfl ?_
          exact th_iret hC hH hr hlocks rfl hB.2.1 ⟨_, rfl, hB.1, hB.2.2, hR, (hF0.symm.trans hF)⟩ dX11_terms_65
        · replace hF := hF.trans (if_neg (Int.not_le.mpr c18))
          exact jn21 locs ls hB (lv_sub hl [0] rfl) hF

set_option maxHeartbeats 4000000 in
set_option maxRecDepth 100000 in
theorem c_X11_feed (l : Launch) (G : th_G) (Γ : th_Ga) (H0 : Heap) (hI : th_I G Γ H0) (hR : th_RC G Γ H0) (hU : dv_U Γ) (a0 : Nat) (h0 : Γ a0 = (42, 0)) (p1 : Int32) (p2 : Int32) (p3 : Int32) (p4 : Int32) (p5 : Int32) : Met l yX11_feed (.code yX11_feed cX11_feed 6 (some FieldType.int) :: th_tb) ({ frames := 1, cells := 0, slots := 0, locals := 22 } : Room) (th_P [.ref a0, .int p1, .int p2, .int p3, .int p4, .int p5] G H0) (th_Q (fun (v : Option Value) (H1 : Heap) => ∃ r : Int32, v = some (.int r) ∧ th_I G Γ H1 ∧ th_F G Γ [(38, 0), (37, 1)] H0 H1 ∧ th_RC G Γ H1 ∧ (f_X11_feed (dv G Γ H0) (a0 : Int) p1.toInt p2.toInt p3.toInt p4.toInt p5.toInt = (dv G Γ H1, r.toInt))) G) 0 0 (fun q => G.2.2 ≤ q) := by
  refine th_met RX11 (by decide) rfl (Nat.le_of_ble_eq_true rfl) ?_
  intro p e s m below meth c hC hH hr hlocks hnm ls hl
  have hx := hC.1
  have hb := hC.2.1
  have hB : th_B G Γ Γ [(38, 0), (37, 1)] H0 H0 [] := ⟨hI, va_S.rf, th_F_rf⟩
  have hl : lv_has ls 6 [(0, .ref a0), (1, .int p1), (2, .int p2), (3, .int p3), (4, .int p4), (5, .int p5)] := hl
  have lp1 := ti_lo p1; have up1 := ti_hi p1
  have lp2 := ti_lo p2; have up2 := ti_hi p2
  have lp3 := ti_lo p3; have up3 := ti_hi p3
  have lp4 := ti_lo p4; have up4 := ti_hi p4
  have lp5 := ti_lo p5; have up5 := ti_hi p5
  obtain ⟨F, hF0⟩ : ∃ F, F = f_X11_feed (dv G Γ H0) ((a0 : Int)) (p1.toInt) (p2.toInt) (p3.toInt) (p4.toInt) (p5.toInt) := ⟨_, rfl⟩
  have hF := hF0.trans (f_X11_feed.eq_1 (dv G Γ H0) ((a0 : Int)) (p1.toInt) (p2.toInt) (p3.toInt) (p4.toInt) (p5.toInt))
  refine lv_aload_n hx hb dX11_feed_0 rfl (lv_at hl 0 rfl) ?_
  refine th_getR (j := 5) (r2 := 37) hC cf_X11 hB.1 h0 ro_42 rfl rfl kf_X11_37 dX11_feed_1 (fun b1 mb1 hb1 => ?_)
  replace hF := hF.trans (dv_bn (dv_getR h0 ro_42 (j := 5) rfl mb1 (by decide)))
  refine th_getI (j := 1) hC cf_X9 hB.1 hb1 ro_37 rfl rfl kf_X11_186 dX11_feed_4 (fun x2 mx2 lx2 ux2 => ?_)
  replace hF := hF.trans (dv_bn (dv_getI hb1 ro_37 (j := 1) rfl mx2 (by decide)))
  refine lv_bipush (v := 20) hx hb dX11_feed_7 (by decide) ?_
  refine tr_iadd hx hb dX11_feed_9 (Eq.refl _) tk_20 (by omega) (by omega) (fun x3 ex3 => ?_)
  replace hF := hF.trans (dv_bn (ex3.symm))
  refine lv_sipush (v := 400) hx hb dX11_feed_10 (by decide) ?_
  refine tr_icmp_le (tgt := 18) hx hb dX11_feed_13 (by decide) (Eq.refl _) tk_400 (fun c13 => ?_) (fun c13 => ?_)
  · replace hF := hF.trans (if_pos c13)
    refine lv_aload_n hx hb dX11_feed_18 rfl (lv_at hl 0 rfl) ?_
    refine th_getK hC cf_X11 hB.1 h0 ro_42 rfl (j := 5) (by decide) mb1 kf_X11_37 dX11_feed_19 ?_
    replace hF := hF.trans (dv_bn (dv_getR h0 ro_42 (j := 5) rfl mb1 (by decide)))
    refine lv_iload_n hx hb dX11_feed_22 rfl (lv_at hl 1 rfl) ?_
    refine th_call (th_runV (As := [.int p1]) (rest := []) hC mf_X9_addFour km_X11_189 im_X9_addFour se_X9_addFour (c_X9_addFour l G Γ H0 hB.1 hR hU b1 hb1 p1) rfl rfl ⟨Nat.le_of_ble_eq_true rfl, Nat.le_of_ble_eq_true rfl⟩ hB.1 hb1 ro_37 rfl rfl hl.1 rfl (Nat.le_of_ble_eq_true rfl) dX11_feed_23 ⟨Nat.le_refl _, Nat.le_refl _⟩) hB.2.1 (fun v23 H23 locs hp hz hS => ?_)
    obtain ⟨rfl, hI1, hf, hR, z23_0⟩ := hp
    have hB := th_B_c hB hI1 hS hf (by decide)
    have mm4 := (th_F_o hf h0 ro_42 (j := 5) (by decide) (by decide)).trans mb1
    replace hF := hF.trans (dv_bn2 (z23_0))
    refine W.eq (g2 := F0 m 26 ls []) rfl ?_
    refine lv_aload_n hx hb dX11_feed_26 rfl (lv_at hl 0 rfl) ?_
    refine th_getK hC cf_X11 hB.1 h0 ro_42 rfl (j := 5) (by decide) mm4 kf_X11_37 dX11_feed_27 ?_
    replace hF := hF.trans (dv_bn (dv_getR h0 ro_42 (j := 5) rfl mm4 (by decide)))
    refine lv_iload_n hx hb dX11_feed_30 rfl (lv_at hl 2 rfl) ?_
    refine th_call (th_runV (As := [.int p2]) (rest := []) hC mf_X9_addFour km_X11_189 im_X9_addFour se_X9_addFour (c_X9_addFour l G Γ H23 hB.1 hR hU b1 hb1 p2) rfl rfl ⟨Nat.le_of_ble_eq_true rfl, Nat.le_of_ble_eq_true rfl⟩ hB.1 hb1 ro_37 rfl rfl hl.1 rfl (Nat.le_of_ble_eq_true rfl) dX11_feed_31 ⟨Nat.le_refl _, Nat.le_refl _⟩) hB.2.1 (fun v31 H31 locs hp hz hS => ?_)
    obtain ⟨rfl, hI1, hf, hR, z31_0⟩ := hp
    have hB := th_B_c hB hI1 hS hf (by decide)
    have mm5 := (th_F_o hf h0 ro_42 (j := 5) (by decide) (by decide)).trans mm4
    replace hF := hF.trans (dv_bn2 (z31_0))
    refine W.eq (g2 := F0 m 34 ls []) rfl ?_
    refine lv_aload_n hx hb dX11_feed_34 rfl (lv_at hl 0 rfl) ?_
    refine th_getK hC cf_X11 hB.1 h0 ro_42 rfl (j := 5) (by decide) mm5 kf_X11_37 dX11_feed_35 ?_
    replace hF := hF.trans (dv_bn (dv_getR h0 ro_42 (j := 5) rfl mm5 (by decide)))
    refine lv_iload_n hx hb dX11_feed_38 rfl (lv_at hl 3 rfl) ?_
    refine th_call (th_runV (As := [.int p3]) (rest := []) hC mf_X9_addFour km_X11_189 im_X9_addFour se_X9_addFour (c_X9_addFour l G Γ H31 hB.1 hR hU b1 hb1 p3) rfl rfl ⟨Nat.le_of_ble_eq_true rfl, Nat.le_of_ble_eq_true rfl⟩ hB.1 hb1 ro_37 rfl rfl hl.1 rfl (Nat.le_of_ble_eq_true rfl) dX11_feed_39 ⟨Nat.le_refl _, Nat.le_refl _⟩) hB.2.1 (fun v39 H39 locs hp hz hS => ?_)
    obtain ⟨rfl, hI1, hf, hR, z39_0⟩ := hp
    have hB := th_B_c hB hI1 hS hf (by decide)
    have mm6 := (th_F_o hf h0 ro_42 (j := 5) (by decide) (by decide)).trans mm5
    replace hF := hF.trans (dv_bn2 (z39_0))
    refine W.eq (g2 := F0 m 42 ls []) rfl ?_
    refine lv_aload_n hx hb dX11_feed_42 rfl (lv_at hl 0 rfl) ?_
    refine th_getK hC cf_X11 hB.1 h0 ro_42 rfl (j := 5) (by decide) mm6 kf_X11_37 dX11_feed_43 ?_
    replace hF := hF.trans (dv_bn (dv_getR h0 ro_42 (j := 5) rfl mm6 (by decide)))
    refine lv_iload hx hb dX11_feed_46 (lv_at hl 4 rfl) ?_
    refine th_call (th_runV (As := [.int p4]) (rest := []) hC mf_X9_addFour km_X11_189 im_X9_addFour se_X9_addFour (c_X9_addFour l G Γ H39 hB.1 hR hU b1 hb1 p4) rfl rfl ⟨Nat.le_of_ble_eq_true rfl, Nat.le_of_ble_eq_true rfl⟩ hB.1 hb1 ro_37 rfl rfl hl.1 rfl (Nat.le_of_ble_eq_true rfl) dX11_feed_48 ⟨Nat.le_refl _, Nat.le_refl _⟩) hB.2.1 (fun v48 H48 locs hp hz hS => ?_)
    obtain ⟨rfl, hI1, hf, hR, z48_0⟩ := hp
    have hB := th_B_c hB hI1 hS hf (by decide)
    have mm7 := (th_F_o hf h0 ro_42 (j := 5) (by decide) (by decide)).trans mm6
    replace hF := hF.trans (dv_bn2 (z48_0))
    refine W.eq (g2 := F0 m 51 ls []) rfl ?_
    refine lv_aload_n hx hb dX11_feed_51 rfl (lv_at hl 0 rfl) ?_
    refine th_getK hC cf_X11 hB.1 h0 ro_42 rfl (j := 5) (by decide) mm7 kf_X11_37 dX11_feed_52 ?_
    replace hF := hF.trans (dv_bn (dv_getR h0 ro_42 (j := 5) rfl mm7 (by decide)))
    refine lv_iload hx hb dX11_feed_55 (lv_at hl 5 rfl) ?_
    refine th_call (th_runV (As := [.int p5]) (rest := []) hC mf_X9_addFour km_X11_189 im_X9_addFour se_X9_addFour (c_X9_addFour l G Γ H48 hB.1 hR hU b1 hb1 p5) rfl rfl ⟨Nat.le_of_ble_eq_true rfl, Nat.le_of_ble_eq_true rfl⟩ hB.1 hb1 ro_37 rfl rfl hl.1 rfl (Nat.le_of_ble_eq_true rfl) dX11_feed_57 ⟨Nat.le_refl _, Nat.le_refl _⟩) hB.2.1 (fun v57 H57 locs hp hz hS => ?_)
    obtain ⟨rfl, hI1, hf, hR, z57_0⟩ := hp
    have hB := th_B_c hB hI1 hS hf (by decide)
    have mm8 := (th_F_o hf h0 ro_42 (j := 5) (by decide) (by decide)).trans mm7
    replace hF := hF.trans (dv_bn2 (z57_0))
    refine W.eq (g2 := F0 m 60 ls []) rfl ?_
    refine lv_aload_n hx hb dX11_feed_60 rfl (lv_at hl 0 rfl) ?_
    refine th_getK hC cf_X11 hB.1 h0 ro_42 rfl (j := 5) (by decide) mm8 kf_X11_37 dX11_feed_61 ?_
    replace hF := hF.trans (dv_bn (dv_getR h0 ro_42 (j := 5) rfl mm8 (by decide)))
    refine th_getI (j := 1) hC cf_X9 hB.1 hb1 ro_37 rfl rfl kf_X11_186 dX11_feed_64 (fun x9 mx9 lx9 ux9 => ?_)
    replace hF := hF.trans (dv_bn (dv_getI hb1 ro_37 (j := 1) rfl mx9 (by decide)))
    exact th_iret hC hH hr hlocks rfl hB.2.1 ⟨_, rfl, hB.1, hB.2.2, hR, (hF0.symm.trans hF)⟩ dX11_feed_67
  · replace hF := hF.trans (if_neg (Int.not_le.mpr c13))
    refine lv_iconst (v := (-1)) hx hb dX11_feed_16 (by decide) ?_
    exact th_iret hC hH hr hlocks rfl hB.2.1 ⟨_, rfl, hB.1, hB.2.2, hR, (hF0.symm.trans (hF.trans (by rw [tk_m1])))⟩ dX11_feed_17

set_option maxHeartbeats 4000000 in
set_option maxRecDepth 100000 in
theorem c_X11_end (l : Launch) (G : th_G) (Γ : th_Ga) (H0 : Heap) (hI : th_I G Γ H0) (hR : th_RC G Γ H0) (hU : dv_U Γ) (a0 : Nat) (h0 : Γ a0 = (42, 0)) (p1 : Int32) : Met l yX11_end (.code yX11_end cX11_end 2 (some FieldType.int) :: th_tb) ({ frames := 0, cells := 0, slots := 0, locals := 0 } : Room) (th_P [.ref a0, .int p1] G H0) (th_Q (fun (v : Option Value) (H1 : Heap) => ∃ r : Int32, v = some (.int r) ∧ th_I G Γ H1 ∧ th_F G Γ [(37, 1)] H0 H1 ∧ th_RC G Γ H1 ∧ (f_X11_end (dv G Γ H0) (a0 : Int) p1.toInt = (dv G Γ H1, r.toInt))) G) 0 0 (fun q => G.2.2 ≤ q) := by
  refine th_met RX11 (by decide) rfl (Nat.le_of_ble_eq_true rfl) ?_
  intro p e s m below meth c hC hH hr hlocks hnm ls hl
  have hx := hC.1
  have hb := hC.2.1
  have hB : th_B G Γ Γ [(37, 1)] H0 H0 [] := ⟨hI, va_S.rf, th_F_rf⟩
  have hl : lv_has ls 2 [(0, .ref a0), (1, .int p1)] := hl
  have lp1 := ti_lo p1; have up1 := ti_hi p1
  obtain ⟨F, hF0⟩ : ∃ F, F = f_X11_end (dv G Γ H0) ((a0 : Int)) (p1.toInt) := ⟨_, rfl⟩
  have hF := hF0.trans (f_X11_end.eq_1 (dv G Γ H0) ((a0 : Int)) (p1.toInt))
  refine lv_iload_n hx hb dX11_end_0 rfl (lv_at hl 1 rfl) ?_
  refine tr_if_lt (tgt := 15) hx hb dX11_end_1 (by decide) (Eq.refl _) (fun c1 => ?_) (fun c1 => ?_)
  · replace hF := hF.trans (if_pos c1)
    refine lv_iconst (v := (-1)) hx hb dX11_end_15 (by decide) ?_
    exact th_iret hC hH hr hlocks rfl hB.2.1 ⟨_, rfl, hB.1, hB.2.2, hR, (hF0.symm.trans (hF.trans (by rw [tk_m1])))⟩ dX11_end_16
  · replace hF := hF.trans (if_neg (Int.not_lt.mpr c1))
    refine lv_iload_n hx hb dX11_end_4 rfl (lv_at hl 1 rfl) ?_
    refine lv_aload_n hx hb dX11_end_5 rfl (lv_at hl 0 rfl) ?_
    refine th_getR (j := 5) (r2 := 37) hC cf_X11 hB.1 h0 ro_42 rfl rfl kf_X11_37 dX11_end_6 (fun b1 mb1 hb1 => ?_)
    replace hF := hF.trans (dv_bn (dv_getR h0 ro_42 (j := 5) rfl mb1 (by decide)))
    refine th_getI (j := 1) hC cf_X9 hB.1 hb1 ro_37 rfl rfl kf_X11_186 dX11_end_9 (fun x2 mx2 lx2 ux2 => ?_)
    replace hF := hF.trans (dv_bn (dv_getI hb1 ro_37 (j := 1) rfl mx2 (by decide)))
    refine tr_icmp_le (tgt := 17) hx hb dX11_end_12 (by decide) (Eq.refl _) (Eq.refl _) (fun c12 => ?_) (fun c12 => ?_)
    · replace hF := hF.trans (if_pos c12)
      refine lv_aload_n hx hb dX11_end_17 rfl (lv_at hl 0 rfl) ?_
      refine th_getK hC cf_X11 hB.1 h0 ro_42 rfl (j := 5) (by decide) mb1 kf_X11_37 dX11_end_18 ?_
      replace hF := hF.trans (dv_bn (dv_getR h0 ro_42 (j := 5) rfl mb1 (by decide)))
      refine lv_iload_n hx hb dX11_end_21 rfl (lv_at hl 1 rfl) ?_
      refine th_put hC cf_X9 hB hb1 (Or.inl hb1) ro_37 rfl (j := 1) rfl (th_sI (by omega) (by omega)) (by decide) rfl rfl rfl kf_X11_186 dX11_end_22 (fun H22 locs hB hf hst22 => ?_)
      have mm3 := (th_F_o hf h0 ro_42 (j := 5) (by decide) (by decide)).trans mb1
      have hR := th_RC_F hB.1 hR hf (th_T_s hb1 ro_37 hst22) (by decide)
      replace hF := hF.trans (dv_bn (dv_putI hB.1 hb1 ro_37 (j := 1) rfl (th_apart hC cf_X9) hst22 (Eq.refl _) (by decide)))
      refine lv_iload_n hx hb dX11_end_25 rfl (lv_at hl 1 rfl) ?_
      exact th_iret hC hH hr hlocks rfl hB.2.1 ⟨_, rfl, hB.1, hB.2.2, hR, (hF0.symm.trans hF)⟩ dX11_end_26
    · replace hF := hF.trans (if_neg (Int.not_le.mpr c12))
      refine lv_iconst (v := (-1)) hx hb dX11_end_15 (by decide) ?_
      exact th_iret hC hH hr hlocks rfl hB.2.1 ⟨_, rfl, hB.1, hB.2.2, hR, (hF0.symm.trans (hF.trans (by rw [tk_m1])))⟩ dX11_end_16

set_option maxHeartbeats 4000000 in
set_option maxRecDepth 100000 in
theorem c_X11_row (l : Launch) (G : th_G) (Γ : th_Ga) (H0 : Heap) (hI : th_I G Γ H0) (hR : th_RC G Γ H0) (hU : dv_U Γ) (a0 : Nat) (h0 : Γ a0 = (42, 0)) : Met l yX11_row (.code yX11_row cX11_row 4 (some FieldType.int) :: th_tb) ({ frames := 1, cells := 0, slots := 0, locals := 23 } : Room) (th_P [.ref a0] G H0) (th_Q (fun (v : Option Value) (H1 : Heap) => ∃ r : Int32, v = some (.int r) ∧ th_I G Γ H1 ∧ th_F G Γ [(45, 0), (42, 14), (4, 0), (5, 0), (6, 0), (3, 7), (17, 4), (37, 1), (42, 16), (7, 0), (8, 0)] H0 H1 ∧ th_RC G Γ H1 ∧ (f_X11_row (dv G Γ H0) (a0 : Int) = (dv G Γ H1, r.toInt))) G) 0 0 (fun q => G.2.2 ≤ q) := by
  refine th_met RX11 (by decide) rfl (Nat.le_of_ble_eq_true rfl) ?_
  intro p e s m below meth c hC hH hr hlocks hnm ls hl
  have hx := hC.1
  have hb := hC.2.1
  have hB : th_B G Γ Γ [(45, 0), (42, 14), (4, 0), (5, 0), (6, 0), (3, 7), (17, 4), (37, 1), (42, 16), (7, 0), (8, 0)] H0 H0 [] := ⟨hI, va_S.rf, th_F_rf⟩
  have hl : lv_has ls 4 [(0, .ref a0)] := hl
  obtain ⟨F, hF0⟩ : ∃ F, F = f_X11_row (dv G Γ H0) ((a0 : Int)) := ⟨_, rfl⟩
  have hF := hF0.trans (f_X11_row.eq_1 (dv G Γ H0) ((a0 : Int)))
  refine lv_aload_n hx hb dX11_row_0 rfl (lv_at hl 0 rfl) ?_
  refine th_getR (j := 5) (r2 := 37) hC cf_X11 hB.1 h0 ro_42 rfl rfl kf_X11_37 dX11_row_1 (fun b1 mb1 hb1 => ?_)
  replace hF := hF.trans (dv_bn (dv_getR h0 ro_42 (j := 5) rfl mb1 (by decide)))
  refine th_getI (j := 1) hC cf_X9 hB.1 hb1 ro_37 rfl rfl kf_X11_186 dX11_row_4 (fun x2 mx2 lx2 ux2 => ?_)
  replace hF := hF.trans (dv_bn (dv_getI hb1 ro_37 (j := 1) rfl mx2 (by decide)))
  refine tr_if_ne (tgt := 17) hx hb dX11_row_7 (by decide) (Eq.refl _) (fun c7 => ?_) (fun c7 => ?_)
  · replace hF := hF.trans (if_pos c7)
    refine lv_iconst (v := 0) hx hb dX11_row_17 (by decide) ?_
    refine lv_istore_n (lv' := [(1, .int 0), (0, .ref a0)]) hx hb dX11_row_18 rfl hl (by decide) rfl (fun ls hl => ?_)
    refine lv_iconst (v := 0) hx hb dX11_row_19 (by decide) ?_
    refine lv_istore_n (lv' := [(2, .int 0), (1, .int 0), (0, .ref a0)]) hx hb dX11_row_20 rfl hl (by decide) rfl (fun ls hl => ?_)
    refine lv_iconst (v := 0) hx hb dX11_row_21 (by decide) ?_
    refine lv_istore_n (lv' := [(3, .int 0), (2, .int 0), (1, .int 0), (0, .ref a0)]) hx hb dX11_row_22 rfl hl (by decide) rfl (fun ls hl => ?_)
    have lp23 : ∀ (n23 : Nat) (H23 : Heap) (locs : List Loc) (ls : Array Slot) (j23_1 : Int32) (j23_2 : Int32) (j23_3 : Int32), th_B G Γ Γ [(45, 0), (42, 14), (4, 0), (5, 0), (6, 0), (3, 7), (17, 4), (37, 1), (42, 16), (7, 0), (8, 0)] H0 H23 locs → th_RC G Γ H23 → lv_has ls 4 [(0, .ref a0), (1, .int j23_1), (2, .int j23_2), (3, .int j23_3)] → F = dv_lp f_X11_row_23b (dv G Γ H23, (a0 : Int), j23_1.toInt, j23_2.toInt, j23_3.toInt) → 0 ≤ j23_3.toInt → j23_3.toInt ≤ 479 → th_sl H23 b1 (G.1.2 9 1) = .int x2 → (2147483648 : Int) - j23_3.toInt ≤ (n23 : Int) → W p l e ({ frames := 1, cells := 0, slots := 0, locals := 23 } : Room) s m ([.ref a0] : List Value).toArray below meth c H23 locs 0 0 (MQ below (th_Q (fun (v : Option Value) (H1 : Heap) => ∃ r : Int32, v = some (.int r) ∧ th_I G Γ H1 ∧ th_F G Γ [(45, 0), (42, 14), (4, 0), (5, 0), (6, 0), (3, 7), (17, 4), (37, 1), (42, 16), (7, 0), (8, 0)] H0 H1 ∧ th_RC G Γ H1 ∧ (f_X11_row (dv G Γ H0) (a0 : Int) = (dv G Γ H1, r.toInt))) G) ([.ref a0] : List Value).toArray s 0 0 (fun q => G.2.2 ≤ q)) (F0 m 23 ls []) := by
      intro n23
      induction n23 with
      | zero => intro H23 locs ls j23_1 j23_2 j23_3 hB hR hl hF g23_0 g23_1 g23_2 hm23; exact absurd hm23 (by have := ti_hi j23_3; omega)
      | succ n23 ih23 =>
        intro H23 locs ls j23_1 j23_2 j23_3 hB hR hl hF g23_0 g23_1 g23_2 hm23
        have lj23_1 := ti_lo j23_1; have uj23_1 := ti_hi j23_1
        have lj23_2 := ti_lo j23_2; have uj23_2 := ti_hi j23_2
        have lj23_3 := ti_lo j23_3; have uj23_3 := ti_hi j23_3
        have mm3 := (th_F_o hB.2.2 h0 ro_42 (j := 5) (by decide) (by decide)).trans mb1
        have hm23 : (2147483648 : Int) - j23_3.toInt ≤ (n23 : Int) + 1 := by omega
        replace hF := hF.trans (dv_lp_eq)
        replace hF := hF.trans (congrArg (dv_k f_X11_row_23b) (f_X11_row_23c.eq_1 (dv G Γ H23) ((a0 : Int)) (j23_1.toInt) (j23_2.toInt) (j23_3.toInt)))
        refine lv_iload_n hx hb dX11_row_23 rfl (lv_at hl 3 rfl) ?_
        refine lv_aload_n hx hb dX11_row_24 rfl (lv_at hl 0 rfl) ?_
        refine th_getK hC cf_X11 hB.1 h0 ro_42 rfl (j := 5) (by decide) mm3 kf_X11_37 dX11_row_25 ?_
        replace hF := hF.trans (congrArg (dv_k f_X11_row_23b) (dv_bn (dv_getR h0 ro_42 (j := 5) rfl mm3 (by decide))))
        refine th_getK hC cf_X9 hB.1 hb1 ro_37 rfl (j := 1) (by decide) g23_2 kf_X11_186 dX11_row_28 ?_
        replace hF := hF.trans (congrArg (dv_k f_X11_row_23b) (dv_bn (dv_getI hb1 ro_37 (j := 1) rfl g23_2 (by decide))))
        refine tr_icmp_ge (tgt := 106) hx hb dX11_row_31 (by decide) (Eq.refl _) (Eq.refl _) (fun c31 => ?_) (fun c31 => ?_)
        · replace hF := hF.trans (congrArg (dv_k f_X11_row_23b) (if_pos c31))
          refine lv_aload_n hx hb dX11_row_106 rfl (lv_at hl 0 rfl) ?_
          refine lv_iload_n hx hb dX11_row_107 rfl (lv_at hl 2 rfl) ?_
          refine th_put hC cf_X11 hB h0 (Or.inl h0) ro_42 rfl (j := 16) rfl th_sIa (by decide) rfl rfl rfl kf_X11_101 dX11_row_108 (fun H108 locs hB hf hst108 => ?_)
          have mm4 := (th_F_o hf hb1 ro_37 (j := 1) (by decide) (by decide)).trans g23_2
          have mm5 := (th_F_o hf h0 ro_42 (j := 5) (by decide) (by decide)).trans mm3
          have hR := th_RC_F hB.1 hR hf (th_T_s h0 ro_42 hst108) (by decide)
          replace hF := hF.trans (congrArg (dv_k f_X11_row_23b) (dv_bn (dv_putI hB.1 h0 ro_42 (j := 16) rfl (th_apart hC cf_X11) hst108 (Eq.refl _) (by decide))))
          refine lv_aload_n hx hb dX11_row_111 rfl (lv_at hl 0 rfl) ?_
          refine th_getK hC cf_X11 hB.1 h0 ro_42 rfl (j := 5) (by decide) mm5 kf_X11_37 dX11_row_112 ?_
          replace hF := hF.trans (congrArg (dv_k f_X11_row_23b) (dv_bn (dv_getR h0 ro_42 (j := 5) rfl mm5 (by decide))))
          refine lv_iconst (v := 0) hx hb dX11_row_115 (by decide) ?_
          refine th_put hC cf_X9 hB hb1 (Or.inl hb1) ro_37 rfl (j := 1) rfl (th_sI (by decide) (by decide)) (by decide) rfl rfl rfl kf_X11_186 dX11_row_116 (fun H116 locs hB hf hst116 => ?_)
          have mm6 := (th_F_o hf h0 ro_42 (j := 5) (by decide) (by decide)).trans mm5
          have hR := th_RC_F hB.1 hR hf (th_T_s hb1 ro_37 hst116) (by decide)
          replace hF := hF.trans (congrArg (dv_k f_X11_row_23b) (dv_bn (dv_putI hB.1 hb1 ro_37 (j := 1) rfl (th_apart hC cf_X9) hst116 tk_0 (by decide))))
          refine lv_aload_n hx hb dX11_row_119 rfl (lv_at hl 0 rfl) ?_
          refine th_getR (j := 10) (r2 := 17) hC cf_X11 hB.1 h0 ro_42 rfl rfl kf_X11_72 dX11_row_120 (fun b7 mb7 hb7 => ?_)
          replace hF := hF.trans (congrArg (dv_k f_X11_row_23b) (dv_bn (dv_getR h0 ro_42 (j := 10) rfl mb7 (by decide))))
          refine th_call (th_runV (As := []) (rest := []) hC mf_X4_clear km_X11_114 im_X4_clear se_X4_clear (c_X4_clear l G Γ H116 hB.1 hR hU b7 hb7) rfl rfl ⟨Nat.le_of_ble_eq_true rfl, Nat.le_of_ble_eq_true rfl⟩ hB.1 hb7 ro_17 rfl rfl hl.1 rfl (Nat.le_of_ble_eq_true rfl) dX11_row_123 ⟨Nat.le_refl _, Nat.le_refl _⟩) hB.2.1 (fun v123 H123 locs hp hz hS => ?_)
          obtain ⟨rfl, hI1, hf, hR, z123_0⟩ := hp
          have hB := th_B_c hB hI1 hS hf (by decide)
          have mm8 := (th_F_o hf h0 ro_42 (j := 5) (by decide) (by decide)).trans mm6
          replace hF := hF.trans (congrArg (dv_k f_X11_row_23b) (dv_bn2 (z123_0)))
          refine W.eq (g2 := F0 m 126 ls []) rfl ?_
          refine lv_aload_n hx hb dX11_row_126 rfl (lv_at hl 0 rfl) ?_
          refine lv_iload_n hx hb dX11_row_127 rfl (lv_at hl 1 rfl) ?_
          refine th_call (th_runV (As := [.int j23_1]) (rest := []) hC mf_X11_answer km_X11_117 im_X11_answer se_X11_answer (c_X11_answer l G Γ H123 hB.1 hR hU a0 h0 j23_1) rfl rfl ⟨Nat.le_of_ble_eq_true rfl, Nat.le_of_ble_eq_true rfl⟩ hB.1 h0 ro_42 rfl rfl hl.1 rfl (Nat.le_of_ble_eq_true rfl) dX11_row_128 ⟨Nat.le_refl _, Nat.le_refl _⟩) hB.2.1 (fun v128 H128 locs hp hz hS => ?_)
          obtain ⟨x9, rfl, q128_0, hI1, hf, hR, z128_0⟩ := hp
          have hB := th_B_c hB hI1 hS hf (by decide)
          have mm10 := (th_F_o hf h0 ro_42 (j := 5) (by decide) (by decide)).trans mm8
          replace hF := hF.trans (congrArg (dv_k f_X11_row_23b) (dv_bn2 (z128_0)))
          refine W.eq (g2 := F0 m 131 ls [.int x9]) rfl ?_
          replace hF := hF.trans (dv_kr)
          exact th_iret hC hH hr hlocks rfl hB.2.1 ⟨_, rfl, hB.1, hB.2.2, hR, (hF0.symm.trans hF)⟩ dX11_row_131
        · replace hF := hF.trans (congrArg (dv_k f_X11_row_23b) (if_neg (Int.not_le.mpr c31)))
          refine lv_iload_n hx hb dX11_row_34 rfl (lv_at hl 3 rfl) ?_
          refine lv_iconst (v := 2) hx hb dX11_row_35 (by decide) ?_
          refine tr_iadd hx hb dX11_row_36 (Eq.refl _) tk_2 (by omega) (by omega) (fun x11 ex11 => ?_)
          replace hF := hF.trans (congrArg (dv_k f_X11_row_23b) (dv_bn (ex11.symm)))
          refine lv_aload_n hx hb dX11_row_37 rfl (lv_at hl 0 rfl) ?_
          refine th_getK hC cf_X11 hB.1 h0 ro_42 rfl (j := 5) (by decide) mm3 kf_X11_37 dX11_row_38 ?_
          replace hF := hF.trans (congrArg (dv_k f_X11_row_23b) (dv_bn (dv_getR h0 ro_42 (j := 5) rfl mm3 (by decide))))
          refine th_getK hC cf_X9 hB.1 hb1 ro_37 rfl (j := 1) (by decide) g23_2 kf_X11_186 dX11_row_41 ?_
          replace hF := hF.trans (congrArg (dv_k f_X11_row_23b) (dv_bn (dv_getI hb1 ro_37 (j := 1) rfl g23_2 (by decide))))
          have jn100 : ∀ (H100 : Heap) (locs : List Loc) (ls : Array Slot) (j100_1 : Int32) (j100_2 : Int32), th_B G Γ Γ [(45, 0), (42, 14), (4, 0), (5, 0), (6, 0), (3, 7), (17, 4), (37, 1), (42, 16), (7, 0), (8, 0)] H0 H100 locs → th_RC G Γ H100 → lv_has ls 4 [(0, .ref a0), (3, .int j23_3), (1, .int j100_1), (2, .int j100_2)] → F = dv_k f_X11_row_23b (f_X11_row_100 (dv G Γ H100) ((a0 : Int)) (j23_3.toInt) (j100_1.toInt) (j100_2.toInt)) → th_sl H100 b1 (G.1.2 9 1) = .int x2 → W p l e ({ frames := 1, cells := 0, slots := 0, locals := 23 } : Room) s m ([.ref a0] : List Value).toArray below meth c H100 locs 0 0 (MQ below (th_Q (fun (v : Option Value) (H1 : Heap) => ∃ r : Int32, v = some (.int r) ∧ th_I G Γ H1 ∧ th_F G Γ [(45, 0), (42, 14), (4, 0), (5, 0), (6, 0), (3, 7), (17, 4), (37, 1), (42, 16), (7, 0), (8, 0)] H0 H1 ∧ th_RC G Γ H1 ∧ (f_X11_row (dv G Γ H0) (a0 : Int) = (dv G Γ H1, r.toInt))) G) ([.ref a0] : List Value).toArray s 0 0 (fun q => G.2.2 ≤ q)) (F0 m 100 ls []) := by
            intro H100 locs ls j100_1 j100_2 hB hR hl hF g100_0
            have lj100_1 := ti_lo j100_1; have uj100_1 := ti_hi j100_1
            have lj100_2 := ti_lo j100_2; have uj100_2 := ti_hi j100_2
            have mm12 := (th_F_o hB.2.2 h0 ro_42 (j := 5) (by decide) (by decide)).trans mb1
            replace hF := hF.trans (congrArg (dv_k f_X11_row_23b) (f_X11_row_100.eq_1 (dv G Γ H100) ((a0 : Int)) (j23_3.toInt) (j100_1.toInt) (j100_2.toInt)))
            refine tr_iinc (fun x13 => [(3, .int x13), (0, .ref a0), (1, .int j100_1), (2, .int j100_2)]) hx hb dX11_row_100 hl (k := 1) rfl (Eq.refl _) tk_3 (by omega) (by omega) (by decide) (fun _ => rfl) (fun x13 ls ex13 hl => ?_)
            replace hF := hF.trans (congrArg (dv_k f_X11_row_23b) (dv_bn (ex13.symm)))
            refine lv_goto (tgt := 23) hx hb dX11_row_103 (by decide) ?_
            replace hF := hF.trans (dv_kl)
            exact ih23 H100 locs ls j100_1 j100_2 x13 hB hR (lv_sub hl [1, 2, 3, 0] rfl) hF (by omega) (by omega) g100_0 (by omega)
          have jn97 : ∀ (H97 : Heap) (locs : List Loc) (ls : Array Slot) , th_B G Γ Γ [(45, 0), (42, 14), (4, 0), (5, 0), (6, 0), (3, 7), (17, 4), (37, 1), (42, 16), (7, 0), (8, 0)] H0 H97 locs → th_RC G Γ H97 → lv_has ls 4 [(0, .ref a0), (1, .int j23_1), (2, .int j23_2), (3, .int j23_3)] → F = dv_k f_X11_row_23b (f_X11_row_97 (dv G Γ H97) ((a0 : Int)) (j23_1.toInt) (j23_2.toInt) (j23_3.toInt)) → th_sl H97 b1 (G.1.2 9 1) = .int x2 → W p l e ({ frames := 1, cells := 0, slots := 0, locals := 23 } : Room) s m ([.ref a0] : List Value).toArray below meth c H97 locs 0 0 (MQ below (th_Q (fun (v : Option Value) (H1 : Heap) => ∃ r : Int32, v = some (.int r) ∧ th_I G Γ H1 ∧ th_F G Γ [(45, 0), (42, 14), (4, 0), (5, 0), (6, 0), (3, 7), (17, 4), (37, 1), (42, 16), (7, 0), (8, 0)] H0 H1 ∧ th_RC G Γ H1 ∧ (f_X11_row (dv G Γ H0) (a0 : Int) = (dv G Γ H1, r.toInt))) G) ([.ref a0] : List Value).toArray s 0 0 (fun q => G.2.2 ≤ q)) (F0 m 97 ls []) := by
            intro H97 locs ls hB hR hl hF g97_0
            have mm14 := (th_F_o hB.2.2 h0 ro_42 (j := 5) (by decide) (by decide)).trans mb1
            replace hF := hF.trans (congrArg (dv_k f_X11_row_23b) (f_X11_row_97.eq_1 (dv G Γ H97) ((a0 : Int)) (j23_1.toInt) (j23_2.toInt) (j23_3.toInt)))
            refine tr_iincE (fun x15 => [(2, .int x15), (0, .ref a0), (1, .int j23_1), (3, .int j23_3)]) hx hb dX11_row_97 hl (k := 2) rfl (Eq.refl _) (by decide) (fun _ => rfl) (fun x15 ls ex15 hl => ?_)
            have lx15 := ti_lo x15; have ux15 := ti_hi x15
            replace hF := hF.trans (congrArg (dv_k f_X11_row_23b) (dv_bn (ex15)))
            exact jn100 H97 locs ls j23_1 x15 hB hR (lv_sub hl [1, 3, 2, 0] rfl) hF g97_0
          refine tr_icmp_ge (tgt := 97) hx hb dX11_row_44 (by decide) (Eq.refl _) (Eq.refl _) (fun c44 => ?_) (fun c44 => ?_)
          · replace hF := hF.trans (congrArg (dv_k f_X11_row_23b) (if_pos c44))
            exact jn97 H23 locs ls hB hR (lv_sub hl [0, 1, 2, 3] rfl) hF g23_2
          · replace hF := hF.trans (congrArg (dv_k f_X11_row_23b) (if_neg (Int.not_le.mpr c44)))
            refine lv_aload_n hx hb dX11_row_47 rfl (lv_at hl 0 rfl) ?_
            refine th_getR (j := 0) (r2 := 32) hC cf_X11 hB.1 h0 ro_42 rfl rfl kf_X11_12 dX11_row_48 (fun b16 mb16 hb16 => ?_)
            replace hF := hF.trans (congrArg (dv_k f_X11_row_23b) (dv_bn (dv_getR h0 ro_42 (j := 0) rfl mb16 (by decide))))
            have sb16 := (th_F_o hB.2.2 h0 ro_42 (j := 0) (by decide) (by decide)).symm.trans mb16
            refine th_getR (j := 0) (r2 := 3) hC cf_X8 hB.1 hb16 ro_32 rfl rfl kf_X11_107 dX11_row_51 (fun b17 mb17 hb17 => ?_)
            replace hF := hF.trans (congrArg (dv_k f_X11_row_23b) (dv_bn (dv_getR hb16 ro_32 (j := 0) rfl mb17 (by decide))))
            have sb17 := (th_F_o hB.2.2 hb16 ro_32 (j := 0) (by decide) (by decide)).symm.trans mb17
            refine lv_aload_n hx hb dX11_row_54 rfl (lv_at hl 0 rfl) ?_
            refine th_getK hC cf_X11 hB.1 h0 ro_42 rfl (j := 5) (by decide) mm3 kf_X11_37 dX11_row_55 ?_
            replace hF := hF.trans (congrArg (dv_k f_X11_row_23b) (dv_bn (dv_getR h0 ro_42 (j := 5) rfl mm3 (by decide))))
            refine th_getO (j := 0) (r2 := 38) hC cf_X9 hB.1 hb1 ro_37 rfl rfl kf_X11_193 dX11_row_58 (fun b18 mb18 hb18 => ?_)
            have sb18 := (th_F_o hB.2.2 hb1 ro_37 (j := 0) (by decide) (by decide)).symm.trans mb18
            refine lv_iload_n hx hb dX11_row_61 rfl (lv_at hl 3 rfl) ?_
            refine th_ialdF hC hB.1 hb18 ro_38 rfl (Eq.refl _) (by omega) (by omega) rfl dX11_row_62 (fun x19 mx19 lx19 ux19 => ?_)
            replace hF := hF.trans (congrArg (dv_k f_X11_row_23b) (dv_bn (dv_aldI hB.1 hU hb18 ow_38 (z := j23_3.toInt) mx19 (by omega))))
            refine lv_aload_n hx hb dX11_row_63 rfl (lv_at hl 0 rfl) ?_
            refine th_getK hC cf_X11 hB.1 h0 ro_42 rfl (j := 5) (by decide) mm3 kf_X11_37 dX11_row_64 ?_
            replace hF := hF.trans (congrArg (dv_k f_X11_row_23b) (dv_bn (dv_getR h0 ro_42 (j := 5) rfl mm3 (by decide))))
            refine th_getK hC cf_X9 hB.1 hb1 ro_37 rfl (j := 0) (by decide) mb18 kf_X11_193 dX11_row_67 ?_
            refine lv_iload_n hx hb dX11_row_70 rfl (lv_at hl 3 rfl) ?_
            refine lv_iconst (v := 1) hx hb dX11_row_71 (by decide) ?_
            refine tr_iadd hx hb dX11_row_72 (Eq.refl _) tk_1 (by omega) (by omega) (fun x20 ex20 => ?_)
            replace hF := hF.trans (congrArg (dv_k f_X11_row_23b) (dv_bn (ex20.symm)))
            refine th_ialdF hC hB.1 hb18 ro_38 rfl (Eq.refl _) (by omega) (by omega) rfl dX11_row_73 (fun x21 mx21 lx21 ux21 => ?_)
            replace hF := hF.trans (congrArg (dv_k f_X11_row_23b) (dv_bn (dv_aldI hB.1 hU hb18 ow_38 (z := x20.toInt) mx21 (by omega))))
            refine lv_aload_n hx hb dX11_row_74 rfl (lv_at hl 0 rfl) ?_
            refine th_getK hC cf_X11 hB.1 h0 ro_42 rfl (j := 5) (by decide) mm3 kf_X11_37 dX11_row_75 ?_
            replace hF := hF.trans (congrArg (dv_k f_X11_row_23b) (dv_bn (dv_getR h0 ro_42 (j := 5) rfl mm3 (by decide))))
            refine th_getK hC cf_X9 hB.1 hb1 ro_37 rfl (j := 0) (by decide) mb18 kf_X11_193 dX11_row_78 ?_
            refine lv_iload_n hx hb dX11_row_81 rfl (lv_at hl 3 rfl) ?_
            refine lv_iconst (v := 2) hx hb dX11_row_82 (by decide) ?_
            refine tr_iadd hx hb dX11_row_83 (Eq.refl _) tk_2 (by omega) (by omega) (fun x22 ex22 => ?_)
            replace hF := hF.trans (congrArg (dv_k f_X11_row_23b) (dv_bn (ex22.symm)))
            refine th_ialdF hC hB.1 hb18 ro_38 rfl (Eq.refl _) (by omega) (by omega) rfl dX11_row_84 (fun x23 mx23 lx23 ux23 => ?_)
            replace hF := hF.trans (congrArg (dv_k f_X11_row_23b) (dv_bn (dv_aldI hB.1 hU hb18 ow_38 (z := x22.toInt) mx23 (by omega))))
            refine th_call (th_runV (As := [.int x19, .int x21, .int x23]) (rest := []) hC mf_X1_add km_X11_110 im_X1_add se_X1_add (c_X1_add l G Γ H23 hB.1 hR hU b17 hb17 x19 x21 x23) rfl rfl ⟨Nat.le_of_ble_eq_true rfl, Nat.le_of_ble_eq_true rfl⟩ hB.1 hb17 ro_3 rfl rfl hl.1 rfl (Nat.le_of_ble_eq_true rfl) dX11_row_85 ⟨Nat.le_refl _, Nat.le_refl _⟩) hB.2.1 (fun v85 H85 locs hp hz hS => ?_)
            obtain ⟨x24, rfl, lx24, ux24, hI1, hf, hR, z85_0⟩ := hp
            have hB := th_B_c hB hI1 hS hf (by decide)
            have mm25 := (th_F_o hf hb1 ro_37 (j := 1) (by decide) (by decide)).trans g23_2
            have mm26 := (th_F_o hf h0 ro_42 (j := 5) (by decide) (by decide)).trans mm3
            have mm27 := (th_F_o hf h0 ro_42 (j := 0) (by decide) (by decide)).trans mb16
            have mm28 := (th_F_o hf hb16 ro_32 (j := 0) (by decide) (by decide)).trans mb17
            have mm29 := (th_F_o hf hb1 ro_37 (j := 0) (by decide) (by decide)).trans mb18
            replace hF := hF.trans (congrArg (dv_k f_X11_row_23b) (dv_bn2 (z85_0)))
            refine W.eq (g2 := F0 m 88 ls [.int x24]) rfl ?_
            refine tr_if_lt (tgt := 97) hx hb dX11_row_88 (by decide) (Eq.refl _) (fun c88 => ?_) (fun c88 => ?_)
            · replace hF := hF.trans (congrArg (dv_k f_X11_row_23b) (if_pos c88))
              exact jn97 H85 locs ls hB hR (lv_sub hl [0, 1, 2, 3] rfl) hF mm25
            · replace hF := hF.trans (congrArg (dv_k f_X11_row_23b) (if_neg (Int.not_lt.mpr c88)))
              refine tr_iincE (fun x30 => [(1, .int x30), (0, .ref a0), (2, .int j23_2), (3, .int j23_3)]) hx hb dX11_row_91 hl (k := 1) rfl (Eq.refl _) (by decide) (fun _ => rfl) (fun x30 ls ex30 hl => ?_)
              have lx30 := ti_lo x30; have ux30 := ti_hi x30
              replace hF := hF.trans (congrArg (dv_k f_X11_row_23b) (dv_bn (ex30)))
              refine lv_goto (tgt := 100) hx hb dX11_row_94 (by decide) ?_
              exact jn100 H85 locs ls x30 j23_2 hB hR (lv_sub hl [1, 3, 0, 2] rfl) hF mm25
    exact lp23 ((2147483648 : Int) - (0)).toNat H0 [] ls 0 0 0 hB hR (lv_sub hl [3, 2, 1, 0] rfl) (by rw [tk_0]; exact hF) (by decide) (by decide) mx2 (by have w0 := tk_0; omega)
  · replace hF := hF.trans (if_neg (not_not_intro c7))
    refine lv_aload_n hx hb dX11_row_10 rfl (lv_at hl 0 rfl) ?_
    refine lv_bipush (v := (-6)) hx hb dX11_row_11 (by decide) ?_
    refine th_call (th_runV (As := [.int (-6)]) (rest := []) hC mf_X11_answer km_X11_117 im_X11_answer se_X11_answer (c_X11_answer l G Γ H0 hB.1 hR hU a0 h0 (-6)) rfl rfl ⟨Nat.le_of_ble_eq_true rfl, Nat.le_of_ble_eq_true rfl⟩ hB.1 h0 ro_42 rfl rfl hl.1 rfl (Nat.le_of_ble_eq_true rfl) dX11_row_13 ⟨Nat.le_refl _, Nat.le_refl _⟩) hB.2.1 (fun v13 H13 locs hp hz hS => ?_)
    obtain ⟨x31, rfl, q13_0, hI1, hf, hR, z13_0⟩ := hp
    have hB := th_B_c hB hI1 hS hf (by decide)
    have mm32 := (th_F_o hf h0 ro_42 (j := 5) (by decide) (by decide)).trans mb1
    have mm33 := (th_F_o hf hb1 ro_37 (j := 1) (by decide) (by decide)).trans mx2
    have w13_0 := tk_m6
    have zf13 := z13_0
    rw [tk_m6] at zf13
    replace hF := hF.trans (dv_bn2 (zf13))
    refine W.eq (g2 := F0 m 16 ls [.int x31]) rfl ?_
    exact th_iret hC hH hr hlocks rfl hB.2.1 ⟨_, rfl, hB.1, hB.2.2, hR, (hF0.symm.trans hF)⟩ dX11_row_16

set_option maxHeartbeats 4000000 in
set_option maxRecDepth 100000 in
theorem c_X11_fluff (l : Launch) (G : th_G) (Γ : th_Ga) (H0 : Heap) (hI : th_I G Γ H0) (hU : dv_U Γ) (a0 : Nat) (h0 : Γ a0 = (42, 0)) : Met l yX11_fluff (.code yX11_fluff cX11_fluff 1 (some FieldType.int) :: th_tb) ({ frames := 0, cells := 0, slots := 0, locals := 0 } : Room) (th_P [.ref a0] G H0) (th_Q (fun (v : Option Value) (H1 : Heap) => ∃ r : Int32, v = some (.int r) ∧ (f_X11_fluff (dv G Γ H0) (a0 : Int) = (r.toInt, ())) ∧ H0 = H1) G) 0 0 (fun q => G.2.2 ≤ q) := by
  refine th_met RX11 (by decide) rfl (Nat.le_of_ble_eq_true rfl) ?_
  intro p e s m below meth c hC hH hr hlocks hnm ls hl
  have hx := hC.1
  have hb := hC.2.1
  have hB : th_B G Γ Γ [] H0 H0 [] := ⟨hI, va_S.rf, th_F_rf⟩
  have hl : lv_has ls 1 [(0, .ref a0)] := hl
  obtain ⟨F, hF0⟩ : ∃ F, F = f_X11_fluff (dv G Γ H0) ((a0 : Int)) := ⟨_, rfl⟩
  have hF := hF0.trans (f_X11_fluff.eq_1 (dv G Γ H0) ((a0 : Int)))
  refine lv_aload_n hx hb dX11_fluff_0 rfl (lv_at hl 0 rfl) ?_
  refine th_getI (j := 16) hC cf_X11 hB.1 h0 ro_42 rfl rfl kf_X11_101 dX11_fluff_1 (fun x1 mx1 lx1 ux1 => ?_)
  replace hF := hF.trans (dv_bn (dv_getI h0 ro_42 (j := 16) rfl mx1 (by decide)))
  exact th_iret hC hH hr hlocks rfl hB.2.1 ⟨_, rfl, (hF0.symm.trans hF), rfl⟩ dX11_fluff_4

set_option maxHeartbeats 4000000 in
set_option maxRecDepth 100000 in
theorem c_X11_fault (l : Launch) (G : th_G) (Γ : th_Ga) (H0 : Heap) (hI : th_I G Γ H0) (hU : dv_U Γ) (a0 : Nat) (h0 : Γ a0 = (42, 0)) : Met l yX11_fault (.code yX11_fault cX11_fault 1 (some FieldType.int) :: th_tb) ({ frames := 0, cells := 0, slots := 0, locals := 0 } : Room) (th_P [.ref a0] G H0) (th_Q (fun (v : Option Value) (H1 : Heap) => ∃ r : Int32, v = some (.int r) ∧ (f_X11_fault (dv G Γ H0) (a0 : Int) = (r.toInt, ())) ∧ H0 = H1) G) 0 0 (fun q => G.2.2 ≤ q) := by
  refine th_met RX11 (by decide) rfl (Nat.le_of_ble_eq_true rfl) ?_
  intro p e s m below meth c hC hH hr hlocks hnm ls hl
  have hx := hC.1
  have hb := hC.2.1
  have hB : th_B G Γ Γ [] H0 H0 [] := ⟨hI, va_S.rf, th_F_rf⟩
  have hl : lv_has ls 1 [(0, .ref a0)] := hl
  obtain ⟨F, hF0⟩ : ∃ F, F = f_X11_fault (dv G Γ H0) ((a0 : Int)) := ⟨_, rfl⟩
  have hF := hF0.trans (f_X11_fault.eq_1 (dv G Γ H0) ((a0 : Int)))
  refine lv_aload_n hx hb dX11_fault_0 rfl (lv_at hl 0 rfl) ?_
  refine th_getI (j := 15) hC cf_X11 hB.1 h0 ro_42 rfl rfl kf_X11_98 dX11_fault_1 (fun x1 mx1 lx1 ux1 => ?_)
  replace hF := hF.trans (dv_bn (dv_getI h0 ro_42 (j := 15) rfl mx1 (by decide)))
  exact th_iret hC hH hr hlocks rfl hB.2.1 ⟨_, rfl, (hF0.symm.trans hF), rfl⟩ dX11_fault_4

set_option maxHeartbeats 4000000 in
set_option maxRecDepth 100000 in
theorem c_X11_stopped (l : Launch) (G : th_G) (Γ : th_Ga) (H0 : Heap) (hI : th_I G Γ H0) (hU : dv_U Γ) (a0 : Nat) (h0 : Γ a0 = (42, 0)) : Met l yX11_stopped (.code yX11_stopped cX11_stopped 1 (some FieldType.int) :: th_tb) ({ frames := 0, cells := 0, slots := 0, locals := 0 } : Room) (th_P [.ref a0] G H0) (th_Q (fun (v : Option Value) (H1 : Heap) => ∃ r : Int32, v = some (.int r) ∧ (f_X11_stopped (dv G Γ H0) (a0 : Int) = (r.toInt, ())) ∧ H0 = H1) G) 0 0 (fun q => G.2.2 ≤ q) := by
  refine th_met RX11 (by decide) rfl (Nat.le_of_ble_eq_true rfl) ?_
  intro p e s m below meth c hC hH hr hlocks hnm ls hl
  have hx := hC.1
  have hb := hC.2.1
  have hB : th_B G Γ Γ [] H0 H0 [] := ⟨hI, va_S.rf, th_F_rf⟩
  have hl : lv_has ls 1 [(0, .ref a0)] := hl
  obtain ⟨F, hF0⟩ : ∃ F, F = f_X11_stopped (dv G Γ H0) ((a0 : Int)) := ⟨_, rfl⟩
  have hF := hF0.trans (f_X11_stopped.eq_1 (dv G Γ H0) ((a0 : Int)))
  refine lv_aload_n hx hb dX11_stopped_0 rfl (lv_at hl 0 rfl) ?_
  refine th_getI (j := 17) hC cf_X11 hB.1 h0 ro_42 rfl rfl kf_X11_104 dX11_stopped_1 (fun x1 mx1 lx1 ux1 => ?_)
  replace hF := hF.trans (dv_bn (dv_getI h0 ro_42 (j := 17) rfl mx1 (by decide)))
  exact th_iret hC hH hr hlocks rfl hB.2.1 ⟨_, rfl, (hF0.symm.trans hF), rfl⟩ dX11_stopped_4

set_option maxHeartbeats 4000000 in
set_option maxRecDepth 100000 in
theorem c_X11_status (l : Launch) (G : th_G) (Γ : th_Ga) (H0 : Heap) (hI : th_I G Γ H0) (hU : dv_U Γ) (a0 : Nat) (h0 : Γ a0 = (42, 0)) : Met l yX11_status (.code yX11_status cX11_status 1 (some FieldType.int) :: th_tb) ({ frames := 0, cells := 0, slots := 0, locals := 0 } : Room) (th_P [.ref a0] G H0) (th_Q (fun (v : Option Value) (H1 : Heap) => ∃ r : Int32, v = some (.int r) ∧ (f_X11_status (dv G Γ H0) (a0 : Int) = (r.toInt, ())) ∧ H0 = H1) G) 0 0 (fun q => G.2.2 ≤ q) := by
  refine th_met RX11 (by decide) rfl (Nat.le_of_ble_eq_true rfl) ?_
  intro p e s m below meth c hC hH hr hlocks hnm ls hl
  have hx := hC.1
  have hb := hC.2.1
  have hB : th_B G Γ Γ [] H0 H0 [] := ⟨hI, va_S.rf, th_F_rf⟩
  have hl : lv_has ls 1 [(0, .ref a0)] := hl
  obtain ⟨F, hF0⟩ : ∃ F, F = f_X11_status (dv G Γ H0) ((a0 : Int)) := ⟨_, rfl⟩
  have hF := hF0.trans (f_X11_status.eq_1 (dv G Γ H0) ((a0 : Int)))
  refine lv_aload_n hx hb dX11_status_0 rfl (lv_at hl 0 rfl) ?_
  refine th_getI (j := 14) hC cf_X11 hB.1 h0 ro_42 rfl rfl kf_X11_94 dX11_status_1 (fun x1 mx1 lx1 ux1 => ?_)
  replace hF := hF.trans (dv_bn (dv_getI h0 ro_42 (j := 14) rfl mx1 (by decide)))
  exact th_iret hC hH hr hlocks rfl hB.2.1 ⟨_, rfl, (hF0.symm.trans hF), rfl⟩ dX11_status_4

set_option maxHeartbeats 4000000 in
set_option maxRecDepth 100000 in
theorem c_X11_force (l : Launch) (G : th_G) (Γ : th_Ga) (H0 : Heap) (hI : th_I G Γ H0) (hR : th_RC G Γ H0) (hU : dv_U Γ) (a0 : Nat) (h0 : Γ a0 = (42, 0)) (p1 : Int32) : Met l yX11_force (.code yX11_force cX11_force 3 (some FieldType.int) :: th_tb) ({ frames := 1, cells := 0, slots := 0, locals := 21 } : Room) (th_P [.ref a0, .int p1] G H0) (th_Q (fun (v : Option Value) (H1 : Heap) => ∃ r : Int32, v = some (.int r) ∧ th_I G Γ H1 ∧ th_F G Γ [(45, 0), (42, 14), (32, 6)] H0 H1 ∧ th_RC G Γ H1 ∧ (f_X11_force (dv G Γ H0) (a0 : Int) p1.toInt = (dv G Γ H1, r.toInt))) G) 0 0 (fun q => G.2.2 ≤ q) := by
  refine th_met RX11 (by decide) rfl (Nat.le_of_ble_eq_true rfl) ?_
  intro p e s m below meth c hC hH hr hlocks hnm ls hl
  have hx := hC.1
  have hb := hC.2.1
  have hB : th_B G Γ Γ [(45, 0), (42, 14), (32, 6)] H0 H0 [] := ⟨hI, va_S.rf, th_F_rf⟩
  have hl : lv_has ls 3 [(0, .ref a0), (1, .int p1)] := hl
  have lp1 := ti_lo p1; have up1 := ti_hi p1
  obtain ⟨F, hF0⟩ : ∃ F, F = f_X11_force (dv G Γ H0) ((a0 : Int)) (p1.toInt) := ⟨_, rfl⟩
  have hF := hF0.trans (f_X11_force.eq_1 (dv G Γ H0) ((a0 : Int)) (p1.toInt))
  refine lv_iload_n hx hb dX11_force_0 rfl (lv_at hl 1 rfl) ?_
  refine lv_iconst (v := (-1)) hx hb dX11_force_1 (by decide) ?_
  have jn23 : ∀ (locs : List Loc) (ls : Array Slot) , th_B G Γ Γ [(45, 0), (42, 14), (32, 6)] H0 H0 locs → lv_has ls 3 [(0, .ref a0), (1, .int p1)] → F = f_X11_force_23 (dv G Γ H0) ((a0 : Int)) (p1.toInt) → W p l e ({ frames := 1, cells := 0, slots := 0, locals := 21 } : Room) s m ([.ref a0, .int p1] : List Value).toArray below meth c H0 locs 0 0 (MQ below (th_Q (fun (v : Option Value) (H1 : Heap) => ∃ r : Int32, v = some (.int r) ∧ th_I G Γ H1 ∧ th_F G Γ [(45, 0), (42, 14), (32, 6)] H0 H1 ∧ th_RC G Γ H1 ∧ (f_X11_force (dv G Γ H0) (a0 : Int) p1.toInt = (dv G Γ H1, r.toInt))) G) ([.ref a0, .int p1] : List Value).toArray s 0 0 (fun q => G.2.2 ≤ q)) (F0 m 23 ls []) := by
    intro locs ls hB hl hF
    replace hF := hF.trans (f_X11_force_23.eq_1 (dv G Γ H0) ((a0 : Int)) (p1.toInt))
    refine lv_aload_n hx hb dX11_force_23 rfl (lv_at hl 0 rfl) ?_
    refine th_getR (j := 0) (r2 := 32) hC cf_X11 hB.1 h0 ro_42 rfl rfl kf_X11_12 dX11_force_24 (fun b1 mb1 hb1 => ?_)
    replace hF := hF.trans (dv_bn (dv_getR h0 ro_42 (j := 0) rfl mb1 (by decide)))
    refine th_getI (j := 6) hC cf_X8 hB.1 hb1 ro_32 rfl rfl kf_X11_230 dX11_force_27 (fun x2 mx2 lx2 ux2 => ?_)
    replace hF := hF.trans (dv_bn (dv_getI hb1 ro_32 (j := 6) rfl mx2 (by decide)))
    refine lv_istore_n (lv' := [(2, .int x2), (0, .ref a0), (1, .int p1)]) hx hb dX11_force_30 rfl hl (by decide) rfl (fun ls hl => ?_)
    refine lv_aload_n hx hb dX11_force_31 rfl (lv_at hl 1 rfl) ?_
    refine th_getK hC cf_X11 hB.1 h0 ro_42 rfl (j := 0) (by decide) mb1 kf_X11_12 dX11_force_32 ?_
    replace hF := hF.trans (dv_bn (dv_getR h0 ro_42 (j := 0) rfl mb1 (by decide)))
    refine lv_iload_n hx hb dX11_force_35 rfl (lv_at hl 2 rfl) ?_
    refine th_put hC cf_X8 hB hb1 (Or.inl hb1) ro_32 rfl (j := 6) rfl th_sIa (by decide) rfl rfl rfl kf_X11_230 dX11_force_36 (fun H36 locs hB hf hst36 => ?_)
    have mm3 := (th_F_o hf h0 ro_42 (j := 0) (by decide) (by decide)).trans mb1
    have hR := th_RC_F hB.1 hR hf (th_T_s hb1 ro_32 hst36) (by decide)
    replace hF := hF.trans (dv_bn (dv_putI hB.1 hb1 ro_32 (j := 6) rfl (th_apart hC cf_X8) hst36 (Eq.refl _) (by decide)))
    refine lv_aload_n hx hb dX11_force_39 rfl (lv_at hl 1 rfl) ?_
    refine lv_iconst (v := 0) hx hb dX11_force_40 (by decide) ?_
    refine th_put hC cf_X11 hB h0 (Or.inl h0) ro_42 rfl (j := 14) rfl th_sIa (by decide) rfl rfl rfl kf_X11_94 dX11_force_41 (fun H41 locs hB hf hst41 => ?_)
    have mm4 := (th_F_o hf h0 ro_42 (j := 0) (by decide) (by decide)).trans mm3
    have hR := th_RC_F hB.1 hR hf (th_T_s h0 ro_42 hst41) (by decide)
    replace hF := hF.trans (dv_bn (dv_putI hB.1 h0 ro_42 (j := 14) rfl (th_apart hC cf_X11) hst41 tk_0 (by decide)))
    refine lv_iload_n hx hb dX11_force_44 rfl (lv_at hl 0 rfl) ?_
    exact th_iret hC hH hr hlocks rfl hB.2.1 ⟨_, rfl, hB.1, hB.2.2, hR, (hF0.symm.trans hF)⟩ dX11_force_45
  refine tr_icmp_eq (tgt := 23) hx hb dX11_force_2 (by decide) (Eq.refl _) tk_m1 (fun c2 => ?_) (fun c2 => ?_)
  · replace hF := hF.trans (if_pos c2)
    exact jn23 [] ls hB (lv_sub hl [0, 1] rfl) hF
  · replace hF := hF.trans (if_neg c2)
    refine lv_aload_n hx hb dX11_force_5 rfl (lv_at hl 0 rfl) ?_
    refine th_getR (j := 0) (r2 := 32) hC cf_X11 hB.1 h0 ro_42 rfl rfl kf_X11_12 dX11_force_6 (fun b5 mb5 hb5 => ?_)
    replace hF := hF.trans (dv_bn (dv_getR h0 ro_42 (j := 0) rfl mb5 (by decide)))
    refine lv_iload_n hx hb dX11_force_9 rfl (lv_at hl 1 rfl) ?_
    refine th_call (th_runV (As := [.int p1]) (rest := []) hC mf_X8_lawOf km_X11_226 im_X8_lawOf se_X8_lawOf (c_X8_lawOf l G Γ H0 hB.1 hU b5 hb5 p1) rfl rfl ⟨Nat.le_of_ble_eq_true rfl, Nat.le_of_ble_eq_true rfl⟩ hB.1 hb5 ro_32 rfl rfl hl.1 rfl (Nat.le_of_ble_eq_true rfl) dX11_force_10 ⟨Nat.le_refl _, Nat.le_refl _⟩) hB.2.1 (fun v10 H10 locs hp hz hS => ?_)
    obtain ⟨v6, rfl, hv6, q10_0, rfl⟩ := hp
    have hB := th_B_s hB hS
    replace hF := hF.trans (dv_bn2 (q10_0))
    refine W.eq (g2 := F0 m 13 ls [v6]) rfl ?_
    rcases hv6 with rfl | ⟨b7, rfl, hb7⟩
    · refine lv_ifnonnullN hx hb dX11_force_13 ?_
      replace hF := hF.trans (if_pos (rfl : dv_iv Value.null = -1))
      refine lv_aload_n hx hb dX11_force_16 rfl (lv_at hl 0 rfl) ?_
      refine lv_bipush (v := (-2)) hx hb dX11_force_17 (by decide) ?_
      refine th_call (th_runV (As := [.int (-2)]) (rest := []) hC mf_X11_answer km_X11_117 im_X11_answer se_X11_answer (c_X11_answer l G Γ H0 hB.1 hR hU a0 h0 (-2)) rfl rfl ⟨Nat.le_of_ble_eq_true rfl, Nat.le_of_ble_eq_true rfl⟩ hB.1 h0 ro_42 rfl rfl hl.1 rfl (Nat.le_of_ble_eq_true rfl) dX11_force_19 ⟨Nat.le_refl _, Nat.le_refl _⟩) hB.2.1 (fun v19 H19 locs hp hz hS => ?_)
      obtain ⟨x8, rfl, q19_0, hI1, hf, hR, z19_0⟩ := hp
      have hB := th_B_c hB hI1 hS hf (by decide)
      have mm9 := (th_F_o hf h0 ro_42 (j := 0) (by decide) (by decide)).trans mb5
      have w19_0 := tk_m2
      have zf19 := z19_0
      rw [tk_m2] at zf19
      replace hF := hF.trans (dv_bn2 (zf19))
      refine W.eq (g2 := F0 m 22 ls [.int x8]) rfl ?_
      exact th_iret hC hH hr hlocks rfl hB.2.1 ⟨_, rfl, hB.1, hB.2.2, hR, (hF0.symm.trans hF)⟩ dX11_force_22
    · refine lv_ifnonnull (tgt := 23) hx hb dX11_force_13 (by decide) ?_
      replace hF := hF.trans (if_neg (show ¬ (dv_iv (Value.ref b7) = -1) from by show ¬ ((b7 : Int) = -1); omega))
      exact jn23 locs ls hB (lv_sub hl [0, 1] rfl) hF

set_option maxHeartbeats 4000000 in
set_option maxRecDepth 100000 in
theorem c_X11_doLay (l : Launch) (G : th_G) (Γ : th_Ga) (H0 : Heap) (hI : th_I G Γ H0) (hR : th_RC G Γ H0) (hU : dv_U Γ) (a0 : Nat) (h0 : Γ a0 = (42, 0)) (p1 : Int32) (p2 : Int32) (p3 : Int32) : Met l yX11_doLay (.code yX11_doLay cX11_doLay 6 (some FieldType.int) :: th_tb) ({ frames := 5, cells := 0, slots := 0, locals := 129 } : Room) (th_P [.ref a0, .int p1, .int p2, .int p3] G H0) (th_Q (fun (v : Option Value) (H1 : Heap) => ∃ r : Int32, v = some (.int r) ∧ th_I G Γ H1 ∧ th_F G Γ [(24, 0), (23, 3), (26, 0), (25, 0), (18, 0), (17, 4), (7, 0), (8, 0), (3, 10)] H0 H1 ∧ th_RC G Γ H1 ∧ (f_X11_doLay (dv G Γ H0) (a0 : Int) p1.toInt p2.toInt p3.toInt = (dv G Γ H1, r.toInt))) G) 0 0 (fun q => G.2.2 ≤ q) := by
  refine th_met RX11 (by decide) rfl (Nat.le_of_ble_eq_true rfl) ?_
  intro p e s m below meth c hC hH hr hlocks hnm ls hl
  have hx := hC.1
  have hb := hC.2.1
  have hB : th_B G Γ Γ [(24, 0), (23, 3), (26, 0), (25, 0), (18, 0), (17, 4), (7, 0), (8, 0), (3, 10)] H0 H0 [] := ⟨hI, va_S.rf, th_F_rf⟩
  have hl : lv_has ls 6 [(0, .ref a0), (1, .int p1), (2, .int p2), (3, .int p3)] := hl
  have lp1 := ti_lo p1; have up1 := ti_hi p1
  have lp2 := ti_lo p2; have up2 := ti_hi p2
  have lp3 := ti_lo p3; have up3 := ti_hi p3
  obtain ⟨F, hF0⟩ : ∃ F, F = f_X11_doLay (dv G Γ H0) ((a0 : Int)) (p1.toInt) (p2.toInt) (p3.toInt) := ⟨_, rfl⟩
  have hF := hF0.trans (f_X11_doLay.eq_1 (dv G Γ H0) ((a0 : Int)) (p1.toInt) (p2.toInt) (p3.toInt))
  refine lv_aload_n hx hb dX11_doLay_0 rfl (lv_at hl 0 rfl) ?_
  refine th_getR (j := 0) (r2 := 32) hC cf_X11 hB.1 h0 ro_42 rfl rfl kf_X11_12 dX11_doLay_1 (fun b1 mb1 hb1 => ?_)
  replace hF := hF.trans (dv_bn (dv_getR h0 ro_42 (j := 0) rfl mb1 (by decide)))
  refine th_getR (j := 0) (r2 := 3) hC cf_X8 hB.1 hb1 ro_32 rfl rfl kf_X11_107 dX11_doLay_4 (fun b2 mb2 hb2 => ?_)
  replace hF := hF.trans (dv_bn (dv_getR hb1 ro_32 (j := 0) rfl mb2 (by decide)))
  refine lv_astore (lv' := [(4, .ref b2), (0, .ref a0), (1, .int p1), (2, .int p2), (3, .int p3)]) hx hb dX11_doLay_7 hl (by decide) rfl (fun ls hl => ?_)
  refine lv_iload_n hx hb dX11_doLay_9 rfl (lv_at hl 3 rfl) ?_
  refine th_call (th_runS (As := [.int p2]) (rest := []) hC mf_X11_onGrid km_X11_165 st_X11_onGrid (c_X11_onGrid l G Γ H0 hB.1 hU p2) rfl rfl ⟨Nat.le_of_ble_eq_true rfl, Nat.le_of_ble_eq_true rfl⟩ rfl hl.1 rfl (Nat.le_of_ble_eq_true rfl) dX11_doLay_10 ⟨Nat.le_refl _, Nat.le_refl _⟩) hB.2.1 (fun v10 H10 locs hp hz hS => ?_)
  obtain ⟨x3, rfl, lx3, ux3, q10_0, q10_1, rfl⟩ := hp
  have hB := th_B_s hB hS
  replace hF := hF.trans (dv_bn2 (q10_1))
  refine W.eq (g2 := F0 m 13 ls [.int x3]) rfl ?_
  refine tr_if_eq (tgt := 23) hx hb dX11_doLay_13 (by decide) (Eq.refl _) (fun c13 => ?_) (fun c13 => ?_)
  · replace hF := hF.trans (if_pos c13)
    refine lv_iconst (v := (-1)) hx hb dX11_doLay_23 (by decide) ?_
    exact th_iret hC hH hr hlocks rfl hB.2.1 ⟨_, rfl, hB.1, hB.2.2, hR, (hF0.symm.trans (hF.trans (by rw [tk_m1])))⟩ dX11_doLay_24
  · replace hF := hF.trans (if_neg c13)
    refine lv_iload_n hx hb dX11_doLay_16 rfl (lv_at hl 4 rfl) ?_
    refine th_call (th_runS (As := [.int p3]) (rest := []) hC mf_X11_onGrid km_X11_165 st_X11_onGrid (c_X11_onGrid l G Γ H0 hB.1 hU p3) rfl rfl ⟨Nat.le_of_ble_eq_true rfl, Nat.le_of_ble_eq_true rfl⟩ rfl hl.1 rfl (Nat.le_of_ble_eq_true rfl) dX11_doLay_17 ⟨Nat.le_refl _, Nat.le_refl _⟩) hB.2.1 (fun v17 H17 locs hp hz hS => ?_)
    obtain ⟨x4, rfl, lx4, ux4, q17_0, q17_1, rfl⟩ := hp
    have hB := th_B_s hB hS
    replace hF := hF.trans (dv_bn2 (q17_1))
    refine W.eq (g2 := F0 m 20 ls [.int x4]) rfl ?_
    refine tr_if_ne (tgt := 25) hx hb dX11_doLay_20 (by decide) (Eq.refl _) (fun c20 => ?_) (fun c20 => ?_)
    · replace hF := hF.trans (if_pos c20)
      refine lv_aload hx hb dX11_doLay_25 (lv_at hl 0 rfl) ?_
      refine lv_iload_n hx hb dX11_doLay_27 rfl (lv_at hl 2 rfl) ?_
      refine th_call (th_runV (As := [.int p1]) (rest := []) hC mf_X1_has km_X11_121 im_X1_has se_X1_has (c_X1_has l G Γ H0 hB.1 hU b2 hb2 p1) rfl rfl ⟨Nat.le_of_ble_eq_true rfl, Nat.le_of_ble_eq_true rfl⟩ hB.1 hb2 ro_3 rfl rfl hl.1 rfl (Nat.le_of_ble_eq_true rfl) dX11_doLay_28 ⟨Nat.le_refl _, Nat.le_refl _⟩) hB.2.1 (fun v28 H28 locs hp hz hS => ?_)
      obtain ⟨x5, rfl, lx5, ux5, q28_0, q28_1, rfl⟩ := hp
      have hB := th_B_s hB hS
      replace hF := hF.trans (dv_bn2 (q28_1))
      refine W.eq (g2 := F0 m 31 ls [.int x5]) rfl ?_
      refine tr_if_ne (tgt := 37) hx hb dX11_doLay_31 (by decide) (Eq.refl _) (fun c31 => ?_) (fun c31 => ?_)
      · replace hF := hF.trans (if_pos c31)
        refine lv_aload_n hx hb dX11_doLay_37 rfl (lv_at hl 1 rfl) ?_
        refine lv_aload hx hb dX11_doLay_38 (lv_at hl 0 rfl) ?_
        refine lv_iload_n hx hb dX11_doLay_40 rfl (lv_at hl 2 rfl) ?_
        refine lv_iload_n hx hb dX11_doLay_41 rfl (lv_at hl 3 rfl) ?_
        refine lv_iload_n hx hb dX11_doLay_42 rfl (lv_at hl 4 rfl) ?_
        refine th_call (th_runV (As := [.ref b2, .int p1, .int p2, .int p3]) (rest := []) hC mf_X11_canLie km_X11_176 im_X11_canLie se_X11_canLie (c_X11_canLie l G Γ H0 hB.1 hR hU a0 h0 b2 hb2 p1 p2 p3) rfl rfl ⟨Nat.le_of_ble_eq_true rfl, Nat.le_of_ble_eq_true rfl⟩ hB.1 h0 ro_42 rfl rfl hl.1 rfl (Nat.le_of_ble_eq_true rfl) dX11_doLay_43 ⟨Nat.le_refl _, Nat.le_refl _⟩) hB.2.1 (fun v43 H43 locs hp hz hS => ?_)
        obtain ⟨x6, rfl, lx6, ux6, q43_0, q43_1, hI1, hf, hR, z43_0⟩ := hp
        have hB := th_B_c hB hI1 hS hf (by decide)
        have mm7 := (th_F_o hf h0 ro_42 (j := 0) (by decide) (by decide)).trans mb1
        replace hF := hF.trans (dv_bn2 (z43_0))
        refine W.eq (g2 := F0 m 46 ls [.int x6]) rfl ?_
        refine tr_if_ne (tgt := 52) hx hb dX11_doLay_46 (by decide) (Eq.refl _) (fun c46 => ?_) (fun c46 => ?_)
        · replace hF := hF.trans (if_pos c46)
          refine lv_aload_n hx hb dX11_doLay_52 rfl (lv_at hl 1 rfl) ?_
          refine th_getR (j := 9) (r2 := 11) hC cf_X11 hB.1 h0 ro_42 rfl rfl kf_X11_65 dX11_doLay_53 (fun b8 mb8 hb8 => ?_)
          replace hF := hF.trans (dv_bn (dv_getR h0 ro_42 (j := 9) rfl mb8 (by decide)))
          refine lv_aload_n hx hb dX11_doLay_56 rfl (lv_at hl 1 rfl) ?_
          refine th_getK hC cf_X11 hB.1 h0 ro_42 rfl (j := 0) (by decide) mm7 kf_X11_12 dX11_doLay_57 ?_
          replace hF := hF.trans (dv_bn (dv_getR h0 ro_42 (j := 0) rfl mm7 (by decide)))
          refine th_call (th_runV (As := []) (rest := [.ref b8]) hC mf_X8_forcedLaw km_X11_143 im_X8_forcedLaw se_X8_forcedLaw (c_X8_forcedLaw l G Γ H43 hB.1 hU b1 hb1) rfl rfl ⟨Nat.le_of_ble_eq_true rfl, Nat.le_of_ble_eq_true rfl⟩ hB.1 hb1 ro_32 rfl rfl hl.1 rfl (Nat.le_of_ble_eq_true rfl) dX11_doLay_60 ⟨Nat.le_refl _, Nat.le_refl _⟩) hB.2.1 (fun v60 H60 locs hp hz hS => ?_)
          obtain ⟨v9, rfl, hv9, q60_0, rfl⟩ := hp
          have hB := th_B_s hB hS
          replace hF := hF.trans (dv_bn2 (q60_0))
          refine W.eq (g2 := F0 m 63 ls [v9, .ref b8]) rfl ?_
          refine lv_aload hx hb dX11_doLay_63 (lv_at hl 0 rfl) ?_
          refine lv_iload_n hx hb dX11_doLay_65 rfl (lv_at hl 2 rfl) ?_
          refine lv_iload_n hx hb dX11_doLay_66 rfl (lv_at hl 3 rfl) ?_
          refine lv_iload_n hx hb dX11_doLay_67 rfl (lv_at hl 4 rfl) ?_
          refine th_call (th_runV (As := [v9, .ref b2, .int p1, .int p2, .int p3]) (rest := []) hC mf_X2_costOf km_X11_168 im_X2_costOf se_X2_costOf (c_X2_costOf l G Γ H43 hB.1 hR hU b8 hb8 v9 hv9 b2 hb2 p1 (by omega) (by omega) p2 p3) rfl rfl ⟨Nat.le_of_ble_eq_true rfl, Nat.le_of_ble_eq_true rfl⟩ hB.1 hb8 ro_11 rfl rfl hl.1 rfl (Nat.le_of_ble_eq_true rfl) dX11_doLay_68 ⟨Nat.le_refl _, Nat.le_refl _⟩) hB.2.1 (fun v68 H68 locs hp hz hS => ?_)
          obtain ⟨x10, rfl, lx10, ux10, hI1, hf, hR, z68_0⟩ := hp
          have hB := th_B_c hB hI1 hS hf (by decide)
          have mm11 := (th_F_o hf h0 ro_42 (j := 0) (by decide) (by decide)).trans mm7
          replace hF := hF.trans (dv_bn2 (z68_0))
          refine W.eq (g2 := F0 m 71 ls [.int x10]) rfl ?_
          refine lv_istore (lv' := [(5, .int x10), (4, .ref b2), (0, .ref a0), (1, .int p1), (2, .int p2), (3, .int p3)]) hx hb dX11_doLay_71 hl (by decide) rfl (fun ls hl => ?_)
          refine lv_aload_n hx hb dX11_doLay_73 rfl (lv_at hl 2 rfl) ?_
          refine th_getR (j := 10) (r2 := 17) hC cf_X11 hB.1 h0 ro_42 rfl rfl kf_X11_72 dX11_doLay_74 (fun b12 mb12 hb12 => ?_)
          replace hF := hF.trans (dv_bn (dv_getR h0 ro_42 (j := 10) rfl mb12 (by decide)))
          refine lv_iconst (v := 0) hx hb dX11_doLay_77 (by decide) ?_
          refine lv_aload hx hb dX11_doLay_78 (lv_at hl 1 rfl) ?_
          refine th_call (th_runV (As := [.int 0, .ref b2]) (rest := []) hC mf_X4_note km_X11_358 im_X4_note se_X4_note (c_X4_note l G Γ H68 hB.1 hR hU b12 hb12 0 b2 hb2) rfl rfl ⟨Nat.le_of_ble_eq_true rfl, Nat.le_of_ble_eq_true rfl⟩ hB.1 hb12 ro_17 rfl rfl hl.1 rfl (Nat.le_of_ble_eq_true rfl) dX11_doLay_80 ⟨Nat.le_refl _, Nat.le_refl _⟩) hB.2.1 (fun v80 H80 locs hp hz hS => ?_)
          obtain ⟨rfl, hI1, hf, hR, z80_0⟩ := hp
          have hB := th_B_c hB hI1 hS hf (by decide)
          have mm13 := (th_F_o hf h0 ro_42 (j := 0) (by decide) (by decide)).trans mm11
          have zf80 := z80_0
          rw [tk_0] at zf80
          replace hF := hF.trans (dv_bn2 (zf80))
          refine W.eq (g2 := F0 m 83 ls []) rfl ?_
          refine lv_aload hx hb dX11_doLay_83 (lv_at hl 1 rfl) ?_
          refine th_getO (j := 3) (r2 := 7) hC cf_X1 hB.1 hb2 ro_3 rfl rfl kf_X11_134 dX11_doLay_85 (fun b14 mb14 hb14 => ?_)
          refine lv_iload_n hx hb dX11_doLay_88 rfl (lv_at hl 3 rfl) ?_
          refine lv_iload_n hx hb dX11_doLay_89 rfl (lv_at hl 4 rfl) ?_
          have hIo := hB.1
          refine th_iastF hC hB hb14 (Or.inl hb14) ro_7 rfl (by decide) (Eq.refl _) (by omega) (by omega) th_sIa dX11_doLay_90 (fun H90 locs hB hf90 hst90 => ?_)
          have hf := hf90
          have mm15 := (th_F_o hf h0 ro_42 (j := 0) (by decide) (by decide)).trans mm13
          replace hF := hF.trans (dv_bn (dv_stoI hIo hB.1 hU hb14 ow_7 (i := p1.toInt) hst90 (Eq.refl _) (by omega)))
          refine lv_aload hx hb dX11_doLay_91 (lv_at hl 1 rfl) ?_
          refine th_getO (j := 4) (r2 := 8) hC cf_X1 hB.1 hb2 ro_3 rfl rfl kf_X11_137 dX11_doLay_93 (fun b16 mb16 hb16 => ?_)
          refine lv_iload_n hx hb dX11_doLay_96 rfl (lv_at hl 3 rfl) ?_
          refine lv_iload_n hx hb dX11_doLay_97 rfl (lv_at hl 5 rfl) ?_
          have hIo := hB.1
          refine th_iastF hC hB hb16 (Or.inl hb16) ro_8 rfl (by decide) (Eq.refl _) (by omega) (by omega) th_sIa dX11_doLay_98 (fun H98 locs hB hf98 hst98 => ?_)
          have hf := hf98
          have mm17 := (th_F_o hf h0 ro_42 (j := 0) (by decide) (by decide)).trans mm15
          replace hF := hF.trans (dv_bn (dv_stoI hIo hB.1 hU hb16 ow_8 (i := p1.toInt) hst98 (Eq.refl _) (by omega)))
          have hR := th_RC_xy hB.1 hR hb2 hb14 hb16 mb14 mb16 hst90 hst98 hf90 hf98 (Or.inr (by omega))
          refine lv_aload hx hb dX11_doLay_99 (lv_at hl 1 rfl) ?_
          refine lv_sipush (v := 9999) hx hb dX11_doLay_101 (by decide) ?_
          refine lv_aload hx hb dX11_doLay_104 (lv_at hl 1 rfl) ?_
          refine th_getI (j := 10) hC cf_X1 hB.1 hb2 ro_3 rfl rfl kf_X11_348 dX11_doLay_106 (fun x18 mx18 lx18 ux18 => ?_)
          replace hF := hF.trans (dv_bn (dv_getI hb2 ro_3 (j := 10) rfl mx18 (by decide)))
          refine lv_iload hx hb dX11_doLay_109 (lv_at hl 0 rfl) ?_
          refine lv_iadd hx hb dX11_doLay_111 ?_
          refine lv_topi (fun x19 ex19 => ?_)
          have lx19 := ti_lo x19; have ux19 := ti_hi x19
          replace hF := hF.trans (dv_bn (dv_add_e (Eq.refl _) (Eq.refl _) ex19))
          refine tr_mmin hC kma_X11_362 hl.1 tk_9999 (Eq.refl _) (Nat.le_of_ble_eq_true rfl) (Nat.le_of_ble_eq_true rfl) (Nat.le_of_ble_eq_true rfl) (Nat.le_of_ble_eq_true rfl) dX11_doLay_112 (fun x20 ex20 => ?_)
          replace hF := hF.trans (dv_bn (dv_min_e ex20))
          refine th_put hC cf_X1 hB hb2 (Or.inl hb2) ro_3 rfl (j := 10) rfl th_sIa (by decide) rfl rfl rfl kf_X11_348 dX11_doLay_115 (fun H115 locs hB hf hst115 => ?_)
          have mm21 := (th_F_o hf h0 ro_42 (j := 0) (by decide) (by decide)).trans mm17
          have hR := th_RC_F hB.1 hR hf (th_T_s hb2 ro_3 hst115) (by decide)
          replace hF := hF.trans (dv_bn (dv_putI hB.1 hb2 ro_3 (j := 10) rfl (th_apart hC cf_X1) hst115 (Eq.refl _) (by decide)))
          refine lv_iload hx hb dX11_doLay_118 (lv_at hl 0 rfl) ?_
          exact th_iret hC hH hr hlocks rfl hB.2.1 ⟨_, rfl, hB.1, hB.2.2, hR, (hF0.symm.trans hF)⟩ dX11_doLay_120
        · replace hF := hF.trans (if_neg (not_not_intro c46))
          refine lv_bipush (v := (-3)) hx hb dX11_doLay_49 (by decide) ?_
          exact th_iret hC hH hr hlocks rfl hB.2.1 ⟨_, rfl, hB.1, hB.2.2, hR, (hF0.symm.trans (hF.trans (by rw [tk_m3])))⟩ dX11_doLay_51
      · replace hF := hF.trans (if_neg (not_not_intro c31))
        refine lv_bipush (v := (-2)) hx hb dX11_doLay_34 (by decide) ?_
        exact th_iret hC hH hr hlocks rfl hB.2.1 ⟨_, rfl, hB.1, hB.2.2, hR, (hF0.symm.trans (hF.trans (by rw [tk_m2])))⟩ dX11_doLay_36
    · replace hF := hF.trans (if_neg (not_not_intro c20))
      refine lv_iconst (v := (-1)) hx hb dX11_doLay_23 (by decide) ?_
      exact th_iret hC hH hr hlocks rfl hB.2.1 ⟨_, rfl, hB.1, hB.2.2, hR, (hF0.symm.trans (hF.trans (by rw [tk_m1])))⟩ dX11_doLay_24

set_option maxHeartbeats 4000000 in
set_option maxRecDepth 100000 in
theorem c_X11_doRoll (l : Launch) (G : th_G) (Γ : th_Ga) (H0 : Heap) (hI : th_I G Γ H0) (hR : th_RC G Γ H0) (hU : dv_U Γ) (a0 : Nat) (h0 : Γ a0 = (42, 0)) (p1 : Int32) : Met l yX11_doRoll (.code yX11_doRoll cX11_doRoll 3 (some FieldType.int) :: th_tb) ({ frames := 3, cells := 0, slots := 0, locals := 64 } : Room) (th_P [.ref a0, .int p1] G H0) (th_Q (fun (v : Option Value) (H1 : Heap) => ∃ r : Int32, v = some (.int r) ∧ th_I G Γ H1 ∧ th_F G Γ [(18, 0), (17, 4), (7, 0), (8, 0)] H0 H1 ∧ th_RC G Γ H1 ∧ (f_X11_doRoll (dv G Γ H0) (a0 : Int) p1.toInt = (dv G Γ H1, r.toInt))) G) 0 0 (fun q => G.2.2 ≤ q) := by
  refine th_met RX11 (by decide) rfl (Nat.le_of_ble_eq_true rfl) ?_
  intro p e s m below meth c hC hH hr hlocks hnm ls hl
  have hx := hC.1
  have hb := hC.2.1
  have hB : th_B G Γ Γ [(18, 0), (17, 4), (7, 0), (8, 0)] H0 H0 [] := ⟨hI, va_S.rf, th_F_rf⟩
  have hl : lv_has ls 3 [(0, .ref a0), (1, .int p1)] := hl
  have lp1 := ti_lo p1; have up1 := ti_hi p1
  obtain ⟨F, hF0⟩ : ∃ F, F = f_X11_doRoll (dv G Γ H0) ((a0 : Int)) (p1.toInt) := ⟨_, rfl⟩
  have hF := hF0.trans (f_X11_doRoll.eq_1 (dv G Γ H0) ((a0 : Int)) (p1.toInt))
  refine lv_aload_n hx hb dX11_doRoll_0 rfl (lv_at hl 0 rfl) ?_
  refine th_getR (j := 0) (r2 := 32) hC cf_X11 hB.1 h0 ro_42 rfl rfl kf_X11_12 dX11_doRoll_1 (fun b1 mb1 hb1 => ?_)
  replace hF := hF.trans (dv_bn (dv_getR h0 ro_42 (j := 0) rfl mb1 (by decide)))
  refine th_getR (j := 0) (r2 := 3) hC cf_X8 hB.1 hb1 ro_32 rfl rfl kf_X11_107 dX11_doRoll_4 (fun b2 mb2 hb2 => ?_)
  replace hF := hF.trans (dv_bn (dv_getR hb1 ro_32 (j := 0) rfl mb2 (by decide)))
  refine lv_astore_n (lv' := [(2, .ref b2), (0, .ref a0), (1, .int p1)]) hx hb dX11_doRoll_7 rfl hl (by decide) rfl (fun ls hl => ?_)
  refine lv_aload_n hx hb dX11_doRoll_8 rfl (lv_at hl 0 rfl) ?_
  refine lv_iload_n hx hb dX11_doRoll_9 rfl (lv_at hl 2 rfl) ?_
  refine th_call (th_runV (As := [.int p1]) (rest := []) hC mf_X1_has km_X11_121 im_X1_has se_X1_has (c_X1_has l G Γ H0 hB.1 hU b2 hb2 p1) rfl rfl ⟨Nat.le_of_ble_eq_true rfl, Nat.le_of_ble_eq_true rfl⟩ hB.1 hb2 ro_3 rfl rfl hl.1 rfl (Nat.le_of_ble_eq_true rfl) dX11_doRoll_10 ⟨Nat.le_refl _, Nat.le_refl _⟩) hB.2.1 (fun v10 H10 locs hp hz hS => ?_)
  obtain ⟨x3, rfl, lx3, ux3, q10_0, q10_1, rfl⟩ := hp
  have hB := th_B_s hB hS
  replace hF := hF.trans (dv_bn2 (q10_1))
  refine W.eq (g2 := F0 m 13 ls [.int x3]) rfl ?_
  refine tr_if_ne (tgt := 19) hx hb dX11_doRoll_13 (by decide) (Eq.refl _) (fun c13 => ?_) (fun c13 => ?_)
  · replace hF := hF.trans (if_pos c13)
    refine lv_aload_n hx hb dX11_doRoll_19 rfl (lv_at hl 0 rfl) ?_
    refine lv_iload_n hx hb dX11_doRoll_20 rfl (lv_at hl 2 rfl) ?_
    refine th_call (th_runV (As := [.int p1]) (rest := []) hC mf_X1_isLaid km_X11_140 im_X1_isLaid se_X1_isLaid (c_X1_isLaid l G Γ H0 hB.1 hU b2 hb2 p1) rfl rfl ⟨Nat.le_of_ble_eq_true rfl, Nat.le_of_ble_eq_true rfl⟩ hB.1 hb2 ro_3 rfl rfl hl.1 rfl (Nat.le_of_ble_eq_true rfl) dX11_doRoll_21 ⟨Nat.le_refl _, Nat.le_refl _⟩) hB.2.1 (fun v21 H21 locs hp hz hS => ?_)
    obtain ⟨x4, rfl, lx4, ux4, q21_0, q21_1, q21_2, rfl⟩ := hp
    have hB := th_B_s hB hS
    replace hF := hF.trans (dv_bn2 (q21_2))
    refine W.eq (g2 := F0 m 24 ls [.int x4]) rfl ?_
    refine tr_if_ne (tgt := 30) hx hb dX11_doRoll_24 (by decide) (Eq.refl _) (fun c24 => ?_) (fun c24 => ?_)
    · replace hF := hF.trans (if_pos c24)
      refine lv_aload_n hx hb dX11_doRoll_30 rfl (lv_at hl 1 rfl) ?_
      refine th_getR (j := 10) (r2 := 17) hC cf_X11 hB.1 h0 ro_42 rfl rfl kf_X11_72 dX11_doRoll_31 (fun b5 mb5 hb5 => ?_)
      replace hF := hF.trans (dv_bn (dv_getR h0 ro_42 (j := 10) rfl mb5 (by decide)))
      refine lv_iconst (v := 1) hx hb dX11_doRoll_34 (by decide) ?_
      refine lv_aload_n hx hb dX11_doRoll_35 rfl (lv_at hl 0 rfl) ?_
      refine th_call (th_runV (As := [.int 1, .ref b2]) (rest := []) hC mf_X4_note km_X11_358 im_X4_note se_X4_note (c_X4_note l G Γ H0 hB.1 hR hU b5 hb5 1 b2 hb2) rfl rfl ⟨Nat.le_of_ble_eq_true rfl, Nat.le_of_ble_eq_true rfl⟩ hB.1 hb5 ro_17 rfl rfl hl.1 rfl (Nat.le_of_ble_eq_true rfl) dX11_doRoll_36 ⟨Nat.le_refl _, Nat.le_refl _⟩) hB.2.1 (fun v36 H36 locs hp hz hS => ?_)
      obtain ⟨rfl, hI1, hf, hR, z36_0⟩ := hp
      have hB := th_B_c hB hI1 hS hf (by decide)
      have zf36 := z36_0
      rw [tk_1] at zf36
      replace hF := hF.trans (dv_bn2 (zf36))
      refine W.eq (g2 := F0 m 39 ls []) rfl ?_
      refine lv_aload_n hx hb dX11_doRoll_39 rfl (lv_at hl 0 rfl) ?_
      refine lv_iload_n hx hb dX11_doRoll_40 rfl (lv_at hl 2 rfl) ?_
      refine th_call (th_runV (As := [.int p1]) (rest := []) hC mf_X1_rollUp km_X11_301 im_X1_rollUp se_X1_rollUp (c_X1_rollUp l G Γ H36 hB.1 hR hU b2 hb2 p1) rfl rfl ⟨Nat.le_of_ble_eq_true rfl, Nat.le_of_ble_eq_true rfl⟩ hB.1 hb2 ro_3 rfl rfl hl.1 rfl (Nat.le_of_ble_eq_true rfl) dX11_doRoll_41 ⟨Nat.le_refl _, Nat.le_refl _⟩) hB.2.1 (fun v41 H41 locs hp hz hS => ?_)
      obtain ⟨rfl, hI1, hf, hR, z41_0⟩ := hp
      have hB := th_B_c hB hI1 hS hf (by decide)
      replace hF := hF.trans (dv_bn2 (z41_0))
      refine W.eq (g2 := F0 m 44 ls []) rfl ?_
      refine lv_aload_n hx hb dX11_doRoll_44 rfl (lv_at hl 0 rfl) ?_
      refine th_call (th_runV (As := []) (rest := []) hC mf_X1_bareCells km_X11_249 im_X1_bareCells se_X1_bareCells (c_X1_bareCells l G Γ H41 hB.1 hU b2 hb2) rfl rfl ⟨Nat.le_of_ble_eq_true rfl, Nat.le_of_ble_eq_true rfl⟩ hB.1 hb2 ro_3 rfl rfl hl.1 rfl (Nat.le_of_ble_eq_true rfl) dX11_doRoll_45 ⟨Nat.le_refl _, Nat.le_refl _⟩) hB.2.1 (fun v45 H45 locs hp hz hS => ?_)
      obtain ⟨x6, rfl, q45_0, rfl⟩ := hp
      have hB := th_B_s hB hS
      replace hF := hF.trans (dv_bn2 (q45_0))
      refine W.eq (g2 := F0 m 48 ls [.int x6]) rfl ?_
      exact th_iret hC hH hr hlocks rfl hB.2.1 ⟨_, rfl, hB.1, hB.2.2, hR, (hF0.symm.trans hF)⟩ dX11_doRoll_48
    · replace hF := hF.trans (if_neg (not_not_intro c24))
      refine lv_bipush (v := (-3)) hx hb dX11_doRoll_27 (by decide) ?_
      exact th_iret hC hH hr hlocks rfl hB.2.1 ⟨_, rfl, hB.1, hB.2.2, hR, (hF0.symm.trans (hF.trans (by rw [tk_m3])))⟩ dX11_doRoll_29
  · replace hF := hF.trans (if_neg (not_not_intro c13))
    refine lv_bipush (v := (-2)) hx hb dX11_doRoll_16 (by decide) ?_
    exact th_iret hC hH hr hlocks rfl hB.2.1 ⟨_, rfl, hB.1, hB.2.2, hR, (hF0.symm.trans (hF.trans (by rw [tk_m2])))⟩ dX11_doRoll_18

set_option maxHeartbeats 4000000 in
set_option maxRecDepth 100000 in
theorem c_X11_doMirror (l : Launch) (G : th_G) (Γ : th_Ga) (H0 : Heap) (hI : th_I G Γ H0) (hR : th_RC G Γ H0) (hU : dv_U Γ) (a0 : Nat) (h0 : Γ a0 = (42, 0)) : Met l yX11_doMirror (.code yX11_doMirror cX11_doMirror 1 (some FieldType.int) :: th_tb) ({ frames := 3, cells := 0, slots := 0, locals := 64 } : Room) (th_P [.ref a0] G H0) (th_Q (fun (v : Option Value) (H1 : Heap) => ∃ r : Int32, v = some (.int r) ∧ th_I G Γ H1 ∧ th_F G Γ [(18, 0), (17, 4), (7, 0), (8, 0)] H0 H1 ∧ th_RC G Γ H1 ∧ (f_X11_doMirror (dv G Γ H0) (a0 : Int) = (dv G Γ H1, r.toInt))) G) 0 0 (fun q => G.2.2 ≤ q) := by
  refine th_met RX11 (by decide) rfl (Nat.le_of_ble_eq_true rfl) ?_
  intro p e s m below meth c hC hH hr hlocks hnm ls hl
  have hx := hC.1
  have hb := hC.2.1
  have hB : th_B G Γ Γ [(18, 0), (17, 4), (7, 0), (8, 0)] H0 H0 [] := ⟨hI, va_S.rf, th_F_rf⟩
  have hl : lv_has ls 1 [(0, .ref a0)] := hl
  obtain ⟨F, hF0⟩ : ∃ F, F = f_X11_doMirror (dv G Γ H0) ((a0 : Int)) := ⟨_, rfl⟩
  have hF := hF0.trans (f_X11_doMirror.eq_1 (dv G Γ H0) ((a0 : Int)))
  refine lv_aload_n hx hb dX11_doMirror_0 rfl (lv_at hl 0 rfl) ?_
  refine th_getR (j := 10) (r2 := 17) hC cf_X11 hB.1 h0 ro_42 rfl rfl kf_X11_72 dX11_doMirror_1 (fun b1 mb1 hb1 => ?_)
  replace hF := hF.trans (dv_bn (dv_getR h0 ro_42 (j := 10) rfl mb1 (by decide)))
  refine lv_iconst (v := 2) hx hb dX11_doMirror_4 (by decide) ?_
  refine lv_aload_n hx hb dX11_doMirror_5 rfl (lv_at hl 0 rfl) ?_
  refine th_getR (j := 0) (r2 := 32) hC cf_X11 hB.1 h0 ro_42 rfl rfl kf_X11_12 dX11_doMirror_6 (fun b2 mb2 hb2 => ?_)
  replace hF := hF.trans (dv_bn (dv_getR h0 ro_42 (j := 0) rfl mb2 (by decide)))
  refine th_getR (j := 0) (r2 := 3) hC cf_X8 hB.1 hb2 ro_32 rfl rfl kf_X11_107 dX11_doMirror_9 (fun b3 mb3 hb3 => ?_)
  replace hF := hF.trans (dv_bn (dv_getR hb2 ro_32 (j := 0) rfl mb3 (by decide)))
  refine th_call (th_runV (As := [.int 2, .ref b3]) (rest := []) hC mf_X4_note km_X11_358 im_X4_note se_X4_note (c_X4_note l G Γ H0 hB.1 hR hU b1 hb1 2 b3 hb3) rfl rfl ⟨Nat.le_of_ble_eq_true rfl, Nat.le_of_ble_eq_true rfl⟩ hB.1 hb1 ro_17 rfl rfl hl.1 rfl (Nat.le_of_ble_eq_true rfl) dX11_doMirror_12 ⟨Nat.le_refl _, Nat.le_refl _⟩) hB.2.1 (fun v12 H12 locs hp hz hS => ?_)
  obtain ⟨rfl, hI1, hf, hR, z12_0⟩ := hp
  have hB := th_B_c hB hI1 hS hf (by decide)
  have mm4 := (th_F_o hf h0 ro_42 (j := 0) (by decide) (by decide)).trans mb2
  have mm5 := (th_F_o hf hb2 ro_32 (j := 0) (by decide) (by decide)).trans mb3
  have zf12 := z12_0
  rw [tk_2] at zf12
  replace hF := hF.trans (dv_bn2 (zf12))
  refine W.eq (g2 := F0 m 15 ls []) rfl ?_
  refine lv_aload_n hx hb dX11_doMirror_15 rfl (lv_at hl 0 rfl) ?_
  refine th_getK hC cf_X11 hB.1 h0 ro_42 rfl (j := 0) (by decide) mm4 kf_X11_12 dX11_doMirror_16 ?_
  replace hF := hF.trans (dv_bn (dv_getR h0 ro_42 (j := 0) rfl mm4 (by decide)))
  refine th_getK hC cf_X8 hB.1 hb2 ro_32 rfl (j := 0) (by decide) mm5 kf_X11_107 dX11_doMirror_19 ?_
  replace hF := hF.trans (dv_bn (dv_getR hb2 ro_32 (j := 0) rfl mm5 (by decide)))
  refine th_call (th_runV (As := []) (rest := []) hC mf_X1_turnOver km_X11_367 im_X1_turnOver se_X1_turnOver (c_X1_turnOver l G Γ H12 hB.1 hR hU b3 hb3) rfl rfl ⟨Nat.le_of_ble_eq_true rfl, Nat.le_of_ble_eq_true rfl⟩ hB.1 hb3 ro_3 rfl rfl hl.1 rfl (Nat.le_of_ble_eq_true rfl) dX11_doMirror_22 ⟨Nat.le_refl _, Nat.le_refl _⟩) hB.2.1 (fun v22 H22 locs hp hz hS => ?_)
  obtain ⟨x6, rfl, hI1, hf, hR, z22_0⟩ := hp
  have hB := th_B_c hB hI1 hS hf (by decide)
  have mm7 := (th_F_o hf h0 ro_42 (j := 0) (by decide) (by decide)).trans mm4
  have mm8 := (th_F_o hf hb2 ro_32 (j := 0) (by decide) (by decide)).trans mm5
  replace hF := hF.trans (dv_bn2 (z22_0))
  refine W.eq (g2 := F0 m 25 ls [.int x6]) rfl ?_
  exact th_iret hC hH hr hlocks rfl hB.2.1 ⟨_, rfl, hB.1, hB.2.2, hR, (hF0.symm.trans hF)⟩ dX11_doMirror_25

set_option maxHeartbeats 4000000 in
set_option maxRecDepth 100000 in
theorem c_X11_doPass (l : Launch) (G : th_G) (Γ : th_Ga) (H0 : Heap) (hI : th_I G Γ H0) (hR : th_RC G Γ H0) (hU : dv_U Γ) (a0 : Nat) (h0 : Γ a0 = (42, 0)) : Met l yX11_doPass (.code yX11_doPass cX11_doPass 1 (some FieldType.int) :: th_tb) ({ frames := 5, cells := 0, slots := 0, locals := 127 } : Room) (th_P [.ref a0] G H0) (th_Q (fun (v : Option Value) (H1 : Heap) => ∃ r : Int32, v = some (.int r) ∧ th_I G Γ H1 ∧ th_F G Γ [(18, 0), (17, 4), (7, 0), (8, 0), (24, 0), (23, 3), (26, 0), (25, 0), (6, 0), (9, 0)] H0 H1 ∧ th_RC G Γ H1 ∧ (f_X11_doPass (dv G Γ H0) (a0 : Int) = (dv G Γ H1, r.toInt))) G) 0 0 (fun q => G.2.2 ≤ q) := by
  refine th_met RX11 (by decide) rfl (Nat.le_of_ble_eq_true rfl) ?_
  intro p e s m below meth c hC hH hr hlocks hnm ls hl
  have hx := hC.1
  have hb := hC.2.1
  have hB : th_B G Γ Γ [(18, 0), (17, 4), (7, 0), (8, 0), (24, 0), (23, 3), (26, 0), (25, 0), (6, 0), (9, 0)] H0 H0 [] := ⟨hI, va_S.rf, th_F_rf⟩
  have hl : lv_has ls 1 [(0, .ref a0)] := hl
  obtain ⟨F, hF0⟩ : ∃ F, F = f_X11_doPass (dv G Γ H0) ((a0 : Int)) := ⟨_, rfl⟩
  have hF := hF0.trans (f_X11_doPass.eq_1 (dv G Γ H0) ((a0 : Int)))
  refine lv_aload_n hx hb dX11_doPass_0 rfl (lv_at hl 0 rfl) ?_
  refine th_getR (j := 0) (r2 := 32) hC cf_X11 hB.1 h0 ro_42 rfl rfl kf_X11_12 dX11_doPass_1 (fun b1 mb1 hb1 => ?_)
  replace hF := hF.trans (dv_bn (dv_getR h0 ro_42 (j := 0) rfl mb1 (by decide)))
  refine th_getR (j := 0) (r2 := 3) hC cf_X8 hB.1 hb1 ro_32 rfl rfl kf_X11_107 dX11_doPass_4 (fun b2 mb2 hb2 => ?_)
  replace hF := hF.trans (dv_bn (dv_getR hb1 ro_32 (j := 0) rfl mb2 (by decide)))
  refine th_getO (j := 5) (r2 := 9) hC cf_X1 hB.1 hb2 ro_3 rfl rfl kf_X11_183 dX11_doPass_7 (fun b3 mb3 hb3 => ?_)
  refine lv_iconst (v := 0) hx hb dX11_doPass_10 (by decide) ?_
  refine th_ialdF hC hB.1 hb3 ro_9 rfl tk_0 (by omega) (by omega) rfl dX11_doPass_11 (fun x4 mx4 lx4 ux4 => ?_)
  replace hF := hF.trans (dv_bn (dv_aldI hB.1 hU hb3 ow_9 (z := 0) mx4 (by omega)))
  refine lv_sipush (v := 999) hx hb dX11_doPass_12 (by decide) ?_
  refine tr_icmp_lt (tgt := 21) hx hb dX11_doPass_15 (by decide) (Eq.refl _) tk_999 (fun c15 => ?_) (fun c15 => ?_)
  · replace hF := hF.trans (if_pos c15)
    refine lv_aload_n hx hb dX11_doPass_21 rfl (lv_at hl 0 rfl) ?_
    refine th_getR (j := 10) (r2 := 17) hC cf_X11 hB.1 h0 ro_42 rfl rfl kf_X11_72 dX11_doPass_22 (fun b5 mb5 hb5 => ?_)
    replace hF := hF.trans (dv_bn (dv_getR h0 ro_42 (j := 10) rfl mb5 (by decide)))
    refine lv_iconst (v := 3) hx hb dX11_doPass_25 (by decide) ?_
    refine lv_aload_n hx hb dX11_doPass_26 rfl (lv_at hl 0 rfl) ?_
    refine th_getK hC cf_X11 hB.1 h0 ro_42 rfl (j := 0) (by decide) mb1 kf_X11_12 dX11_doPass_27 ?_
    replace hF := hF.trans (dv_bn (dv_getR h0 ro_42 (j := 0) rfl mb1 (by decide)))
    refine th_getK hC cf_X8 hB.1 hb1 ro_32 rfl (j := 0) (by decide) mb2 kf_X11_107 dX11_doPass_30 ?_
    replace hF := hF.trans (dv_bn (dv_getR hb1 ro_32 (j := 0) rfl mb2 (by decide)))
    refine th_call (th_runV (As := [.int 3, .ref b2]) (rest := []) hC mf_X4_note km_X11_358 im_X4_note se_X4_note (c_X4_note l G Γ H0 hB.1 hR hU b5 hb5 3 b2 hb2) rfl rfl ⟨Nat.le_of_ble_eq_true rfl, Nat.le_of_ble_eq_true rfl⟩ hB.1 hb5 ro_17 rfl rfl hl.1 rfl (Nat.le_of_ble_eq_true rfl) dX11_doPass_33 ⟨Nat.le_refl _, Nat.le_refl _⟩) hB.2.1 (fun v33 H33 locs hp hz hS => ?_)
    obtain ⟨rfl, hI1, hf, hR, z33_0⟩ := hp
    have hB := th_B_c hB hI1 hS hf (by decide)
    have mm6 := (th_F_o hf h0 ro_42 (j := 0) (by decide) (by decide)).trans mb1
    have mm7 := (th_F_o hf hb1 ro_32 (j := 0) (by decide) (by decide)).trans mb2
    have zf33 := z33_0
    rw [tk_3] at zf33
    replace hF := hF.trans (dv_bn2 (zf33))
    refine W.eq (g2 := F0 m 36 ls []) rfl ?_
    refine lv_aload_n hx hb dX11_doPass_36 rfl (lv_at hl 0 rfl) ?_
    refine th_getK hC cf_X11 hB.1 h0 ro_42 rfl (j := 0) (by decide) mm6 kf_X11_12 dX11_doPass_37 ?_
    replace hF := hF.trans (dv_bn (dv_getR h0 ro_42 (j := 0) rfl mm6 (by decide)))
    refine th_getK hC cf_X8 hB.1 hb1 ro_32 rfl (j := 0) (by decide) mm7 kf_X11_107 dX11_doPass_40 ?_
    replace hF := hF.trans (dv_bn (dv_getR hb1 ro_32 (j := 0) rfl mm7 (by decide)))
    refine lv_aload_n hx hb dX11_doPass_43 rfl (lv_at hl 0 rfl) ?_
    refine th_getR (j := 9) (r2 := 11) hC cf_X11 hB.1 h0 ro_42 rfl rfl kf_X11_65 dX11_doPass_44 (fun b8 mb8 hb8 => ?_)
    replace hF := hF.trans (dv_bn (dv_getR h0 ro_42 (j := 9) rfl mb8 (by decide)))
    refine lv_aload_n hx hb dX11_doPass_47 rfl (lv_at hl 0 rfl) ?_
    refine th_getK hC cf_X11 hB.1 h0 ro_42 rfl (j := 0) (by decide) mm6 kf_X11_12 dX11_doPass_48 ?_
    replace hF := hF.trans (dv_bn (dv_getR h0 ro_42 (j := 0) rfl mm6 (by decide)))
    refine th_call (th_runV (As := []) (rest := [.ref b8, .ref b2]) hC mf_X8_forcedLaw km_X11_143 im_X8_forcedLaw se_X8_forcedLaw (c_X8_forcedLaw l G Γ H33 hB.1 hU b1 hb1) rfl rfl ⟨Nat.le_of_ble_eq_true rfl, Nat.le_of_ble_eq_true rfl⟩ hB.1 hb1 ro_32 rfl rfl hl.1 rfl (Nat.le_of_ble_eq_true rfl) dX11_doPass_51 ⟨Nat.le_refl _, Nat.le_refl _⟩) hB.2.1 (fun v51 H51 locs hp hz hS => ?_)
    obtain ⟨v9, rfl, hv9, q51_0, rfl⟩ := hp
    have hB := th_B_s hB hS
    replace hF := hF.trans (dv_bn2 (q51_0))
    refine W.eq (g2 := F0 m 54 ls [v9, .ref b8, .ref b2]) rfl ?_
    refine th_call (th_runV (As := [.ref b8, v9]) (rest := []) hC mf_X1_wearAYear km_X11_370 im_X1_wearAYear se_X1_wearAYear (c_X1_wearAYear l G Γ H33 hB.1 hR hU b2 hb2 b8 hb8 v9 hv9) rfl rfl ⟨Nat.le_of_ble_eq_true rfl, Nat.le_of_ble_eq_true rfl⟩ hB.1 hb2 ro_3 rfl rfl hl.1 rfl (Nat.le_of_ble_eq_true rfl) dX11_doPass_54 ⟨Nat.le_refl _, Nat.le_refl _⟩) hB.2.1 (fun v54 H54 locs hp hz hS => ?_)
    obtain ⟨x10, rfl, hI1, hf, hR, z54_0⟩ := hp
    have hB := th_B_c hB hI1 hS hf (by decide)
    have mm11 := (th_F_o hf h0 ro_42 (j := 0) (by decide) (by decide)).trans mm6
    have mm12 := (th_F_o hf hb1 ro_32 (j := 0) (by decide) (by decide)).trans mm7
    replace hF := hF.trans (dv_bn2 (z54_0))
    refine W.eq (g2 := F0 m 57 ls [.int x10]) rfl ?_
    exact th_iret hC hH hr hlocks rfl hB.2.1 ⟨_, rfl, hB.1, hB.2.2, hR, (hF0.symm.trans hF)⟩ dX11_doPass_57
  · replace hF := hF.trans (if_neg (Int.not_lt.mpr c15))
    refine lv_bipush (v := (-3)) hx hb dX11_doPass_18 (by decide) ?_
    exact th_iret hC hH hr hlocks rfl hB.2.1 ⟨_, rfl, hB.1, hB.2.2, hR, (hF0.symm.trans (hF.trans (by rw [tk_m3])))⟩ dX11_doPass_20

set_option maxHeartbeats 4000000 in
set_option maxRecDepth 100000 in
theorem c_X11_lay (l : Launch) (G : th_G) (Γ : th_Ga) (H0 : Heap) (hI : th_I G Γ H0) (hR : th_RC G Γ H0) (hU : dv_U Γ) (a0 : Nat) (h0 : Γ a0 = (42, 0)) (p1 : Int32) (p2 : Int32) (p3 : Int32) : Met l yX11_lay (.code yX11_lay cX11_lay 4 (some FieldType.int) :: th_tb) ({ frames := 6, cells := 0, slots := 0, locals := 154 } : Room) (th_P [.ref a0, .int p1, .int p2, .int p3] G H0) (th_Q (fun (v : Option Value) (H1 : Heap) => ∃ r : Int32, v = some (.int r) ∧ th_I G Γ H1 ∧ th_F G Γ [(45, 0), (42, 14), (24, 0), (23, 3), (26, 0), (25, 0), (18, 0), (17, 4), (7, 0), (8, 0), (3, 10)] H0 H1 ∧ th_RC G Γ H1 ∧ (f_X11_lay (dv G Γ H0) (a0 : Int) p1.toInt p2.toInt p3.toInt = (dv G Γ H1, r.toInt))) G) 0 0 (fun q => G.2.2 ≤ q) := by
  refine th_met RX11 (by decide) rfl (Nat.le_of_ble_eq_true rfl) ?_
  intro p e s m below meth c hC hH hr hlocks hnm ls hl
  have hx := hC.1
  have hb := hC.2.1
  have hB : th_B G Γ Γ [(45, 0), (42, 14), (24, 0), (23, 3), (26, 0), (25, 0), (18, 0), (17, 4), (7, 0), (8, 0), (3, 10)] H0 H0 [] := ⟨hI, va_S.rf, th_F_rf⟩
  have hl : lv_has ls 4 [(0, .ref a0), (1, .int p1), (2, .int p2), (3, .int p3)] := hl
  have lp1 := ti_lo p1; have up1 := ti_hi p1
  have lp2 := ti_lo p2; have up2 := ti_hi p2
  have lp3 := ti_lo p3; have up3 := ti_hi p3
  obtain ⟨F, hF0⟩ : ∃ F, F = f_X11_lay (dv G Γ H0) ((a0 : Int)) (p1.toInt) (p2.toInt) (p3.toInt) := ⟨_, rfl⟩
  have hF := hF0.trans (f_X11_lay.eq_1 (dv G Γ H0) ((a0 : Int)) (p1.toInt) (p2.toInt) (p3.toInt))
  refine lv_aload_n hx hb dX11_lay_0 rfl (lv_at hl 0 rfl) ?_
  refine lv_aload_n hx hb dX11_lay_1 rfl (lv_at hl 0 rfl) ?_
  refine lv_iload_n hx hb dX11_lay_2 rfl (lv_at hl 1 rfl) ?_
  refine lv_iload_n hx hb dX11_lay_3 rfl (lv_at hl 2 rfl) ?_
  refine lv_iload_n hx hb dX11_lay_4 rfl (lv_at hl 3 rfl) ?_
  refine th_call (th_runV (As := [.int p1, .int p2, .int p3]) (rest := [.ref a0]) hC mf_X11_doLay km_X11_233 im_X11_doLay se_X11_doLay (c_X11_doLay l G Γ H0 hB.1 hR hU a0 h0 p1 p2 p3) rfl rfl ⟨Nat.le_of_ble_eq_true rfl, Nat.le_of_ble_eq_true rfl⟩ hB.1 h0 ro_42 rfl rfl hl.1 rfl (Nat.le_of_ble_eq_true rfl) dX11_lay_5 ⟨Nat.le_refl _, Nat.le_refl _⟩) hB.2.1 (fun v5 H5 locs hp hz hS => ?_)
  obtain ⟨x1, rfl, hI1, hf, hR, z5_0⟩ := hp
  have hB := th_B_c hB hI1 hS hf (by decide)
  replace hF := hF.trans (dv_bn2 (z5_0))
  refine W.eq (g2 := F0 m 8 ls [.int x1, .ref a0]) rfl ?_
  refine th_call (th_runV (As := [.int x1]) (rest := []) hC mf_X11_answer km_X11_117 im_X11_answer se_X11_answer (c_X11_answer l G Γ H5 hB.1 hR hU a0 h0 x1) rfl rfl ⟨Nat.le_of_ble_eq_true rfl, Nat.le_of_ble_eq_true rfl⟩ hB.1 h0 ro_42 rfl rfl hl.1 rfl (Nat.le_of_ble_eq_true rfl) dX11_lay_8 ⟨Nat.le_refl _, Nat.le_refl _⟩) hB.2.1 (fun v8 H8 locs hp hz hS => ?_)
  obtain ⟨x2, rfl, q8_0, hI1, hf, hR, z8_0⟩ := hp
  have hB := th_B_c hB hI1 hS hf (by decide)
  replace hF := hF.trans (dv_bn2 (z8_0))
  refine W.eq (g2 := F0 m 11 ls [.int x2]) rfl ?_
  exact th_iret hC hH hr hlocks rfl hB.2.1 ⟨_, rfl, hB.1, hB.2.2, hR, (hF0.symm.trans hF)⟩ dX11_lay_11

set_option maxHeartbeats 4000000 in
set_option maxRecDepth 100000 in
theorem c_X11_roll (l : Launch) (G : th_G) (Γ : th_Ga) (H0 : Heap) (hI : th_I G Γ H0) (hR : th_RC G Γ H0) (hU : dv_U Γ) (a0 : Nat) (h0 : Γ a0 = (42, 0)) (p1 : Int32) : Met l yX11_roll (.code yX11_roll cX11_roll 2 (some FieldType.int) :: th_tb) ({ frames := 4, cells := 0, slots := 0, locals := 86 } : Room) (th_P [.ref a0, .int p1] G H0) (th_Q (fun (v : Option Value) (H1 : Heap) => ∃ r : Int32, v = some (.int r) ∧ th_I G Γ H1 ∧ th_F G Γ [(45, 0), (42, 14), (18, 0), (17, 4), (7, 0), (8, 0)] H0 H1 ∧ th_RC G Γ H1 ∧ (f_X11_roll (dv G Γ H0) (a0 : Int) p1.toInt = (dv G Γ H1, r.toInt))) G) 0 0 (fun q => G.2.2 ≤ q) := by
  refine th_met RX11 (by decide) rfl (Nat.le_of_ble_eq_true rfl) ?_
  intro p e s m below meth c hC hH hr hlocks hnm ls hl
  have hx := hC.1
  have hb := hC.2.1
  have hB : th_B G Γ Γ [(45, 0), (42, 14), (18, 0), (17, 4), (7, 0), (8, 0)] H0 H0 [] := ⟨hI, va_S.rf, th_F_rf⟩
  have hl : lv_has ls 2 [(0, .ref a0), (1, .int p1)] := hl
  have lp1 := ti_lo p1; have up1 := ti_hi p1
  obtain ⟨F, hF0⟩ : ∃ F, F = f_X11_roll (dv G Γ H0) ((a0 : Int)) (p1.toInt) := ⟨_, rfl⟩
  have hF := hF0.trans (f_X11_roll.eq_1 (dv G Γ H0) ((a0 : Int)) (p1.toInt))
  refine lv_aload_n hx hb dX11_roll_0 rfl (lv_at hl 0 rfl) ?_
  refine lv_aload_n hx hb dX11_roll_1 rfl (lv_at hl 0 rfl) ?_
  refine lv_iload_n hx hb dX11_roll_2 rfl (lv_at hl 1 rfl) ?_
  refine th_call (th_runV (As := [.int p1]) (rest := [.ref a0]) hC mf_X11_doRoll km_X11_236 im_X11_doRoll se_X11_doRoll (c_X11_doRoll l G Γ H0 hB.1 hR hU a0 h0 p1) rfl rfl ⟨Nat.le_of_ble_eq_true rfl, Nat.le_of_ble_eq_true rfl⟩ hB.1 h0 ro_42 rfl rfl hl.1 rfl (Nat.le_of_ble_eq_true rfl) dX11_roll_3 ⟨Nat.le_refl _, Nat.le_refl _⟩) hB.2.1 (fun v3 H3 locs hp hz hS => ?_)
  obtain ⟨x1, rfl, hI1, hf, hR, z3_0⟩ := hp
  have hB := th_B_c hB hI1 hS hf (by decide)
  replace hF := hF.trans (dv_bn2 (z3_0))
  refine W.eq (g2 := F0 m 6 ls [.int x1, .ref a0]) rfl ?_
  refine th_call (th_runV (As := [.int x1]) (rest := []) hC mf_X11_answer km_X11_117 im_X11_answer se_X11_answer (c_X11_answer l G Γ H3 hB.1 hR hU a0 h0 x1) rfl rfl ⟨Nat.le_of_ble_eq_true rfl, Nat.le_of_ble_eq_true rfl⟩ hB.1 h0 ro_42 rfl rfl hl.1 rfl (Nat.le_of_ble_eq_true rfl) dX11_roll_6 ⟨Nat.le_refl _, Nat.le_refl _⟩) hB.2.1 (fun v6 H6 locs hp hz hS => ?_)
  obtain ⟨x2, rfl, q6_0, hI1, hf, hR, z6_0⟩ := hp
  have hB := th_B_c hB hI1 hS hf (by decide)
  replace hF := hF.trans (dv_bn2 (z6_0))
  refine W.eq (g2 := F0 m 9 ls [.int x2]) rfl ?_
  exact th_iret hC hH hr hlocks rfl hB.2.1 ⟨_, rfl, hB.1, hB.2.2, hR, (hF0.symm.trans hF)⟩ dX11_roll_9

set_option maxHeartbeats 4000000 in
set_option maxRecDepth 100000 in
theorem c_X11_mirror (l : Launch) (G : th_G) (Γ : th_Ga) (H0 : Heap) (hI : th_I G Γ H0) (hR : th_RC G Γ H0) (hU : dv_U Γ) (a0 : Nat) (h0 : Γ a0 = (42, 0)) : Met l yX11_mirror (.code yX11_mirror cX11_mirror 1 (some FieldType.int) :: th_tb) ({ frames := 4, cells := 0, slots := 0, locals := 84 } : Room) (th_P [.ref a0] G H0) (th_Q (fun (v : Option Value) (H1 : Heap) => ∃ r : Int32, v = some (.int r) ∧ th_I G Γ H1 ∧ th_F G Γ [(45, 0), (42, 14), (18, 0), (17, 4), (7, 0), (8, 0)] H0 H1 ∧ th_RC G Γ H1 ∧ (f_X11_mirror (dv G Γ H0) (a0 : Int) = (dv G Γ H1, r.toInt))) G) 0 0 (fun q => G.2.2 ≤ q) := by
  refine th_met RX11 (by decide) rfl (Nat.le_of_ble_eq_true rfl) ?_
  intro p e s m below meth c hC hH hr hlocks hnm ls hl
  have hx := hC.1
  have hb := hC.2.1
  have hB : th_B G Γ Γ [(45, 0), (42, 14), (18, 0), (17, 4), (7, 0), (8, 0)] H0 H0 [] := ⟨hI, va_S.rf, th_F_rf⟩
  have hl : lv_has ls 1 [(0, .ref a0)] := hl
  obtain ⟨F, hF0⟩ : ∃ F, F = f_X11_mirror (dv G Γ H0) ((a0 : Int)) := ⟨_, rfl⟩
  have hF := hF0.trans (f_X11_mirror.eq_1 (dv G Γ H0) ((a0 : Int)))
  refine lv_aload_n hx hb dX11_mirror_0 rfl (lv_at hl 0 rfl) ?_
  refine lv_aload_n hx hb dX11_mirror_1 rfl (lv_at hl 0 rfl) ?_
  refine th_call (th_runV (As := []) (rest := [.ref a0]) hC mf_X11_doMirror km_X11_239 im_X11_doMirror se_X11_doMirror (c_X11_doMirror l G Γ H0 hB.1 hR hU a0 h0) rfl rfl ⟨Nat.le_of_ble_eq_true rfl, Nat.le_of_ble_eq_true rfl⟩ hB.1 h0 ro_42 rfl rfl hl.1 rfl (Nat.le_of_ble_eq_true rfl) dX11_mirror_2 ⟨Nat.le_refl _, Nat.le_refl _⟩) hB.2.1 (fun v2 H2 locs hp hz hS => ?_)
  obtain ⟨x1, rfl, hI1, hf, hR, z2_0⟩ := hp
  have hB := th_B_c hB hI1 hS hf (by decide)
  replace hF := hF.trans (dv_bn2 (z2_0))
  refine W.eq (g2 := F0 m 5 ls [.int x1, .ref a0]) rfl ?_
  refine th_call (th_runV (As := [.int x1]) (rest := []) hC mf_X11_answer km_X11_117 im_X11_answer se_X11_answer (c_X11_answer l G Γ H2 hB.1 hR hU a0 h0 x1) rfl rfl ⟨Nat.le_of_ble_eq_true rfl, Nat.le_of_ble_eq_true rfl⟩ hB.1 h0 ro_42 rfl rfl hl.1 rfl (Nat.le_of_ble_eq_true rfl) dX11_mirror_5 ⟨Nat.le_refl _, Nat.le_refl _⟩) hB.2.1 (fun v5 H5 locs hp hz hS => ?_)
  obtain ⟨x2, rfl, q5_0, hI1, hf, hR, z5_0⟩ := hp
  have hB := th_B_c hB hI1 hS hf (by decide)
  replace hF := hF.trans (dv_bn2 (z5_0))
  refine W.eq (g2 := F0 m 8 ls [.int x2]) rfl ?_
  exact th_iret hC hH hr hlocks rfl hB.2.1 ⟨_, rfl, hB.1, hB.2.2, hR, (hF0.symm.trans hF)⟩ dX11_mirror_8

set_option maxHeartbeats 4000000 in
set_option maxRecDepth 100000 in
theorem c_X11_pass (l : Launch) (G : th_G) (Γ : th_Ga) (H0 : Heap) (hI : th_I G Γ H0) (hR : th_RC G Γ H0) (hU : dv_U Γ) (a0 : Nat) (h0 : Γ a0 = (42, 0)) : Met l yX11_pass (.code yX11_pass cX11_pass 1 (some FieldType.int) :: th_tb) ({ frames := 6, cells := 0, slots := 0, locals := 147 } : Room) (th_P [.ref a0] G H0) (th_Q (fun (v : Option Value) (H1 : Heap) => ∃ r : Int32, v = some (.int r) ∧ th_I G Γ H1 ∧ th_F G Γ [(45, 0), (42, 14), (18, 0), (17, 4), (7, 0), (8, 0), (24, 0), (23, 3), (26, 0), (25, 0), (6, 0), (9, 0)] H0 H1 ∧ th_RC G Γ H1 ∧ (f_X11_pass (dv G Γ H0) (a0 : Int) = (dv G Γ H1, r.toInt))) G) 0 0 (fun q => G.2.2 ≤ q) := by
  refine th_met RX11 (by decide) rfl (Nat.le_of_ble_eq_true rfl) ?_
  intro p e s m below meth c hC hH hr hlocks hnm ls hl
  have hx := hC.1
  have hb := hC.2.1
  have hB : th_B G Γ Γ [(45, 0), (42, 14), (18, 0), (17, 4), (7, 0), (8, 0), (24, 0), (23, 3), (26, 0), (25, 0), (6, 0), (9, 0)] H0 H0 [] := ⟨hI, va_S.rf, th_F_rf⟩
  have hl : lv_has ls 1 [(0, .ref a0)] := hl
  obtain ⟨F, hF0⟩ : ∃ F, F = f_X11_pass (dv G Γ H0) ((a0 : Int)) := ⟨_, rfl⟩
  have hF := hF0.trans (f_X11_pass.eq_1 (dv G Γ H0) ((a0 : Int)))
  refine lv_aload_n hx hb dX11_pass_0 rfl (lv_at hl 0 rfl) ?_
  refine lv_aload_n hx hb dX11_pass_1 rfl (lv_at hl 0 rfl) ?_
  refine th_call (th_runV (As := []) (rest := [.ref a0]) hC mf_X11_doPass km_X11_242 im_X11_doPass se_X11_doPass (c_X11_doPass l G Γ H0 hB.1 hR hU a0 h0) rfl rfl ⟨Nat.le_of_ble_eq_true rfl, Nat.le_of_ble_eq_true rfl⟩ hB.1 h0 ro_42 rfl rfl hl.1 rfl (Nat.le_of_ble_eq_true rfl) dX11_pass_2 ⟨Nat.le_refl _, Nat.le_refl _⟩) hB.2.1 (fun v2 H2 locs hp hz hS => ?_)
  obtain ⟨x1, rfl, hI1, hf, hR, z2_0⟩ := hp
  have hB := th_B_c hB hI1 hS hf (by decide)
  replace hF := hF.trans (dv_bn2 (z2_0))
  refine W.eq (g2 := F0 m 5 ls [.int x1, .ref a0]) rfl ?_
  refine th_call (th_runV (As := [.int x1]) (rest := []) hC mf_X11_answer km_X11_117 im_X11_answer se_X11_answer (c_X11_answer l G Γ H2 hB.1 hR hU a0 h0 x1) rfl rfl ⟨Nat.le_of_ble_eq_true rfl, Nat.le_of_ble_eq_true rfl⟩ hB.1 h0 ro_42 rfl rfl hl.1 rfl (Nat.le_of_ble_eq_true rfl) dX11_pass_5 ⟨Nat.le_refl _, Nat.le_refl _⟩) hB.2.1 (fun v5 H5 locs hp hz hS => ?_)
  obtain ⟨x2, rfl, q5_0, hI1, hf, hR, z5_0⟩ := hp
  have hB := th_B_c hB hI1 hS hf (by decide)
  replace hF := hF.trans (dv_bn2 (z5_0))
  refine W.eq (g2 := F0 m 8 ls [.int x2]) rfl ?_
  exact th_iret hC hH hr hlocks rfl hB.2.1 ⟨_, rfl, hB.1, hB.2.2, hR, (hF0.symm.trans hF)⟩ dX11_pass_8

set_option maxHeartbeats 4000000 in
set_option maxRecDepth 100000 in
theorem c_X11_undo (l : Launch) (G : th_G) (Γ : th_Ga) (H0 : Heap) (hI : th_I G Γ H0) (hR : th_RC G Γ H0) (hU : dv_U Γ) (a0 : Nat) (h0 : Γ a0 = (42, 0)) : Met l yX11_undo (.code yX11_undo cX11_undo 1 (some FieldType.int) :: th_tb) ({ frames := 2, cells := 0, slots := 0, locals := 62 } : Room) (th_P [.ref a0] G H0) (th_Q (fun (v : Option Value) (H1 : Heap) => ∃ r : Int32, v = some (.int r) ∧ th_I G Γ H1 ∧ th_F G Γ [(45, 0), (42, 14), (6, 0), (9, 0), (3, 10), (17, 4), (7, 0), (8, 0)] H0 H1 ∧ th_RC G Γ H1 ∧ (f_X11_undo (dv G Γ H0) (a0 : Int) = (dv G Γ H1, r.toInt))) G) 0 0 (fun q => G.2.2 ≤ q) := by
  refine th_met RX11 (by decide) rfl (Nat.le_of_ble_eq_true rfl) ?_
  intro p e s m below meth c hC hH hr hlocks hnm ls hl
  have hx := hC.1
  have hb := hC.2.1
  have hB : th_B G Γ Γ [(45, 0), (42, 14), (6, 0), (9, 0), (3, 10), (17, 4), (7, 0), (8, 0)] H0 H0 [] := ⟨hI, va_S.rf, th_F_rf⟩
  have hl : lv_has ls 1 [(0, .ref a0)] := hl
  obtain ⟨F, hF0⟩ : ∃ F, F = f_X11_undo (dv G Γ H0) ((a0 : Int)) := ⟨_, rfl⟩
  have hF := hF0.trans (f_X11_undo.eq_1 (dv G Γ H0) ((a0 : Int)))
  refine lv_aload_n hx hb dX11_undo_0 rfl (lv_at hl 0 rfl) ?_
  refine lv_aload_n hx hb dX11_undo_1 rfl (lv_at hl 0 rfl) ?_
  refine th_getR (j := 10) (r2 := 17) hC cf_X11 hB.1 h0 ro_42 rfl rfl kf_X11_72 dX11_undo_2 (fun b1 mb1 hb1 => ?_)
  replace hF := hF.trans (dv_bn (dv_getR h0 ro_42 (j := 10) rfl mb1 (by decide)))
  refine lv_aload_n hx hb dX11_undo_5 rfl (lv_at hl 0 rfl) ?_
  refine th_getR (j := 0) (r2 := 32) hC cf_X11 hB.1 h0 ro_42 rfl rfl kf_X11_12 dX11_undo_6 (fun b2 mb2 hb2 => ?_)
  replace hF := hF.trans (dv_bn (dv_getR h0 ro_42 (j := 0) rfl mb2 (by decide)))
  refine th_getR (j := 0) (r2 := 3) hC cf_X8 hB.1 hb2 ro_32 rfl rfl kf_X11_107 dX11_undo_9 (fun b3 mb3 hb3 => ?_)
  replace hF := hF.trans (dv_bn (dv_getR hb2 ro_32 (j := 0) rfl mb3 (by decide)))
  refine th_call (th_runV (As := [.ref b3]) (rest := [.ref a0]) hC mf_X4_takeBack km_X11_245 im_X4_takeBack se_X4_takeBack (c_X4_takeBack l G Γ H0 hB.1 hR hU b1 hb1 b3 hb3) rfl rfl ⟨Nat.le_of_ble_eq_true rfl, Nat.le_of_ble_eq_true rfl⟩ hB.1 hb1 ro_17 rfl rfl hl.1 rfl (Nat.le_of_ble_eq_true rfl) dX11_undo_12 ⟨Nat.le_refl _, Nat.le_refl _⟩) hB.2.1 (fun v12 H12 locs hp hz hS => ?_)
  obtain ⟨x4, rfl, hI1, hf, hR, z12_0⟩ := hp
  have hB := th_B_c hB hI1 hS hf (by decide)
  replace hF := hF.trans (dv_bn2 (z12_0))
  refine W.eq (g2 := F0 m 15 ls [.int x4, .ref a0]) rfl ?_
  refine th_call (th_runV (As := [.int x4]) (rest := []) hC mf_X11_answer km_X11_117 im_X11_answer se_X11_answer (c_X11_answer l G Γ H12 hB.1 hR hU a0 h0 x4) rfl rfl ⟨Nat.le_of_ble_eq_true rfl, Nat.le_of_ble_eq_true rfl⟩ hB.1 h0 ro_42 rfl rfl hl.1 rfl (Nat.le_of_ble_eq_true rfl) dX11_undo_15 ⟨Nat.le_refl _, Nat.le_refl _⟩) hB.2.1 (fun v15 H15 locs hp hz hS => ?_)
  obtain ⟨x5, rfl, q15_0, hI1, hf, hR, z15_0⟩ := hp
  have hB := th_B_c hB hI1 hS hf (by decide)
  replace hF := hF.trans (dv_bn2 (z15_0))
  refine W.eq (g2 := F0 m 18 ls [.int x5]) rfl ?_
  exact th_iret hC hH hr hlocks rfl hB.2.1 ⟨_, rfl, hB.1, hB.2.2, hR, (hF0.symm.trans hF)⟩ dX11_undo_18

set_option maxHeartbeats 4000000 in
set_option maxRecDepth 100000 in
theorem c_X11_bare (l : Launch) (G : th_G) (Γ : th_Ga) (H0 : Heap) (hI : th_I G Γ H0) (hR : th_RC G Γ H0) (hU : dv_U Γ) (a0 : Nat) (h0 : Γ a0 = (42, 0)) (p1 : Int32) : Met l yX11_bare (.code yX11_bare cX11_bare 4 (some FieldType.int) :: th_tb) ({ frames := 4, cells := 0, slots := 0, locals := 88 } : Room) (th_P [.ref a0, .int p1] G H0) (th_Q (fun (v : Option Value) (H1 : Heap) => ∃ r : Int32, v = some (.int r) ∧ th_I G Γ H1 ∧ th_F G Γ [(10, 0)] H0 H1 ∧ th_RC G Γ H1 ∧ (f_X11_bare (dv G Γ H0) (a0 : Int) p1.toInt = (dv G Γ H1, r.toInt))) G) 0 0 (fun q => G.2.2 ≤ q) := by
  refine th_met RX11 (by decide) rfl (Nat.le_of_ble_eq_true rfl) ?_
  intro p e s m below meth c hC hH hr hlocks hnm ls hl
  have hx := hC.1
  have hb := hC.2.1
  have hB : th_B G Γ Γ [(10, 0)] H0 H0 [] := ⟨hI, va_S.rf, th_F_rf⟩
  have hl : lv_has ls 4 [(0, .ref a0), (1, .int p1)] := hl
  have lp1 := ti_lo p1; have up1 := ti_hi p1
  obtain ⟨F, hF0⟩ : ∃ F, F = f_X11_bare (dv G Γ H0) ((a0 : Int)) (p1.toInt) := ⟨_, rfl⟩
  have hF := hF0.trans (f_X11_bare.eq_1 (dv G Γ H0) ((a0 : Int)) (p1.toInt))
  refine lv_aload_n hx hb dX11_bare_0 rfl (lv_at hl 0 rfl) ?_
  refine th_getR (j := 0) (r2 := 32) hC cf_X11 hB.1 h0 ro_42 rfl rfl kf_X11_12 dX11_bare_1 (fun b1 mb1 hb1 => ?_)
  replace hF := hF.trans (dv_bn (dv_getR h0 ro_42 (j := 0) rfl mb1 (by decide)))
  refine th_getR (j := 0) (r2 := 3) hC cf_X8 hB.1 hb1 ro_32 rfl rfl kf_X11_107 dX11_bare_4 (fun b2 mb2 hb2 => ?_)
  replace hF := hF.trans (dv_bn (dv_getR hb1 ro_32 (j := 0) rfl mb2 (by decide)))
  refine lv_astore_n (lv' := [(2, .ref b2), (0, .ref a0), (1, .int p1)]) hx hb dX11_bare_7 rfl hl (by decide) rfl (fun ls hl => ?_)
  refine lv_iload_n hx hb dX11_bare_8 rfl (lv_at hl 2 rfl) ?_
  refine tr_if_ne (tgt := 17) hx hb dX11_bare_9 (by decide) (Eq.refl _) (fun c9 => ?_) (fun c9 => ?_)
  · replace hF := hF.trans (if_pos c9)
    refine lv_aload_n hx hb dX11_bare_17 rfl (lv_at hl 0 rfl) ?_
    refine th_call (th_runV (As := []) (rest := []) hC mf_X1_firstBareCell km_X11_252 im_X1_firstBareCell se_X1_firstBareCell (c_X1_firstBareCell l G Γ H0 hB.1 hR hU b2 hb2) rfl rfl ⟨Nat.le_of_ble_eq_true rfl, Nat.le_of_ble_eq_true rfl⟩ hB.1 hb2 ro_3 rfl rfl hl.1 rfl (Nat.le_of_ble_eq_true rfl) dX11_bare_18 ⟨Nat.le_refl _, Nat.le_refl _⟩) hB.2.1 (fun v18 H18 locs hp hz hS => ?_)
    obtain ⟨x3, rfl, lx3, ux3, hI1, hf, hR, z18_0⟩ := hp
    have hB := th_B_c hB hI1 hS hf (by decide)
    replace hF := hF.trans (dv_bn2 (z18_0))
    refine W.eq (g2 := F0 m 21 ls [.int x3]) rfl ?_
    refine lv_istore_n (lv' := [(3, .int x3), (2, .ref b2), (0, .ref a0), (1, .int p1)]) hx hb dX11_bare_21 rfl hl (by decide) rfl (fun ls hl => ?_)
    refine lv_iload_n hx hb dX11_bare_22 rfl (lv_at hl 0 rfl) ?_
    refine lv_iconst (v := (-1)) hx hb dX11_bare_23 (by decide) ?_
    refine tr_icmp_ne (tgt := 29) hx hb dX11_bare_24 (by decide) (Eq.refl _) tk_m1 (fun c24 => ?_) (fun c24 => ?_)
    · replace hF := hF.trans (if_pos c24)
      refine lv_iload_n hx hb dX11_bare_29 rfl (lv_at hl 3 rfl) ?_
      refine lv_iconst (v := 1) hx hb dX11_bare_30 (by decide) ?_
      refine tr_icmp_ne (tgt := 41) hx hb dX11_bare_31 (by decide) (Eq.refl _) tk_1 (fun c31 => ?_) (fun c31 => ?_)
      · replace hF := hF.trans (if_pos c31)
        refine lv_iload_n hx hb dX11_bare_41 rfl (lv_at hl 3 rfl) ?_
        refine lv_iconst (v := 2) hx hb dX11_bare_42 (by decide) ?_
        refine tr_icmp_ne (tgt := 53) hx hb dX11_bare_43 (by decide) (Eq.refl _) tk_2 (fun c43 => ?_) (fun c43 => ?_)
        · replace hF := hF.trans (if_pos c43)
          refine lv_iconst (v := (-1)) hx hb dX11_bare_53 (by decide) ?_
          exact th_iret hC hH hr hlocks rfl hB.2.1 ⟨_, rfl, hB.1, hB.2.2, hR, (hF0.symm.trans (hF.trans (by rw [tk_m1])))⟩ dX11_bare_54
        · replace hF := hF.trans (if_neg (not_not_intro c43))
          refine lv_iload_n hx hb dX11_bare_46 rfl (lv_at hl 0 rfl) ?_
          refine lv_bipush (v := 12) hx hb dX11_bare_47 (by decide) ?_
          refine tr_idiv hx hb dX11_bare_49 (Eq.refl _) tk_12 (by omega) (by omega) (fun x4 ex4 => ?_)
          replace hF := hF.trans (dv_bn (ex4.symm))
          refine lv_goto (tgt := 54) hx hb dX11_bare_50 (by decide) ?_
          exact th_iret hC hH hr hlocks rfl hB.2.1 ⟨_, rfl, hB.1, hB.2.2, hR, (hF0.symm.trans hF)⟩ dX11_bare_54
      · replace hF := hF.trans (if_neg (not_not_intro c31))
        refine lv_iload_n hx hb dX11_bare_34 rfl (lv_at hl 0 rfl) ?_
        refine lv_bipush (v := 12) hx hb dX11_bare_35 (by decide) ?_
        refine tr_irem hx hb dX11_bare_37 (Eq.refl _) tk_12 (by omega) (by omega) (fun x5 ex5 => ?_)
        replace hF := hF.trans (dv_bn (ex5.symm))
        refine lv_goto (tgt := 54) hx hb dX11_bare_38 (by decide) ?_
        exact th_iret hC hH hr hlocks rfl hB.2.1 ⟨_, rfl, hB.1, hB.2.2, hR, (hF0.symm.trans hF)⟩ dX11_bare_54
    · replace hF := hF.trans (if_neg (not_not_intro c24))
      refine lv_iconst (v := (-1)) hx hb dX11_bare_27 (by decide) ?_
      exact th_iret hC hH hr hlocks rfl hB.2.1 ⟨_, rfl, hB.1, hB.2.2, hR, (hF0.symm.trans (hF.trans (by rw [tk_m1])))⟩ dX11_bare_28
  · replace hF := hF.trans (if_neg (not_not_intro c9))
    refine lv_aload_n hx hb dX11_bare_12 rfl (lv_at hl 0 rfl) ?_
    refine th_call (th_runV (As := []) (rest := []) hC mf_X1_bareCells km_X11_249 im_X1_bareCells se_X1_bareCells (c_X1_bareCells l G Γ H0 hB.1 hU b2 hb2) rfl rfl ⟨Nat.le_of_ble_eq_true rfl, Nat.le_of_ble_eq_true rfl⟩ hB.1 hb2 ro_3 rfl rfl hl.1 rfl (Nat.le_of_ble_eq_true rfl) dX11_bare_13 ⟨Nat.le_refl _, Nat.le_refl _⟩) hB.2.1 (fun v13 H13 locs hp hz hS => ?_)
    obtain ⟨x6, rfl, q13_0, rfl⟩ := hp
    have hB := th_B_s hB hS
    replace hF := hF.trans (dv_bn2 (q13_0))
    refine W.eq (g2 := F0 m 16 ls [.int x6]) rfl ?_
    exact th_iret hC hH hr hlocks rfl hB.2.1 ⟨_, rfl, hB.1, hB.2.2, hR, (hF0.symm.trans hF)⟩ dX11_bare_16

set_option maxHeartbeats 4000000 in
set_option maxRecDepth 100000 in
theorem c_X11_inner (l : Launch) (G : th_G) (Γ : th_Ga) (H0 : Heap) (hI : th_I G Γ H0) (hU : dv_U Γ) (a0 : Nat) (h0 : Γ a0 = (42, 0)) : Met l yX11_inner (.code yX11_inner cX11_inner 1 (some FieldType.int) :: th_tb) ({ frames := 4, cells := 0, slots := 0, locals := 91 } : Room) (th_P [.ref a0] G H0) (th_Q (fun (v : Option Value) (H1 : Heap) => ∃ r : Int32, v = some (.int r) ∧ (f_X11_inner (dv G Γ H0) (a0 : Int) = (r.toInt, ())) ∧ H0 = H1) G) 0 0 (fun q => G.2.2 ≤ q) := by
  refine th_met RX11 (by decide) rfl (Nat.le_of_ble_eq_true rfl) ?_
  intro p e s m below meth c hC hH hr hlocks hnm ls hl
  have hx := hC.1
  have hb := hC.2.1
  have hB : th_B G Γ Γ [] H0 H0 [] := ⟨hI, va_S.rf, th_F_rf⟩
  have hl : lv_has ls 1 [(0, .ref a0)] := hl
  obtain ⟨F, hF0⟩ : ∃ F, F = f_X11_inner (dv G Γ H0) ((a0 : Int)) := ⟨_, rfl⟩
  have hF := hF0.trans (f_X11_inner.eq_1 (dv G Γ H0) ((a0 : Int)))
  refine lv_aload_n hx hb dX11_inner_0 rfl (lv_at hl 0 rfl) ?_
  refine th_getR (j := 0) (r2 := 32) hC cf_X11 hB.1 h0 ro_42 rfl rfl kf_X11_12 dX11_inner_1 (fun b1 mb1 hb1 => ?_)
  replace hF := hF.trans (dv_bn (dv_getR h0 ro_42 (j := 0) rfl mb1 (by decide)))
  refine th_getR (j := 0) (r2 := 3) hC cf_X8 hB.1 hb1 ro_32 rfl rfl kf_X11_107 dX11_inner_4 (fun b2 mb2 hb2 => ?_)
  replace hF := hF.trans (dv_bn (dv_getR hb1 ro_32 (j := 0) rfl mb2 (by decide)))
  refine th_call (th_runV (As := []) (rest := []) hC mf_X1_innerHalls km_X11_282 im_X1_innerHalls se_X1_innerHalls (c_X1_innerHalls l G Γ H0 hB.1 hU b2 hb2) rfl rfl ⟨Nat.le_of_ble_eq_true rfl, Nat.le_of_ble_eq_true rfl⟩ hB.1 hb2 ro_3 rfl rfl hl.1 rfl (Nat.le_of_ble_eq_true rfl) dX11_inner_7 ⟨Nat.le_refl _, Nat.le_refl _⟩) hB.2.1 (fun v7 H7 locs hp hz hS => ?_)
  obtain ⟨x3, rfl, q7_0, rfl⟩ := hp
  have hB := th_B_s hB hS
  replace hF := hF.trans (dv_bn2 (q7_0))
  refine W.eq (g2 := F0 m 10 ls [.int x3]) rfl ?_
  exact th_iret hC hH hr hlocks rfl hB.2.1 ⟨_, rfl, (hF0.symm.trans hF), rfl⟩ dX11_inner_10

set_option maxHeartbeats 4000000 in
set_option maxRecDepth 100000 in
theorem c_X11_crosses (l : Launch) (G : th_G) (Γ : th_Ga) (H0 : Heap) (hI : th_I G Γ H0) (hU : dv_U Γ) (a0 : Nat) (h0 : Γ a0 = (42, 0)) : Met l yX11_crosses (.code yX11_crosses cX11_crosses 1 (some FieldType.int) :: th_tb) ({ frames := 4, cells := 0, slots := 0, locals := 92 } : Room) (th_P [.ref a0] G H0) (th_Q (fun (v : Option Value) (H1 : Heap) => ∃ r : Int32, v = some (.int r) ∧ (f_X11_crosses (dv G Γ H0) (a0 : Int) = (r.toInt, ())) ∧ H0 = H1) G) 0 0 (fun q => G.2.2 ≤ q) := by
  refine th_met RX11 (by decide) rfl (Nat.le_of_ble_eq_true rfl) ?_
  intro p e s m below meth c hC hH hr hlocks hnm ls hl
  have hx := hC.1
  have hb := hC.2.1
  have hB : th_B G Γ Γ [] H0 H0 [] := ⟨hI, va_S.rf, th_F_rf⟩
  have hl : lv_has ls 1 [(0, .ref a0)] := hl
  obtain ⟨F, hF0⟩ : ∃ F, F = f_X11_crosses (dv G Γ H0) ((a0 : Int)) := ⟨_, rfl⟩
  have hF := hF0.trans (f_X11_crosses.eq_1 (dv G Γ H0) ((a0 : Int)))
  refine lv_aload_n hx hb dX11_crosses_0 rfl (lv_at hl 0 rfl) ?_
  refine th_getR (j := 0) (r2 := 32) hC cf_X11 hB.1 h0 ro_42 rfl rfl kf_X11_12 dX11_crosses_1 (fun b1 mb1 hb1 => ?_)
  replace hF := hF.trans (dv_bn (dv_getR h0 ro_42 (j := 0) rfl mb1 (by decide)))
  refine th_getR (j := 0) (r2 := 3) hC cf_X8 hB.1 hb1 ro_32 rfl rfl kf_X11_107 dX11_crosses_4 (fun b2 mb2 hb2 => ?_)
  replace hF := hF.trans (dv_bn (dv_getR hb1 ro_32 (j := 0) rfl mb2 (by decide)))
  refine th_call (th_runV (As := []) (rest := []) hC mf_X1_crossPoints km_X11_285 im_X1_crossPoints se_X1_crossPoints (c_X1_crossPoints l G Γ H0 hB.1 hU b2 hb2) rfl rfl ⟨Nat.le_of_ble_eq_true rfl, Nat.le_of_ble_eq_true rfl⟩ hB.1 hb2 ro_3 rfl rfl hl.1 rfl (Nat.le_of_ble_eq_true rfl) dX11_crosses_7 ⟨Nat.le_refl _, Nat.le_refl _⟩) hB.2.1 (fun v7 H7 locs hp hz hS => ?_)
  obtain ⟨x3, rfl, q7_0, rfl⟩ := hp
  have hB := th_B_s hB hS
  replace hF := hF.trans (dv_bn2 (q7_0))
  refine W.eq (g2 := F0 m 10 ls [.int x3]) rfl ?_
  exact th_iret hC hH hr hlocks rfl hB.2.1 ⟨_, rfl, (hF0.symm.trans hF), rfl⟩ dX11_crosses_10

set_option maxHeartbeats 4000000 in
set_option maxRecDepth 100000 in
theorem c_X11_alike (l : Launch) (G : th_G) (Γ : th_Ga) (H0 : Heap) (hI : th_I G Γ H0) (hU : dv_U Γ) (a0 : Nat) (h0 : Γ a0 = (42, 0)) : Met l yX11_alike (.code yX11_alike cX11_alike 1 (some FieldType.int) :: th_tb) ({ frames := 3, cells := 0, slots := 0, locals := 65 } : Room) (th_P [.ref a0] G H0) (th_Q (fun (v : Option Value) (H1 : Heap) => ∃ r : Int32, v = some (.int r) ∧ (f_X11_alike (dv G Γ H0) (a0 : Int) = (r.toInt, ())) ∧ H0 = H1) G) 0 0 (fun q => G.2.2 ≤ q) := by
  refine th_met RX11 (by decide) rfl (Nat.le_of_ble_eq_true rfl) ?_
  intro p e s m below meth c hC hH hr hlocks hnm ls hl
  have hx := hC.1
  have hb := hC.2.1
  have hB : th_B G Γ Γ [] H0 H0 [] := ⟨hI, va_S.rf, th_F_rf⟩
  have hl : lv_has ls 1 [(0, .ref a0)] := hl
  obtain ⟨F, hF0⟩ : ∃ F, F = f_X11_alike (dv G Γ H0) ((a0 : Int)) := ⟨_, rfl⟩
  have hF := hF0.trans (f_X11_alike.eq_1 (dv G Γ H0) ((a0 : Int)))
  refine lv_aload_n hx hb dX11_alike_0 rfl (lv_at hl 0 rfl) ?_
  refine th_getR (j := 0) (r2 := 32) hC cf_X11 hB.1 h0 ro_42 rfl rfl kf_X11_12 dX11_alike_1 (fun b1 mb1 hb1 => ?_)
  replace hF := hF.trans (dv_bn (dv_getR h0 ro_42 (j := 0) rfl mb1 (by decide)))
  refine th_getR (j := 0) (r2 := 3) hC cf_X8 hB.1 hb1 ro_32 rfl rfl kf_X11_107 dX11_alike_4 (fun b2 mb2 hb2 => ?_)
  replace hF := hF.trans (dv_bn (dv_getR hb1 ro_32 (j := 0) rfl mb2 (by decide)))
  refine th_call (th_runV (As := []) (rest := []) hC mf_X1_twosOfOneSide km_X11_295 im_X1_twosOfOneSide se_X1_twosOfOneSide (c_X1_twosOfOneSide l G Γ H0 hB.1 hU b2 hb2) rfl rfl ⟨Nat.le_of_ble_eq_true rfl, Nat.le_of_ble_eq_true rfl⟩ hB.1 hb2 ro_3 rfl rfl hl.1 rfl (Nat.le_of_ble_eq_true rfl) dX11_alike_7 ⟨Nat.le_refl _, Nat.le_refl _⟩) hB.2.1 (fun v7 H7 locs hp hz hS => ?_)
  obtain ⟨x3, rfl, q7_0, rfl⟩ := hp
  have hB := th_B_s hB hS
  replace hF := hF.trans (dv_bn2 (q7_0))
  refine W.eq (g2 := F0 m 10 ls [.int x3]) rfl ?_
  exact th_iret hC hH hr hlocks rfl hB.2.1 ⟨_, rfl, (hF0.symm.trans hF), rfl⟩ dX11_alike_10

set_option maxHeartbeats 4000000 in
set_option maxRecDepth 100000 in
theorem c_X11_currents (l : Launch) (G : th_G) (Γ : th_Ga) (H0 : Heap) (hI : th_I G Γ H0) (hU : dv_U Γ) (a0 : Nat) (h0 : Γ a0 = (42, 0)) (p1 : Int32) (p2 : Int32) : Met l yX11_currents (.code yX11_currents cX11_currents 3 (some FieldType.int) :: th_tb) ({ frames := 3, cells := 0, slots := 0, locals := 66 } : Room) (th_P [.ref a0, .int p1, .int p2] G H0) (th_Q (fun (v : Option Value) (H1 : Heap) => ∃ r : Int32, v = some (.int r) ∧ (f_X11_currents (dv G Γ H0) (a0 : Int) p1.toInt p2.toInt = (r.toInt, ())) ∧ H0 = H1) G) 0 0 (fun q => G.2.2 ≤ q) := by
  refine th_met RX11 (by decide) rfl (Nat.le_of_ble_eq_true rfl) ?_
  intro p e s m below meth c hC hH hr hlocks hnm ls hl
  have hx := hC.1
  have hb := hC.2.1
  have hB : th_B G Γ Γ [] H0 H0 [] := ⟨hI, va_S.rf, th_F_rf⟩
  have hl : lv_has ls 3 [(0, .ref a0), (1, .int p1), (2, .int p2)] := hl
  have lp1 := ti_lo p1; have up1 := ti_hi p1
  have lp2 := ti_lo p2; have up2 := ti_hi p2
  obtain ⟨F, hF0⟩ : ∃ F, F = f_X11_currents (dv G Γ H0) ((a0 : Int)) (p1.toInt) (p2.toInt) := ⟨_, rfl⟩
  have hF := hF0.trans (f_X11_currents.eq_1 (dv G Γ H0) ((a0 : Int)) (p1.toInt) (p2.toInt))
  refine lv_iload_n hx hb dX11_currents_0 rfl (lv_at hl 1 rfl) ?_
  refine tr_if_lt (tgt := 27) hx hb dX11_currents_1 (by decide) (Eq.refl _) (fun c1 => ?_) (fun c1 => ?_)
  · replace hF := hF.trans (if_pos c1)
    refine lv_iconst (v := (-1)) hx hb dX11_currents_27 (by decide) ?_
    exact th_iret hC hH hr hlocks rfl hB.2.1 ⟨_, rfl, (hF0.symm.trans (hF.trans (by rw [tk_m1]))), rfl⟩ dX11_currents_28
  · replace hF := hF.trans (if_neg (Int.not_lt.mpr c1))
    refine lv_iload_n hx hb dX11_currents_4 rfl (lv_at hl 1 rfl) ?_
    refine lv_aload_n hx hb dX11_currents_5 rfl (lv_at hl 0 rfl) ?_
    refine th_getR (j := 0) (r2 := 32) hC cf_X11 hB.1 h0 ro_42 rfl rfl kf_X11_12 dX11_currents_6 (fun b1 mb1 hb1 => ?_)
    replace hF := hF.trans (dv_bn (dv_getR h0 ro_42 (j := 0) rfl mb1 (by decide)))
    refine th_getR (j := 0) (r2 := 3) hC cf_X8 hB.1 hb1 ro_32 rfl rfl kf_X11_107 dX11_currents_9 (fun b2 mb2 hb2 => ?_)
    replace hF := hF.trans (dv_bn (dv_getR hb1 ro_32 (j := 0) rfl mb2 (by decide)))
    refine th_getI (j := 9) hC cf_X1 hB.1 hb2 ro_3 rfl rfl kf_X11_158 dX11_currents_12 (fun x3 mx3 lx3 ux3 => ?_)
    replace hF := hF.trans (dv_bn (dv_getI hb2 ro_3 (j := 9) rfl mx3 (by decide)))
    refine tr_icmp_gt (tgt := 27) hx hb dX11_currents_15 (by decide) (Eq.refl _) (Eq.refl _) (fun c15 => ?_) (fun c15 => ?_)
    · replace hF := hF.trans (if_pos c15)
      refine lv_iconst (v := (-1)) hx hb dX11_currents_27 (by decide) ?_
      exact th_iret hC hH hr hlocks rfl hB.2.1 ⟨_, rfl, (hF0.symm.trans (hF.trans (by rw [tk_m1]))), rfl⟩ dX11_currents_28
    · replace hF := hF.trans (if_neg (Int.not_lt.mpr c15))
      refine lv_iload_n hx hb dX11_currents_18 rfl (lv_at hl 2 rfl) ?_
      refine tr_if_lt (tgt := 27) hx hb dX11_currents_19 (by decide) (Eq.refl _) (fun c19 => ?_) (fun c19 => ?_)
      · replace hF := hF.trans (if_pos c19)
        refine lv_iconst (v := (-1)) hx hb dX11_currents_27 (by decide) ?_
        exact th_iret hC hH hr hlocks rfl hB.2.1 ⟨_, rfl, (hF0.symm.trans (hF.trans (by rw [tk_m1]))), rfl⟩ dX11_currents_28
      · replace hF := hF.trans (if_neg (Int.not_lt.mpr c19))
        refine lv_iload_n hx hb dX11_currents_22 rfl (lv_at hl 2 rfl) ?_
        refine lv_iconst (v := 1) hx hb dX11_currents_23 (by decide) ?_
        refine tr_icmp_le (tgt := 29) hx hb dX11_currents_24 (by decide) (Eq.refl _) tk_1 (fun c24 => ?_) (fun c24 => ?_)
        · replace hF := hF.trans (if_pos c24)
          refine lv_aload_n hx hb dX11_currents_29 rfl (lv_at hl 0 rfl) ?_
          refine th_getK hC cf_X11 hB.1 h0 ro_42 rfl (j := 0) (by decide) mb1 kf_X11_12 dX11_currents_30 ?_
          replace hF := hF.trans (dv_bn (dv_getR h0 ro_42 (j := 0) rfl mb1 (by decide)))
          refine th_getK hC cf_X8 hB.1 hb1 ro_32 rfl (j := 0) (by decide) mb2 kf_X11_107 dX11_currents_33 ?_
          replace hF := hF.trans (dv_bn (dv_getR hb1 ro_32 (j := 0) rfl mb2 (by decide)))
          refine lv_iload_n hx hb dX11_currents_36 rfl (lv_at hl 1 rfl) ?_
          refine lv_iload_n hx hb dX11_currents_37 rfl (lv_at hl 2 rfl) ?_
          refine lv_iconst (v := 1) hx hb dX11_currents_38 (by decide) ?_
          have jn47 : ∀ (locs : List Loc) (ls : Array Slot) (s47_2 : Int32), th_B G Γ Γ [] H0 H0 locs → lv_has ls 3 [] → F = f_X11_currents_47 (dv G Γ H0) ((b2 : Int)) (p1.toInt) (s47_2.toInt) → 0 ≤ s47_2.toInt → s47_2.toInt ≤ 1 → W p l e ({ frames := 3, cells := 0, slots := 0, locals := 66 } : Room) s m ([.ref a0, .int p1, .int p2] : List Value).toArray below meth c H0 locs 0 0 (MQ below (th_Q (fun (v : Option Value) (H1 : Heap) => ∃ r : Int32, v = some (.int r) ∧ (f_X11_currents (dv G Γ H0) (a0 : Int) p1.toInt p2.toInt = (r.toInt, ())) ∧ H0 = H1) G) ([.ref a0, .int p1, .int p2] : List Value).toArray s 0 0 (fun q => G.2.2 ≤ q)) (F0 m 47 ls [.int s47_2, .int p1, .ref b2]) := by
            intro locs ls s47_2 hB hl hF g47_0 g47_1
            have ls47_2 := ti_lo s47_2; have us47_2 := ti_hi s47_2
            replace hF := hF.trans (f_X11_currents_47.eq_1 (dv G Γ H0) ((b2 : Int)) (p1.toInt) (s47_2.toInt))
            refine th_call (th_runV (As := [.int p1, .int s47_2]) (rest := []) hC mf_X1_sidesAtLine km_X11_288 im_X1_sidesAtLine se_X1_sidesAtLine (c_X1_sidesAtLine l G Γ H0 hB.1 hU b2 hb2 p1 s47_2 (by omega) (by omega)) rfl rfl ⟨Nat.le_of_ble_eq_true rfl, Nat.le_of_ble_eq_true rfl⟩ hB.1 hb2 ro_3 rfl rfl hl.1 rfl (Nat.le_of_ble_eq_true rfl) dX11_currents_47 ⟨Nat.le_refl _, Nat.le_refl _⟩) hB.2.1 (fun v47 H47 locs hp hz hS => ?_)
            obtain ⟨x4, rfl, q47_0, rfl⟩ := hp
            have hB := th_B_s hB hS
            replace hF := hF.trans (dv_bn2 (q47_0))
            refine W.eq (g2 := F0 m 50 ls [.int x4]) rfl ?_
            exact th_iret hC hH hr hlocks rfl hB.2.1 ⟨_, rfl, (hF0.symm.trans hF), rfl⟩ dX11_currents_50
          refine tr_icmp_ne (tgt := 46) hx hb dX11_currents_39 (by decide) (Eq.refl _) tk_1 (fun c39 => ?_) (fun c39 => ?_)
          · replace hF := hF.trans (if_pos c39)
            refine lv_iconst (v := 0) hx hb dX11_currents_46 (by decide) ?_
            exact jn47 [] ls 0 hB (lv_sub hl [] rfl) (by rw [tk_0]; exact hF) (by decide) (by decide)
          · replace hF := hF.trans (if_neg (not_not_intro c39))
            refine lv_iconst (v := 1) hx hb dX11_currents_42 (by decide) ?_
            refine lv_goto (tgt := 47) hx hb dX11_currents_43 (by decide) ?_
            exact jn47 [] ls 1 hB (lv_sub hl [] rfl) (by rw [tk_1]; exact hF) (by decide) (by decide)
        · replace hF := hF.trans (if_neg (Int.not_le.mpr c24))
          refine lv_iconst (v := (-1)) hx hb dX11_currents_27 (by decide) ?_
          exact th_iret hC hH hr hlocks rfl hB.2.1 ⟨_, rfl, (hF0.symm.trans (hF.trans (by rw [tk_m1]))), rfl⟩ dX11_currents_28

set_option maxHeartbeats 4000000 in
set_option maxRecDepth 100000 in
theorem c_X11_fitting (l : Launch) (G : th_G) (Γ : th_Ga) (H0 : Heap) (hI : th_I G Γ H0) (hR : th_RC G Γ H0) (hU : dv_U Γ) (a0 : Nat) (h0 : Γ a0 = (42, 0)) (p1 : Int32) : Met l yX11_fitting (.code yX11_fitting cX11_fitting 2 (some FieldType.int) :: th_tb) ({ frames := 4, cells := 0, slots := 0, locals := 91 } : Room) (th_P [.ref a0, .int p1] G H0) (th_Q (fun (v : Option Value) (H1 : Heap) => ∃ r : Int32, v = some (.int r) ∧ th_I G Γ H1 ∧ th_F G Γ [(10, 0)] H0 H1 ∧ th_RC G Γ H1 ∧ (f_X11_fitting (dv G Γ H0) (a0 : Int) p1.toInt = (dv G Γ H1, r.toInt))) G) 0 0 (fun q => G.2.2 ≤ q) := by
  refine th_met RX11 (by decide) rfl (Nat.le_of_ble_eq_true rfl) ?_
  intro p e s m below meth c hC hH hr hlocks hnm ls hl
  have hx := hC.1
  have hb := hC.2.1
  have hB : th_B G Γ Γ [(10, 0)] H0 H0 [] := ⟨hI, va_S.rf, th_F_rf⟩
  have hl : lv_has ls 2 [(0, .ref a0), (1, .int p1)] := hl
  have lp1 := ti_lo p1; have up1 := ti_hi p1
  obtain ⟨F, hF0⟩ : ∃ F, F = f_X11_fitting (dv G Γ H0) ((a0 : Int)) (p1.toInt) := ⟨_, rfl⟩
  have hF := hF0.trans (f_X11_fitting.eq_1 (dv G Γ H0) ((a0 : Int)) (p1.toInt))
  refine lv_iload_n hx hb dX11_fitting_0 rfl (lv_at hl 1 rfl) ?_
  refine lv_iconst (v := 1) hx hb dX11_fitting_1 (by decide) ?_
  refine tr_icmp_lt (tgt := 11) hx hb dX11_fitting_2 (by decide) (Eq.refl _) tk_1 (fun c2 => ?_) (fun c2 => ?_)
  · replace hF := hF.trans (if_pos c2)
    refine lv_iconst (v := (-1)) hx hb dX11_fitting_11 (by decide) ?_
    refine lv_goto (tgt := 26) hx hb dX11_fitting_12 (by decide) ?_
    exact th_iret hC hH hr hlocks rfl hB.2.1 ⟨_, rfl, hB.1, hB.2.2, hR, (hF0.symm.trans (hF.trans (by rw [tk_m1])))⟩ dX11_fitting_26
  · replace hF := hF.trans (if_neg (Int.not_lt.mpr c2))
    refine lv_iload_n hx hb dX11_fitting_5 rfl (lv_at hl 1 rfl) ?_
    refine lv_bipush (v := 12) hx hb dX11_fitting_6 (by decide) ?_
    refine tr_icmp_le (tgt := 15) hx hb dX11_fitting_8 (by decide) (Eq.refl _) tk_12 (fun c8 => ?_) (fun c8 => ?_)
    · replace hF := hF.trans (if_pos c8)
      refine lv_aload_n hx hb dX11_fitting_15 rfl (lv_at hl 0 rfl) ?_
      refine th_getR (j := 0) (r2 := 32) hC cf_X11 hB.1 h0 ro_42 rfl rfl kf_X11_12 dX11_fitting_16 (fun b1 mb1 hb1 => ?_)
      replace hF := hF.trans (dv_bn (dv_getR h0 ro_42 (j := 0) rfl mb1 (by decide)))
      refine th_getR (j := 0) (r2 := 3) hC cf_X8 hB.1 hb1 ro_32 rfl rfl kf_X11_107 dX11_fitting_19 (fun b2 mb2 hb2 => ?_)
      replace hF := hF.trans (dv_bn (dv_getR hb1 ro_32 (j := 0) rfl mb2 (by decide)))
      refine lv_iload_n hx hb dX11_fitting_22 rfl (lv_at hl 1 rfl) ?_
      refine th_call (th_runV (As := [.int p1]) (rest := []) hC mf_X1_placesFor km_X11_292 im_X1_placesFor se_X1_placesFor (c_X1_placesFor l G Γ H0 hB.1 hR hU b2 hb2 p1 (by omega) (by omega)) rfl rfl ⟨Nat.le_of_ble_eq_true rfl, Nat.le_of_ble_eq_true rfl⟩ hB.1 hb2 ro_3 rfl rfl hl.1 rfl (Nat.le_of_ble_eq_true rfl) dX11_fitting_23 ⟨Nat.le_refl _, Nat.le_refl _⟩) hB.2.1 (fun v23 H23 locs hp hz hS => ?_)
      obtain ⟨x3, rfl, hI1, hf, hR, z23_0⟩ := hp
      have hB := th_B_c hB hI1 hS hf (by decide)
      replace hF := hF.trans (dv_bn2 (z23_0))
      refine W.eq (g2 := F0 m 26 ls [.int x3]) rfl ?_
      exact th_iret hC hH hr hlocks rfl hB.2.1 ⟨_, rfl, hB.1, hB.2.2, hR, (hF0.symm.trans hF)⟩ dX11_fitting_26
    · replace hF := hF.trans (if_neg (Int.not_le.mpr c8))
      refine lv_iconst (v := (-1)) hx hb dX11_fitting_11 (by decide) ?_
      refine lv_goto (tgt := 26) hx hb dX11_fitting_12 (by decide) ?_
      exact th_iret hC hH hr hlocks rfl hB.2.1 ⟨_, rfl, hB.1, hB.2.2, hR, (hF0.symm.trans (hF.trans (by rw [tk_m1])))⟩ dX11_fitting_26

set_option maxHeartbeats 4000000 in
set_option maxRecDepth 100000 in
theorem c_X11_seen (l : Launch) (G : th_G) (Γ : th_Ga) (H0 : Heap) (hI : th_I G Γ H0) (hR : th_RC G Γ H0) (hU : dv_U Γ) (a0 : Nat) (h0 : Γ a0 = (42, 0)) (p1 : Int32) (p2 : Int32) (p3 : Int32) : Met l yX11_seen (.code yX11_seen cX11_seen 4 (some FieldType.int) :: th_tb) ({ frames := 1, cells := 0, slots := 0, locals := 21 } : Room) (th_P [.ref a0, .int p1, .int p2, .int p3] G H0) (th_Q (fun (v : Option Value) (H1 : Heap) => ∃ r : Int32, v = some (.int r) ∧ th_I G Γ H1 ∧ th_F G Γ [(45, 0), (42, 14), (34, 0), (35, 0), (36, 0), (32, 7)] H0 H1 ∧ th_RC G Γ H1 ∧ (f_X11_seen (dv G Γ H0) (a0 : Int) p1.toInt p2.toInt p3.toInt = (dv G Γ H1, r.toInt))) G) 0 0 (fun q => G.2.2 ≤ q) := by
  refine th_met RX11 (by decide) rfl (Nat.le_of_ble_eq_true rfl) ?_
  intro p e s m below meth c hC hH hr hlocks hnm ls hl
  have hx := hC.1
  have hb := hC.2.1
  have hB : th_B G Γ Γ [(45, 0), (42, 14), (34, 0), (35, 0), (36, 0), (32, 7)] H0 H0 [] := ⟨hI, va_S.rf, th_F_rf⟩
  have hl : lv_has ls 4 [(0, .ref a0), (1, .int p1), (2, .int p2), (3, .int p3)] := hl
  have lp1 := ti_lo p1; have up1 := ti_hi p1
  have lp2 := ti_lo p2; have up2 := ti_hi p2
  have lp3 := ti_lo p3; have up3 := ti_hi p3
  obtain ⟨F, hF0⟩ : ∃ F, F = f_X11_seen (dv G Γ H0) ((a0 : Int)) (p1.toInt) (p2.toInt) (p3.toInt) := ⟨_, rfl⟩
  have hF := hF0.trans (f_X11_seen.eq_1 (dv G Γ H0) ((a0 : Int)) (p1.toInt) (p2.toInt) (p3.toInt))
  refine lv_iload_n hx hb dX11_seen_0 rfl (lv_at hl 1 rfl) ?_
  refine th_call (th_runS (As := [.int p1]) (rest := []) hC mf_X11_onGrid km_X11_165 st_X11_onGrid (c_X11_onGrid l G Γ H0 hB.1 hU p1) rfl rfl ⟨Nat.le_of_ble_eq_true rfl, Nat.le_of_ble_eq_true rfl⟩ rfl hl.1 rfl (Nat.le_of_ble_eq_true rfl) dX11_seen_1 ⟨Nat.le_refl _, Nat.le_refl _⟩) hB.2.1 (fun v1 H1 locs hp hz hS => ?_)
  obtain ⟨x1, rfl, lx1, ux1, q1_0, q1_1, rfl⟩ := hp
  have hB := th_B_s hB hS
  replace hF := hF.trans (dv_bn2 (q1_1))
  refine W.eq (g2 := F0 m 4 ls [.int x1]) rfl ?_
  have jn25 : ∀ (locs : List Loc) (ls : Array Slot) , th_B G Γ Γ [(45, 0), (42, 14), (34, 0), (35, 0), (36, 0), (32, 7)] H0 H0 locs → lv_has ls 4 [(0, .ref a0)] → F = f_X11_seen_25 (dv G Γ H0) ((a0 : Int)) → W p l e ({ frames := 1, cells := 0, slots := 0, locals := 21 } : Room) s m ([.ref a0, .int p1, .int p2, .int p3] : List Value).toArray below meth c H0 locs 0 0 (MQ below (th_Q (fun (v : Option Value) (H1 : Heap) => ∃ r : Int32, v = some (.int r) ∧ th_I G Γ H1 ∧ th_F G Γ [(45, 0), (42, 14), (34, 0), (35, 0), (36, 0), (32, 7)] H0 H1 ∧ th_RC G Γ H1 ∧ (f_X11_seen (dv G Γ H0) (a0 : Int) p1.toInt p2.toInt p3.toInt = (dv G Γ H1, r.toInt))) G) ([.ref a0, .int p1, .int p2, .int p3] : List Value).toArray s 0 0 (fun q => G.2.2 ≤ q)) (F0 m 25 ls []) := by
    intro locs ls hB hl hF
    replace hF := hF.trans (f_X11_seen_25.eq_1 (dv G Γ H0) ((a0 : Int)))
    refine lv_aload_n hx hb dX11_seen_25 rfl (lv_at hl 0 rfl) ?_
    refine lv_iconst (v := (-1)) hx hb dX11_seen_26 (by decide) ?_
    refine th_call (th_runV (As := [.int (-1)]) (rest := []) hC mf_X11_answer km_X11_117 im_X11_answer se_X11_answer (c_X11_answer l G Γ H0 hB.1 hR hU a0 h0 (-1)) rfl rfl ⟨Nat.le_of_ble_eq_true rfl, Nat.le_of_ble_eq_true rfl⟩ hB.1 h0 ro_42 rfl rfl hl.1 rfl (Nat.le_of_ble_eq_true rfl) dX11_seen_27 ⟨Nat.le_refl _, Nat.le_refl _⟩) hB.2.1 (fun v27 H27 locs hp hz hS => ?_)
    obtain ⟨x2, rfl, q27_0, hI1, hf, hR, z27_0⟩ := hp
    have hB := th_B_c hB hI1 hS hf (by decide)
    have w27_0 := tk_m1
    have zf27 := z27_0
    rw [tk_m1] at zf27
    replace hF := hF.trans (dv_bn2 (zf27))
    refine W.eq (g2 := F0 m 30 ls [.int x2]) rfl ?_
    exact th_iret hC hH hr hlocks rfl hB.2.1 ⟨_, rfl, hB.1, hB.2.2, hR, (hF0.symm.trans hF)⟩ dX11_seen_30
  refine tr_if_eq (tgt := 25) hx hb dX11_seen_4 (by decide) (Eq.refl _) (fun c4 => ?_) (fun c4 => ?_)
  · replace hF := hF.trans (if_pos c4)
    exact jn25 locs ls hB (lv_sub hl [0] rfl) hF
  · replace hF := hF.trans (if_neg c4)
    refine lv_iload_n hx hb dX11_seen_7 rfl (lv_at hl 2 rfl) ?_
    refine th_call (th_runS (As := [.int p2]) (rest := []) hC mf_X11_onGrid km_X11_165 st_X11_onGrid (c_X11_onGrid l G Γ H0 hB.1 hU p2) rfl rfl ⟨Nat.le_of_ble_eq_true rfl, Nat.le_of_ble_eq_true rfl⟩ rfl hl.1 rfl (Nat.le_of_ble_eq_true rfl) dX11_seen_8 ⟨Nat.le_refl _, Nat.le_refl _⟩) hB.2.1 (fun v8 H8 locs hp hz hS => ?_)
    obtain ⟨x3, rfl, lx3, ux3, q8_0, q8_1, rfl⟩ := hp
    have hB := th_B_s hB hS
    replace hF := hF.trans (dv_bn2 (q8_1))
    refine W.eq (g2 := F0 m 11 ls [.int x3]) rfl ?_
    refine tr_if_eq (tgt := 25) hx hb dX11_seen_11 (by decide) (Eq.refl _) (fun c11 => ?_) (fun c11 => ?_)
    · replace hF := hF.trans (if_pos c11)
      exact jn25 locs ls hB (lv_sub hl [0] rfl) hF
    · replace hF := hF.trans (if_neg c11)
      refine lv_iload_n hx hb dX11_seen_14 rfl (lv_at hl 3 rfl) ?_
      refine lv_iconst (v := 1) hx hb dX11_seen_15 (by decide) ?_
      refine tr_icmp_lt (tgt := 25) hx hb dX11_seen_16 (by decide) (Eq.refl _) tk_1 (fun c16 => ?_) (fun c16 => ?_)
      · replace hF := hF.trans (if_pos c16)
        exact jn25 locs ls hB (lv_sub hl [0] rfl) hF
      · replace hF := hF.trans (if_neg (Int.not_lt.mpr c16))
        refine lv_iload_n hx hb dX11_seen_19 rfl (lv_at hl 3 rfl) ?_
        refine lv_bipush (v := 12) hx hb dX11_seen_20 (by decide) ?_
        refine tr_icmp_le (tgt := 31) hx hb dX11_seen_22 (by decide) (Eq.refl _) tk_12 (fun c22 => ?_) (fun c22 => ?_)
        · replace hF := hF.trans (if_pos c22)
          refine lv_aload_n hx hb dX11_seen_31 rfl (lv_at hl 0 rfl) ?_
          refine th_getR (j := 0) (r2 := 32) hC cf_X11 hB.1 h0 ro_42 rfl rfl kf_X11_12 dX11_seen_32 (fun b4 mb4 hb4 => ?_)
          replace hF := hF.trans (dv_bn (dv_getR h0 ro_42 (j := 0) rfl mb4 (by decide)))
          refine th_getI (j := 7) hC cf_X8 hB.1 hb4 ro_32 rfl rfl kf_X11_307 dX11_seen_35 (fun x5 mx5 lx5 ux5 => ?_)
          replace hF := hF.trans (dv_bn (dv_getI hb4 ro_32 (j := 7) rfl mx5 (by decide)))
          refine lv_bipush (v := 6) hx hb dX11_seen_38 (by decide) ?_
          refine tr_icmp_lt (tgt := 50) hx hb dX11_seen_40 (by decide) (Eq.refl _) tk_6 (fun c40 => ?_) (fun c40 => ?_)
          · replace hF := hF.trans (if_pos c40)
            refine lv_aload_n hx hb dX11_seen_50 rfl (lv_at hl 0 rfl) ?_
            refine th_getK hC cf_X11 hB.1 h0 ro_42 rfl (j := 0) (by decide) mb4 kf_X11_12 dX11_seen_51 ?_
            replace hF := hF.trans (dv_bn (dv_getR h0 ro_42 (j := 0) rfl mb4 (by decide)))
            refine th_getO (j := 2) (r2 := 34) hC cf_X8 hB.1 hb4 ro_32 rfl rfl kf_X11_310 dX11_seen_54 (fun b6 mb6 hb6 => ?_)
            refine lv_aload_n hx hb dX11_seen_57 rfl (lv_at hl 0 rfl) ?_
            refine th_getK hC cf_X11 hB.1 h0 ro_42 rfl (j := 0) (by decide) mb4 kf_X11_12 dX11_seen_58 ?_
            replace hF := hF.trans (dv_bn (dv_getR h0 ro_42 (j := 0) rfl mb4 (by decide)))
            refine th_getK hC cf_X8 hB.1 hb4 ro_32 rfl (j := 7) (by decide) mx5 kf_X11_307 dX11_seen_61 ?_
            replace hF := hF.trans (dv_bn (dv_getI hb4 ro_32 (j := 7) rfl mx5 (by decide)))
            refine lv_iload_n hx hb dX11_seen_64 rfl (lv_at hl 1 rfl) ?_
            have hIo := hB.1
            refine th_iastF hC hB hb6 (Or.inl hb6) ro_34 rfl (by decide) (Eq.refl _) (by omega) (by omega) th_sIa dX11_seen_65 (fun H65 locs hB hf65 hst65 => ?_)
            have hf := hf65
            have mm7 := (th_F_o hf h0 ro_42 (j := 0) (by decide) (by decide)).trans mb4
            have mm8 := (th_F_o hf hb4 ro_32 (j := 7) (by decide) (by decide)).trans mx5
            have hR := th_RC_F hB.1 hR hf (th_T_s hb6 ro_34 hst65) (by decide)
            replace hF := hF.trans (dv_bn (dv_stoI hIo hB.1 hU hb6 ow_34 (i := x5.toInt) hst65 (Eq.refl _) (by omega)))
            refine lv_aload_n hx hb dX11_seen_66 rfl (lv_at hl 0 rfl) ?_
            refine th_getK hC cf_X11 hB.1 h0 ro_42 rfl (j := 0) (by decide) mm7 kf_X11_12 dX11_seen_67 ?_
            replace hF := hF.trans (dv_bn (dv_getR h0 ro_42 (j := 0) rfl mm7 (by decide)))
            refine th_getO (j := 3) (r2 := 35) hC cf_X8 hB.1 hb4 ro_32 rfl rfl kf_X11_313 dX11_seen_70 (fun b9 mb9 hb9 => ?_)
            refine lv_aload_n hx hb dX11_seen_73 rfl (lv_at hl 0 rfl) ?_
            refine th_getK hC cf_X11 hB.1 h0 ro_42 rfl (j := 0) (by decide) mm7 kf_X11_12 dX11_seen_74 ?_
            replace hF := hF.trans (dv_bn (dv_getR h0 ro_42 (j := 0) rfl mm7 (by decide)))
            refine th_getK hC cf_X8 hB.1 hb4 ro_32 rfl (j := 7) (by decide) mm8 kf_X11_307 dX11_seen_77 ?_
            replace hF := hF.trans (dv_bn (dv_getI hb4 ro_32 (j := 7) rfl mm8 (by decide)))
            refine lv_iload_n hx hb dX11_seen_80 rfl (lv_at hl 2 rfl) ?_
            have hIo := hB.1
            refine th_iastF hC hB hb9 (Or.inl hb9) ro_35 rfl (by decide) (Eq.refl _) (by omega) (by omega) th_sIa dX11_seen_81 (fun H81 locs hB hf81 hst81 => ?_)
            have hf := hf81
            have mm10 := (th_F_o hf h0 ro_42 (j := 0) (by decide) (by decide)).trans mm7
            have mm11 := (th_F_o hf hb4 ro_32 (j := 7) (by decide) (by decide)).trans mm8
            have hR := th_RC_F hB.1 hR hf (th_T_s hb9 ro_35 hst81) (by decide)
            replace hF := hF.trans (dv_bn (dv_stoI hIo hB.1 hU hb9 ow_35 (i := x5.toInt) hst81 (Eq.refl _) (by omega)))
            refine lv_aload_n hx hb dX11_seen_82 rfl (lv_at hl 0 rfl) ?_
            refine th_getK hC cf_X11 hB.1 h0 ro_42 rfl (j := 0) (by decide) mm10 kf_X11_12 dX11_seen_83 ?_
            replace hF := hF.trans (dv_bn (dv_getR h0 ro_42 (j := 0) rfl mm10 (by decide)))
            refine th_getO (j := 4) (r2 := 36) hC cf_X8 hB.1 hb4 ro_32 rfl rfl kf_X11_316 dX11_seen_86 (fun b12 mb12 hb12 => ?_)
            refine lv_aload_n hx hb dX11_seen_89 rfl (lv_at hl 0 rfl) ?_
            refine th_getK hC cf_X11 hB.1 h0 ro_42 rfl (j := 0) (by decide) mm10 kf_X11_12 dX11_seen_90 ?_
            replace hF := hF.trans (dv_bn (dv_getR h0 ro_42 (j := 0) rfl mm10 (by decide)))
            refine th_getK hC cf_X8 hB.1 hb4 ro_32 rfl (j := 7) (by decide) mm11 kf_X11_307 dX11_seen_93 ?_
            replace hF := hF.trans (dv_bn (dv_getI hb4 ro_32 (j := 7) rfl mm11 (by decide)))
            refine lv_iload_n hx hb dX11_seen_96 rfl (lv_at hl 3 rfl) ?_
            have hIo := hB.1
            refine th_iastF hC hB hb12 (Or.inl hb12) ro_36 rfl (by decide) (Eq.refl _) (by omega) (by omega) th_sIa dX11_seen_97 (fun H97 locs hB hf97 hst97 => ?_)
            have hf := hf97
            have mm13 := (th_F_o hf h0 ro_42 (j := 0) (by decide) (by decide)).trans mm10
            have mm14 := (th_F_o hf hb4 ro_32 (j := 7) (by decide) (by decide)).trans mm11
            have hR := th_RC_F hB.1 hR hf (th_T_s hb12 ro_36 hst97) (by decide)
            replace hF := hF.trans (dv_bn (dv_stoI hIo hB.1 hU hb12 ow_36 (i := x5.toInt) hst97 (Eq.refl _) (by omega)))
            refine lv_aload_n hx hb dX11_seen_98 rfl (lv_at hl 0 rfl) ?_
            refine th_getK hC cf_X11 hB.1 h0 ro_42 rfl (j := 0) (by decide) mm13 kf_X11_12 dX11_seen_99 ?_
            replace hF := hF.trans (dv_bn (dv_getR h0 ro_42 (j := 0) rfl mm13 (by decide)))
            refine lv_dup hx hb dX11_seen_102 rfl ?_
            refine th_getK hC cf_X8 hB.1 hb4 ro_32 rfl (j := 7) (by decide) mm14 kf_X11_307 dX11_seen_103 ?_
            replace hF := hF.trans (dv_bn (dv_getI hb4 ro_32 (j := 7) rfl mm14 (by decide)))
            refine lv_iconst (v := 1) hx hb dX11_seen_106 (by decide) ?_
            refine tr_iadd hx hb dX11_seen_107 (Eq.refl _) tk_1 (by omega) (by omega) (fun x15 ex15 => ?_)
            replace hF := hF.trans (dv_bn (ex15.symm))
            refine th_put hC cf_X8 hB hb4 (Or.inl hb4) ro_32 rfl (j := 7) rfl (th_sI (by omega) (by omega)) (by decide) rfl rfl rfl kf_X11_307 dX11_seen_108 (fun H108 locs hB hf hst108 => ?_)
            have mm16 := (th_F_o hf h0 ro_42 (j := 0) (by decide) (by decide)).trans mm13
            have hR := th_RC_F hB.1 hR hf (th_T_s hb4 ro_32 hst108) (by decide)
            replace hF := hF.trans (dv_bn (dv_putI hB.1 hb4 ro_32 (j := 7) rfl (th_apart hC cf_X8) hst108 (Eq.refl _) (by decide)))
            have mm17 := hst108.2.1
            refine lv_aload_n hx hb dX11_seen_111 rfl (lv_at hl 0 rfl) ?_
            refine lv_aload_n hx hb dX11_seen_112 rfl (lv_at hl 0 rfl) ?_
            refine th_getK hC cf_X11 hB.1 h0 ro_42 rfl (j := 0) (by decide) mm16 kf_X11_12 dX11_seen_113 ?_
            replace hF := hF.trans (dv_bn (dv_getR h0 ro_42 (j := 0) rfl mm16 (by decide)))
            refine th_getK hC cf_X8 hB.1 hb4 ro_32 rfl (j := 7) (by decide) mm17 kf_X11_307 dX11_seen_116 ?_
            replace hF := hF.trans (dv_bn (dv_getI hb4 ro_32 (j := 7) rfl mm17 (by decide)))
            refine th_call (th_runV (As := [.int x15]) (rest := []) hC mf_X11_answer km_X11_117 im_X11_answer se_X11_answer (c_X11_answer l G Γ H108 hB.1 hR hU a0 h0 x15) rfl rfl ⟨Nat.le_of_ble_eq_true rfl, Nat.le_of_ble_eq_true rfl⟩ hB.1 h0 ro_42 rfl rfl hl.1 rfl (Nat.le_of_ble_eq_true rfl) dX11_seen_119 ⟨Nat.le_refl _, Nat.le_refl _⟩) hB.2.1 (fun v119 H119 locs hp hz hS => ?_)
            obtain ⟨x18, rfl, q119_0, hI1, hf, hR, z119_0⟩ := hp
            have hB := th_B_c hB hI1 hS hf (by decide)
            have mm19 := (th_F_o hf h0 ro_42 (j := 0) (by decide) (by decide)).trans mm16
            have mm20 := (th_F_o hf hb4 ro_32 (j := 7) (by decide) (by decide)).trans mm17
            replace hF := hF.trans (dv_bn2 (z119_0))
            refine W.eq (g2 := F0 m 122 ls [.int x18]) rfl ?_
            exact th_iret hC hH hr hlocks rfl hB.2.1 ⟨_, rfl, hB.1, hB.2.2, hR, (hF0.symm.trans hF)⟩ dX11_seen_122
          · replace hF := hF.trans (if_neg (Int.not_lt.mpr c40))
            refine lv_aload_n hx hb dX11_seen_43 rfl (lv_at hl 0 rfl) ?_
            refine lv_bipush (v := (-5)) hx hb dX11_seen_44 (by decide) ?_
            refine th_call (th_runV (As := [.int (-5)]) (rest := []) hC mf_X11_answer km_X11_117 im_X11_answer se_X11_answer (c_X11_answer l G Γ H0 hB.1 hR hU a0 h0 (-5)) rfl rfl ⟨Nat.le_of_ble_eq_true rfl, Nat.le_of_ble_eq_true rfl⟩ hB.1 h0 ro_42 rfl rfl hl.1 rfl (Nat.le_of_ble_eq_true rfl) dX11_seen_46 ⟨Nat.le_refl _, Nat.le_refl _⟩) hB.2.1 (fun v46 H46 locs hp hz hS => ?_)
            obtain ⟨x21, rfl, q46_0, hI1, hf, hR, z46_0⟩ := hp
            have hB := th_B_c hB hI1 hS hf (by decide)
            have mm22 := (th_F_o hf h0 ro_42 (j := 0) (by decide) (by decide)).trans mb4
            have mm23 := (th_F_o hf hb4 ro_32 (j := 7) (by decide) (by decide)).trans mx5
            have w46_0 := tk_m5
            have zf46 := z46_0
            rw [tk_m5] at zf46
            replace hF := hF.trans (dv_bn2 (zf46))
            refine W.eq (g2 := F0 m 49 ls [.int x21]) rfl ?_
            exact th_iret hC hH hr hlocks rfl hB.2.1 ⟨_, rfl, hB.1, hB.2.2, hR, (hF0.symm.trans hF)⟩ dX11_seen_49
        · replace hF := hF.trans (if_neg (Int.not_le.mpr c22))
          exact jn25 locs ls hB (lv_sub hl [0] rfl) hF

set_option maxHeartbeats 4000000 in
set_option maxRecDepth 100000 in
theorem c_X11_forget (l : Launch) (G : th_G) (Γ : th_Ga) (H0 : Heap) (hI : th_I G Γ H0) (hR : th_RC G Γ H0) (hU : dv_U Γ) (a0 : Nat) (h0 : Γ a0 = (42, 0)) : Met l yX11_forget (.code yX11_forget cX11_forget 2 (some FieldType.int) :: th_tb) ({ frames := 0, cells := 0, slots := 0, locals := 0 } : Room) (th_P [.ref a0] G H0) (th_Q (fun (v : Option Value) (H1 : Heap) => ∃ r : Int32, v = some (.int r) ∧ th_I G Γ H1 ∧ th_F G Γ [(32, 7)] H0 H1 ∧ th_RC G Γ H1 ∧ (f_X11_forget (dv G Γ H0) (a0 : Int) = (dv G Γ H1, r.toInt))) G) 0 0 (fun q => G.2.2 ≤ q) := by
  refine th_met RX11 (by decide) rfl (Nat.le_of_ble_eq_true rfl) ?_
  intro p e s m below meth c hC hH hr hlocks hnm ls hl
  have hx := hC.1
  have hb := hC.2.1
  have hB : th_B G Γ Γ [(32, 7)] H0 H0 [] := ⟨hI, va_S.rf, th_F_rf⟩
  have hl : lv_has ls 2 [(0, .ref a0)] := hl
  obtain ⟨F, hF0⟩ : ∃ F, F = f_X11_forget (dv G Γ H0) ((a0 : Int)) := ⟨_, rfl⟩
  have hF := hF0.trans (f_X11_forget.eq_1 (dv G Γ H0) ((a0 : Int)))
  refine lv_aload_n hx hb dX11_forget_0 rfl (lv_at hl 0 rfl) ?_
  refine th_getR (j := 0) (r2 := 32) hC cf_X11 hB.1 h0 ro_42 rfl rfl kf_X11_12 dX11_forget_1 (fun b1 mb1 hb1 => ?_)
  replace hF := hF.trans (dv_bn (dv_getR h0 ro_42 (j := 0) rfl mb1 (by decide)))
  refine th_getI (j := 7) hC cf_X8 hB.1 hb1 ro_32 rfl rfl kf_X11_307 dX11_forget_4 (fun x2 mx2 lx2 ux2 => ?_)
  replace hF := hF.trans (dv_bn (dv_getI hb1 ro_32 (j := 7) rfl mx2 (by decide)))
  refine lv_istore_n (lv' := [(1, .int x2), (0, .ref a0)]) hx hb dX11_forget_7 rfl hl (by decide) rfl (fun ls hl => ?_)
  refine lv_aload_n hx hb dX11_forget_8 rfl (lv_at hl 1 rfl) ?_
  refine th_getK hC cf_X11 hB.1 h0 ro_42 rfl (j := 0) (by decide) mb1 kf_X11_12 dX11_forget_9 ?_
  replace hF := hF.trans (dv_bn (dv_getR h0 ro_42 (j := 0) rfl mb1 (by decide)))
  refine lv_iconst (v := 0) hx hb dX11_forget_12 (by decide) ?_
  refine th_put hC cf_X8 hB hb1 (Or.inl hb1) ro_32 rfl (j := 7) rfl (th_sI (by decide) (by decide)) (by decide) rfl rfl rfl kf_X11_307 dX11_forget_13 (fun H13 locs hB hf hst13 => ?_)
  have mm3 := (th_F_o hf h0 ro_42 (j := 0) (by decide) (by decide)).trans mb1
  have hR := th_RC_F hB.1 hR hf (th_T_s hb1 ro_32 hst13) (by decide)
  replace hF := hF.trans (dv_bn (dv_putI hB.1 hb1 ro_32 (j := 7) rfl (th_apart hC cf_X8) hst13 tk_0 (by decide)))
  refine lv_iload_n hx hb dX11_forget_16 rfl (lv_at hl 0 rfl) ?_
  exact th_iret hC hH hr hlocks rfl hB.2.1 ⟨_, rfl, hB.1, hB.2.2, hR, (hF0.symm.trans hF)⟩ dX11_forget_17

set_option maxHeartbeats 4000000 in
set_option maxRecDepth 100000 in
theorem c_X11_few (l : Launch) (G : th_G) (Γ : th_Ga) (H0 : Heap) (hI : th_I G Γ H0) (hR : th_RC G Γ H0) (hU : dv_U Γ) (a0 : Nat) (h0 : Γ a0 = (42, 0)) (p1 : Int32) (p2 : Int32) : Met l yX11_few (.code yX11_few cX11_few 3 (some FieldType.long) :: th_tb) ({ frames := 3, cells := 0, slots := 0, locals := 75 } : Room) (th_P [.ref a0, .int p1, .int p2] G H0) (th_Q (fun (v : Option Value) (H1 : Heap) => ∃ r : Int64, v = some (.long r) ∧ th_I G Γ H1 ∧ th_F G Γ [(2, 0)] H0 H1 ∧ th_RC G Γ H1) G) 0 0 (fun q => G.2.2 ≤ q) := by
  refine th_met RX11 (by decide) rfl (Nat.le_of_ble_eq_true rfl) ?_
  intro p e s m below meth c hC hH hr hlocks hnm ls hl
  have hx := hC.1
  have hb := hC.2.1
  have hB : th_B G Γ Γ [(2, 0)] H0 H0 [] := ⟨hI, va_S.rf, th_F_rf⟩
  have hl : lv_has ls 3 [(0, .ref a0), (1, .int p1), (2, .int p2)] := hl
  have lp1 := ti_lo p1; have up1 := ti_hi p1
  have lp2 := ti_lo p2; have up2 := ti_hi p2
  refine lv_iload_n hx hb dX11_few_0 rfl (lv_at hl 1 rfl) ?_
  refine lv_iconst (v := 1) hx hb dX11_few_1 (by decide) ?_
  refine tr_icmp_lt (tgt := 21) hx hb dX11_few_2 (by decide) (Eq.refl _) tk_1 (fun c2 => ?_) (fun c2 => ?_)
  · refine lv_ldc2 (v := (-1)) hx hb hC.2.2.2.1 (hC.2.2.2.2.1 _ kw_1152) dX11_few_21 ?_
    exact th_lret hC hH hr hlocks hB.2.1 ⟨_, rfl, hB.1, hB.2.2, hR⟩ dX11_few_24
  · refine lv_iload_n hx hb dX11_few_5 rfl (lv_at hl 1 rfl) ?_
    refine lv_bipush (v := 20) hx hb dX11_few_6 (by decide) ?_
    refine tr_icmp_gt (tgt := 21) hx hb dX11_few_8 (by decide) (Eq.refl _) tk_20 (fun c8 => ?_) (fun c8 => ?_)
    · refine lv_ldc2 (v := (-1)) hx hb hC.2.2.2.1 (hC.2.2.2.2.1 _ kw_1152) dX11_few_21 ?_
      exact th_lret hC hH hr hlocks hB.2.1 ⟨_, rfl, hB.1, hB.2.2, hR⟩ dX11_few_24
    · refine lv_iload_n hx hb dX11_few_11 rfl (lv_at hl 2 rfl) ?_
      refine tr_if_lt (tgt := 21) hx hb dX11_few_12 (by decide) (Eq.refl _) (fun c12 => ?_) (fun c12 => ?_)
      · refine lv_ldc2 (v := (-1)) hx hb hC.2.2.2.1 (hC.2.2.2.2.1 _ kw_1152) dX11_few_21 ?_
        exact th_lret hC hH hr hlocks hB.2.1 ⟨_, rfl, hB.1, hB.2.2, hR⟩ dX11_few_24
      · refine lv_iload_n hx hb dX11_few_15 rfl (lv_at hl 2 rfl) ?_
        refine lv_bipush (v := 99) hx hb dX11_few_16 (by decide) ?_
        refine tr_icmp_le (tgt := 25) hx hb dX11_few_18 (by decide) (Eq.refl _) tk_99 (fun c18 => ?_) (fun c18 => ?_)
        · refine lv_aload_n hx hb dX11_few_25 rfl (lv_at hl 0 rfl) ?_
          refine th_getR (j := 12) (r2 := 1) hC cf_X11 hB.1 h0 ro_42 rfl rfl kf_X11_86 dX11_few_26 (fun b1 mb1 hb1 => ?_)
          refine lv_iload_n hx hb dX11_few_29 rfl (lv_at hl 1 rfl) ?_
          refine lv_iload_n hx hb dX11_few_30 rfl (lv_at hl 2 rfl) ?_
          refine lv_aload_n hx hb dX11_few_31 rfl (lv_at hl 0 rfl) ?_
          refine th_getR (j := 0) (r2 := 32) hC cf_X11 hB.1 h0 ro_42 rfl rfl kf_X11_12 dX11_few_32 (fun b2 mb2 hb2 => ?_)
          refine th_getR (j := 0) (r2 := 3) hC cf_X8 hB.1 hb2 ro_32 rfl rfl kf_X11_107 dX11_few_35 (fun b3 mb3 hb3 => ?_)
          refine th_getO (j := 5) (r2 := 9) hC cf_X1 hB.1 hb3 ro_3 rfl rfl kf_X11_183 dX11_few_38 (fun b4 mb4 hb4 => ?_)
          refine lv_iconst (v := 1) hx hb dX11_few_41 (by decide) ?_
          refine th_ialdF hC hB.1 hb4 ro_9 rfl tk_1 (by omega) (by omega) rfl dX11_few_42 (fun x5 mx5 lx5 ux5 => ?_)
          refine th_call (th_runV (As := [.int p1, .int p2, .int x5]) (rest := []) hC mf_X0_fewer km_X11_334 im_X0_fewer se_X0_fewer (c_X0_fewer l G Γ H0 hB.1 hR hU b1 hb1 p1 (by omega) (by omega) p2 (by omega) (by omega) x5) rfl rfl ⟨Nat.le_of_ble_eq_true rfl, Nat.le_of_ble_eq_true rfl⟩ hB.1 hb1 ro_1 rfl rfl hl.1 rfl (Nat.le_of_ble_eq_true rfl) dX11_few_43 ⟨Nat.le_refl _, Nat.le_refl _⟩) hB.2.1 (fun v43 H43 locs hp hz hS => ?_)
          obtain ⟨y6, rfl, hI1, hf, hR⟩ := hp
          have hB := th_B_c hB hI1 hS hf (by decide)
          refine W.eq (g2 := F0 m 46 ls [.long y6]) rfl ?_
          exact th_lret hC hH hr hlocks hB.2.1 ⟨_, rfl, hB.1, hB.2.2, hR⟩ dX11_few_46
        · refine lv_ldc2 (v := (-1)) hx hb hC.2.2.2.1 (hC.2.2.2.2.1 _ kw_1152) dX11_few_21 ?_
          exact th_lret hC hH hr hlocks hB.2.1 ⟨_, rfl, hB.1, hB.2.2, hR⟩ dX11_few_24

set_option maxHeartbeats 4000000 in
set_option maxRecDepth 100000 in
theorem c_X11_drawYear (l : Launch) (G : th_G) (Γ : th_Ga) (H0 : Heap) (hI : th_I G Γ H0) (hR : th_RC G Γ H0) (hU : dv_U Γ) (a0 : Nat) (h0 : Γ a0 = (42, 0)) (p1 : Int32) : Met l yX11_drawYear (.code yX11_drawYear cX11_drawYear 9 (some FieldType.int) :: th_tb) ({ frames := 5, cells := 0, slots := 0, locals := 129 } : Room) (th_P [.ref a0, .int p1] G H0) (th_Q (fun (v : Option Value) (H1 : Heap) => ∃ r : Int32, v = some (.int r) ∧ th_I G Γ H1 ∧ th_F G Γ [(24, 0), (23, 3), (26, 0), (25, 0), (7, 0), (8, 0), (6, 0), (9, 0)] H0 H1 ∧ th_RC G Γ H1 ∧ (f_X11_drawYear (dv G Γ H0) (a0 : Int) p1.toInt = (dv G Γ H1, r.toInt))) G) 0 0 (fun q => G.2.2 ≤ q) := by
  refine th_met RX11 (by decide) rfl (Nat.le_of_ble_eq_true rfl) ?_
  intro p e s m below meth c hC hH hr hlocks hnm ls hl
  have hx := hC.1
  have hb := hC.2.1
  have hB : th_B G Γ Γ [(24, 0), (23, 3), (26, 0), (25, 0), (7, 0), (8, 0), (6, 0), (9, 0)] H0 H0 [] := ⟨hI, va_S.rf, th_F_rf⟩
  have hl : lv_has ls 9 [(0, .ref a0), (1, .int p1)] := hl
  have lp1 := ti_lo p1; have up1 := ti_hi p1
  obtain ⟨F, hF0⟩ : ∃ F, F = f_X11_drawYear (dv G Γ H0) ((a0 : Int)) (p1.toInt) := ⟨_, rfl⟩
  have hF := hF0.trans (f_X11_drawYear.eq_1 (dv G Γ H0) ((a0 : Int)) (p1.toInt))
  refine lv_iload_n hx hb dX11_drawYear_0 rfl (lv_at hl 1 rfl) ?_
  refine th_call (th_runS (As := [.int p1]) (rest := []) hC mf_X11_nextDraw km_X11_388 st_X11_nextDraw (c_X11_nextDraw l G Γ H0 hB.1 hU p1) rfl rfl ⟨Nat.le_of_ble_eq_true rfl, Nat.le_of_ble_eq_true rfl⟩ rfl hl.1 rfl (Nat.le_of_ble_eq_true rfl) dX11_drawYear_1 ⟨Nat.le_refl _, Nat.le_refl _⟩) hB.2.1 (fun v1 H1 locs hp hz hS => ?_)
  obtain ⟨x1, rfl, q1_0, rfl⟩ := hp
  have hB := th_B_s hB hS
  replace hF := hF.trans (dv_bn2 (q1_0))
  refine W.eq (g2 := F0 m 4 ls [.int x1]) rfl ?_
  refine lv_istore_n (lv' := [(2, .int x1), (0, .ref a0), (1, .int p1)]) hx hb dX11_drawYear_4 rfl hl (by decide) rfl (fun ls hl => ?_)
  refine lv_iload_n hx hb dX11_drawYear_5 rfl (lv_at hl 0 rfl) ?_
  refine th_call (th_runS (As := [.int x1]) (rest := []) hC mf_X11_nextDraw km_X11_388 st_X11_nextDraw (c_X11_nextDraw l G Γ H0 hB.1 hU x1) rfl rfl ⟨Nat.le_of_ble_eq_true rfl, Nat.le_of_ble_eq_true rfl⟩ rfl hl.1 rfl (Nat.le_of_ble_eq_true rfl) dX11_drawYear_6 ⟨Nat.le_refl _, Nat.le_refl _⟩) hB.2.1 (fun v6 H6 locs hp hz hS => ?_)
  obtain ⟨x2, rfl, q6_0, rfl⟩ := hp
  have hB := th_B_s hB hS
  replace hF := hF.trans (dv_bn2 (q6_0))
  refine W.eq (g2 := F0 m 9 ls [.int x2]) rfl ?_
  refine lv_istore_n (lv' := [(3, .int x2), (2, .int x1), (0, .ref a0), (1, .int p1)]) hx hb dX11_drawYear_9 rfl hl (by decide) rfl (fun ls hl => ?_)
  refine lv_iload_n hx hb dX11_drawYear_10 rfl (lv_at hl 0 rfl) ?_
  refine th_call (th_runS (As := [.int x2]) (rest := []) hC mf_X11_nextDraw km_X11_388 st_X11_nextDraw (c_X11_nextDraw l G Γ H0 hB.1 hU x2) rfl rfl ⟨Nat.le_of_ble_eq_true rfl, Nat.le_of_ble_eq_true rfl⟩ rfl hl.1 rfl (Nat.le_of_ble_eq_true rfl) dX11_drawYear_11 ⟨Nat.le_refl _, Nat.le_refl _⟩) hB.2.1 (fun v11 H11 locs hp hz hS => ?_)
  obtain ⟨x3, rfl, q11_0, rfl⟩ := hp
  have hB := th_B_s hB hS
  replace hF := hF.trans (dv_bn2 (q11_0))
  refine W.eq (g2 := F0 m 14 ls [.int x3]) rfl ?_
  refine lv_istore (lv' := [(4, .int x3), (3, .int x2), (2, .int x1), (0, .ref a0), (1, .int p1)]) hx hb dX11_drawYear_14 hl (by decide) rfl (fun ls hl => ?_)
  refine lv_iload hx hb dX11_drawYear_16 (lv_at hl 0 rfl) ?_
  refine th_call (th_runS (As := [.int x3]) (rest := []) hC mf_X11_nextDraw km_X11_388 st_X11_nextDraw (c_X11_nextDraw l G Γ H0 hB.1 hU x3) rfl rfl ⟨Nat.le_of_ble_eq_true rfl, Nat.le_of_ble_eq_true rfl⟩ rfl hl.1 rfl (Nat.le_of_ble_eq_true rfl) dX11_drawYear_18 ⟨Nat.le_refl _, Nat.le_refl _⟩) hB.2.1 (fun v18 H18 locs hp hz hS => ?_)
  obtain ⟨x4, rfl, q18_0, rfl⟩ := hp
  have hB := th_B_s hB hS
  replace hF := hF.trans (dv_bn2 (q18_0))
  refine W.eq (g2 := F0 m 21 ls [.int x4]) rfl ?_
  refine lv_istore (lv' := [(5, .int x4), (4, .int x3), (3, .int x2), (2, .int x1), (0, .ref a0), (1, .int p1)]) hx hb dX11_drawYear_21 hl (by decide) rfl (fun ls hl => ?_)
  refine lv_aload_n hx hb dX11_drawYear_23 rfl (lv_at hl 4 rfl) ?_
  refine th_getR (j := 3) (r2 := 3) hC cf_X11 hB.1 h0 ro_42 rfl rfl kf_X11_27 dX11_drawYear_24 (fun b5 mb5 hb5 => ?_)
  replace hF := hF.trans (dv_bn (dv_getR h0 ro_42 (j := 3) rfl mb5 (by decide)))
  refine th_getI (j := 7) hC cf_X1 hB.1 hb5 ro_3 rfl rfl kf_X11_298 dX11_drawYear_27 (fun x6 mx6 lx6 ux6 => ?_)
  replace hF := hF.trans (dv_bn (dv_getI hb5 ro_3 (j := 7) rfl mx6 (by decide)))
  have jn46 : ∀ (locs : List Loc) (ls : Array Slot) (s46_0 : Int32), th_B G Γ Γ [(24, 0), (23, 3), (26, 0), (25, 0), (7, 0), (8, 0), (6, 0), (9, 0)] H0 H0 locs → lv_has ls 9 [(5, .int x4), (4, .int x3), (3, .int x2), (0, .ref a0)] → F = f_X11_drawYear_46 (dv G Γ H0) (x4.toInt) (x3.toInt) (x2.toInt) ((a0 : Int)) (s46_0.toInt) → W p l e ({ frames := 5, cells := 0, slots := 0, locals := 129 } : Room) s m ([.ref a0, .int p1] : List Value).toArray below meth c H0 locs 0 0 (MQ below (th_Q (fun (v : Option Value) (H1 : Heap) => ∃ r : Int32, v = some (.int r) ∧ th_I G Γ H1 ∧ th_F G Γ [(24, 0), (23, 3), (26, 0), (25, 0), (7, 0), (8, 0), (6, 0), (9, 0)] H0 H1 ∧ th_RC G Γ H1 ∧ (f_X11_drawYear (dv G Γ H0) (a0 : Int) p1.toInt = (dv G Γ H1, r.toInt))) G) ([.ref a0, .int p1] : List Value).toArray s 0 0 (fun q => G.2.2 ≤ q)) (F0 m 46 ls [.int s46_0]) := by
    intro locs ls s46_0 hB hl hF
    have ls46_0 := ti_lo s46_0; have us46_0 := ti_hi s46_0
    replace hF := hF.trans (f_X11_drawYear_46.eq_1 (dv G Γ H0) (x4.toInt) (x3.toInt) (x2.toInt) ((a0 : Int)) (s46_0.toInt))
    refine lv_istore (lv' := [(6, .int s46_0), (5, .int x4), (4, .int x3), (3, .int x2), (0, .ref a0)]) hx hb dX11_drawYear_46 hl (by decide) rfl (fun ls hl => ?_)
    refine lv_aload_n hx hb dX11_drawYear_48 rfl (lv_at hl 4 rfl) ?_
    refine th_getK hC cf_X11 hB.1 h0 ro_42 rfl (j := 3) (by decide) mb5 kf_X11_27 dX11_drawYear_49 ?_
    replace hF := hF.trans (dv_bn (dv_getR h0 ro_42 (j := 3) rfl mb5 (by decide)))
    refine th_getI (j := 8) hC cf_X1 hB.1 hb5 ro_3 rfl rfl kf_X11_155 dX11_drawYear_52 (fun x7 mx7 lx7 ux7 => ?_)
    replace hF := hF.trans (dv_bn (dv_getI hb5 ro_3 (j := 8) rfl mx7 (by decide)))
    have jn71 : ∀ (locs : List Loc) (ls : Array Slot) (s71_0 : Int32), th_B G Γ Γ [(24, 0), (23, 3), (26, 0), (25, 0), (7, 0), (8, 0), (6, 0), (9, 0)] H0 H0 locs → lv_has ls 9 [(6, .int s46_0), (5, .int x4), (4, .int x3), (0, .ref a0)] → F = f_X11_drawYear_71 (dv G Γ H0) (s46_0.toInt) (x4.toInt) (x3.toInt) ((a0 : Int)) (s71_0.toInt) → W p l e ({ frames := 5, cells := 0, slots := 0, locals := 129 } : Room) s m ([.ref a0, .int p1] : List Value).toArray below meth c H0 locs 0 0 (MQ below (th_Q (fun (v : Option Value) (H1 : Heap) => ∃ r : Int32, v = some (.int r) ∧ th_I G Γ H1 ∧ th_F G Γ [(24, 0), (23, 3), (26, 0), (25, 0), (7, 0), (8, 0), (6, 0), (9, 0)] H0 H1 ∧ th_RC G Γ H1 ∧ (f_X11_drawYear (dv G Γ H0) (a0 : Int) p1.toInt = (dv G Γ H1, r.toInt))) G) ([.ref a0, .int p1] : List Value).toArray s 0 0 (fun q => G.2.2 ≤ q)) (F0 m 71 ls [.int s71_0]) := by
      intro locs ls s71_0 hB hl hF
      have ls71_0 := ti_lo s71_0; have us71_0 := ti_hi s71_0
      replace hF := hF.trans (f_X11_drawYear_71.eq_1 (dv G Γ H0) (s46_0.toInt) (x4.toInt) (x3.toInt) ((a0 : Int)) (s71_0.toInt))
      refine lv_istore (lv' := [(7, .int s71_0), (6, .int s46_0), (5, .int x4), (4, .int x3), (0, .ref a0)]) hx hb dX11_drawYear_71 hl (by decide) rfl (fun ls hl => ?_)
      refine lv_aload_n hx hb dX11_drawYear_73 rfl (lv_at hl 4 rfl) ?_
      refine th_getK hC cf_X11 hB.1 h0 ro_42 rfl (j := 3) (by decide) mb5 kf_X11_27 dX11_drawYear_74 ?_
      replace hF := hF.trans (dv_bn (dv_getR h0 ro_42 (j := 3) rfl mb5 (by decide)))
      refine th_getI (j := 9) hC cf_X1 hB.1 hb5 ro_3 rfl rfl kf_X11_158 dX11_drawYear_77 (fun x8 mx8 lx8 ux8 => ?_)
      replace hF := hF.trans (dv_bn (dv_getI hb5 ro_3 (j := 9) rfl mx8 (by decide)))
      have jn97 : ∀ (locs : List Loc) (ls : Array Slot) (s97_0 : Int32), th_B G Γ Γ [(24, 0), (23, 3), (26, 0), (25, 0), (7, 0), (8, 0), (6, 0), (9, 0)] H0 H0 locs → lv_has ls 9 [(7, .int s71_0), (6, .int s46_0), (5, .int x4), (0, .ref a0)] → F = f_X11_drawYear_97 (dv G Γ H0) (s71_0.toInt) (s46_0.toInt) (x4.toInt) ((a0 : Int)) (s97_0.toInt) → W p l e ({ frames := 5, cells := 0, slots := 0, locals := 129 } : Room) s m ([.ref a0, .int p1] : List Value).toArray below meth c H0 locs 0 0 (MQ below (th_Q (fun (v : Option Value) (H1 : Heap) => ∃ r : Int32, v = some (.int r) ∧ th_I G Γ H1 ∧ th_F G Γ [(24, 0), (23, 3), (26, 0), (25, 0), (7, 0), (8, 0), (6, 0), (9, 0)] H0 H1 ∧ th_RC G Γ H1 ∧ (f_X11_drawYear (dv G Γ H0) (a0 : Int) p1.toInt = (dv G Γ H1, r.toInt))) G) ([.ref a0, .int p1] : List Value).toArray s 0 0 (fun q => G.2.2 ≤ q)) (F0 m 97 ls [.int s97_0]) := by
        intro locs ls s97_0 hB hl hF
        have ls97_0 := ti_lo s97_0; have us97_0 := ti_hi s97_0
        replace hF := hF.trans (f_X11_drawYear_97.eq_1 (dv G Γ H0) (s71_0.toInt) (s46_0.toInt) (x4.toInt) ((a0 : Int)) (s97_0.toInt))
        refine lv_istore (lv' := [(8, .int s97_0), (7, .int s71_0), (6, .int s46_0), (5, .int x4), (0, .ref a0)]) hx hb dX11_drawYear_97 hl (by decide) rfl (fun ls hl => ?_)
        refine lv_iload hx hb dX11_drawYear_99 (lv_at hl 3 rfl) ?_
        refine lv_iconst (v := 3) hx hb dX11_drawYear_101 (by decide) ?_
        refine lv_irem hx hb dX11_drawYear_102 (fun q => by have := congrArg Int32.toInt q; have h0 : (0 : Int32).toInt = 0 := rfl; have hy := tk_3; omega) ?_
        refine lv_topi (fun x9 ex9 => ?_)
        have lx9 := ti_lo x9; have ux9 := ti_hi x9
        replace hF := hF.trans (dv_bn (dv_rem_e (Eq.refl _) tk_3 ex9))
        refine lv_iconst (v := 2) hx hb dX11_drawYear_103 (by decide) ?_
        have jn160 : ∀ (H160 : Heap) (locs : List Loc) (ls : Array Slot) , th_B G Γ Γ [(24, 0), (23, 3), (26, 0), (25, 0), (7, 0), (8, 0), (6, 0), (9, 0)] H0 H160 locs → th_RC G Γ H160 → lv_has ls 9 [(5, .int x4), (0, .ref a0)] → F = f_X11_drawYear_160 (dv G Γ H160) (x4.toInt) ((a0 : Int)) → W p l e ({ frames := 5, cells := 0, slots := 0, locals := 129 } : Room) s m ([.ref a0, .int p1] : List Value).toArray below meth c H160 locs 0 0 (MQ below (th_Q (fun (v : Option Value) (H1 : Heap) => ∃ r : Int32, v = some (.int r) ∧ th_I G Γ H1 ∧ th_F G Γ [(24, 0), (23, 3), (26, 0), (25, 0), (7, 0), (8, 0), (6, 0), (9, 0)] H0 H1 ∧ th_RC G Γ H1 ∧ (f_X11_drawYear (dv G Γ H0) (a0 : Int) p1.toInt = (dv G Γ H1, r.toInt))) G) ([.ref a0, .int p1] : List Value).toArray s 0 0 (fun q => G.2.2 ≤ q)) (F0 m 160 ls []) := by
          intro H160 locs ls hB hR hl hF
          have mm10 := (th_F_o hB.2.2 h0 ro_42 (j := 3) (by decide) (by decide)).trans mb5
          replace hF := hF.trans (f_X11_drawYear_160.eq_1 (dv G Γ H160) (x4.toInt) ((a0 : Int)))
          refine lv_aload_n hx hb dX11_drawYear_160 rfl (lv_at hl 1 rfl) ?_
          refine th_getK hC cf_X11 hB.1 h0 ro_42 rfl (j := 3) (by decide) mm10 kf_X11_27 dX11_drawYear_161 ?_
          replace hF := hF.trans (dv_bn (dv_getR h0 ro_42 (j := 3) rfl mm10 (by decide)))
          refine lv_aload_n hx hb dX11_drawYear_164 rfl (lv_at hl 1 rfl) ?_
          refine th_getR (j := 9) (r2 := 11) hC cf_X11 hB.1 h0 ro_42 rfl rfl kf_X11_65 dX11_drawYear_165 (fun b11 mb11 hb11 => ?_)
          replace hF := hF.trans (dv_bn (dv_getR h0 ro_42 (j := 9) rfl mb11 (by decide)))
          refine lv_aload_n hx hb dX11_drawYear_168 rfl (lv_at hl 1 rfl) ?_
          refine th_getR (j := 0) (r2 := 32) hC cf_X11 hB.1 h0 ro_42 rfl rfl kf_X11_12 dX11_drawYear_169 (fun b12 mb12 hb12 => ?_)
          replace hF := hF.trans (dv_bn (dv_getR h0 ro_42 (j := 0) rfl mb12 (by decide)))
          refine th_call (th_runV (As := []) (rest := [.ref b11, .ref b5]) hC mf_X8_forcedLaw km_X11_143 im_X8_forcedLaw se_X8_forcedLaw (c_X8_forcedLaw l G Γ H160 hB.1 hU b12 hb12) rfl rfl ⟨Nat.le_of_ble_eq_true rfl, Nat.le_of_ble_eq_true rfl⟩ hB.1 hb12 ro_32 rfl rfl hl.1 rfl (Nat.le_of_ble_eq_true rfl) dX11_drawYear_172 ⟨Nat.le_refl _, Nat.le_refl _⟩) hB.2.1 (fun v172 H172 locs hp hz hS => ?_)
          obtain ⟨v13, rfl, hv13, q172_0, rfl⟩ := hp
          have hB := th_B_s hB hS
          replace hF := hF.trans (dv_bn2 (q172_0))
          refine W.eq (g2 := F0 m 175 ls [v13, .ref b11, .ref b5]) rfl ?_
          refine th_call (th_runV (As := [.ref b11, v13]) (rest := []) hC mf_X1_wearAYear km_X11_370 im_X1_wearAYear se_X1_wearAYear (c_X1_wearAYear l G Γ H160 hB.1 hR hU b5 hb5 b11 hb11 v13 hv13) rfl rfl ⟨Nat.le_of_ble_eq_true rfl, Nat.le_of_ble_eq_true rfl⟩ hB.1 hb5 ro_3 rfl rfl hl.1 rfl (Nat.le_of_ble_eq_true rfl) dX11_drawYear_175 ⟨Nat.le_refl _, Nat.le_refl _⟩) hB.2.1 (fun v175 H175 locs hp hz hS => ?_)
          obtain ⟨x14, rfl, hI1, hf, hR, z175_0⟩ := hp
          have hB := th_B_c hB hI1 hS hf (by decide)
          have mm15 := (th_F_o hf h0 ro_42 (j := 3) (by decide) (by decide)).trans mm10
          replace hF := hF.trans (dv_bn2 (z175_0))
          refine W.eq (g2 := F0 m 178 ls [.int x14]) rfl ?_
          refine lv_pop hx hb dX11_drawYear_178 rfl ?_
          refine lv_iload hx hb dX11_drawYear_179 (lv_at hl 0 rfl) ?_
          exact th_iret hC hH hr hlocks rfl hB.2.1 ⟨_, rfl, hB.1, hB.2.2, hR, (hF0.symm.trans hF)⟩ dX11_drawYear_181
        refine tr_icmp_ne (tgt := 119) hx hb dX11_drawYear_104 (by decide) (Eq.refl _) tk_2 (fun c104 => ?_) (fun c104 => ?_)
        · replace hF := hF.trans (if_pos c104)
          refine lv_aload_n hx hb dX11_drawYear_119 rfl (lv_at hl 4 rfl) ?_
          refine lv_aload_n hx hb dX11_drawYear_120 rfl (lv_at hl 4 rfl) ?_
          refine th_getK hC cf_X11 hB.1 h0 ro_42 rfl (j := 3) (by decide) mb5 kf_X11_27 dX11_drawYear_121 ?_
          replace hF := hF.trans (dv_bn (dv_getR h0 ro_42 (j := 3) rfl mb5 (by decide)))
          refine lv_iload hx hb dX11_drawYear_124 (lv_at hl 2 rfl) ?_
          refine lv_iload hx hb dX11_drawYear_126 (lv_at hl 1 rfl) ?_
          refine lv_iload hx hb dX11_drawYear_128 (lv_at hl 0 rfl) ?_
          refine th_call (th_runV (As := [.ref b5, .int s46_0, .int s71_0, .int s97_0]) (rest := []) hC mf_X11_canLie km_X11_176 im_X11_canLie se_X11_canLie (c_X11_canLie l G Γ H0 hB.1 hR hU a0 h0 b5 hb5 s46_0 s71_0 s97_0) rfl rfl ⟨Nat.le_of_ble_eq_true rfl, Nat.le_of_ble_eq_true rfl⟩ hB.1 h0 ro_42 rfl rfl hl.1 rfl (Nat.le_of_ble_eq_true rfl) dX11_drawYear_130 ⟨Nat.le_refl _, Nat.le_refl _⟩) hB.2.1 (fun v130 H130 locs hp hz hS => ?_)
          obtain ⟨x16, rfl, lx16, ux16, q130_0, q130_1, hI1, hf, hR, z130_0⟩ := hp
          have hB := th_B_c hB hI1 hS hf (by decide)
          have mm17 := (th_F_o hf h0 ro_42 (j := 3) (by decide) (by decide)).trans mb5
          have mm18 := (th_F_o hf hb5 ro_3 (j := 7) (by decide) (by decide)).trans mx6
          have mm19 := (th_F_o hf hb5 ro_3 (j := 8) (by decide) (by decide)).trans mx7
          have mm20 := (th_F_o hf hb5 ro_3 (j := 9) (by decide) (by decide)).trans mx8
          replace hF := hF.trans (dv_bn2 (z130_0))
          refine W.eq (g2 := F0 m 133 ls [.int x16]) rfl ?_
          refine tr_if_eq (tgt := 160) hx hb dX11_drawYear_133 (by decide) (Eq.refl _) (fun c133 => ?_) (fun c133 => ?_)
          · replace hF := hF.trans (if_pos c133)
            exact jn160 H130 locs ls hB hR (lv_sub hl [3, 4] rfl) hF
          · replace hF := hF.trans (if_neg c133)
            refine lv_aload_n hx hb dX11_drawYear_136 rfl (lv_at hl 4 rfl) ?_
            refine th_getK hC cf_X11 hB.1 h0 ro_42 rfl (j := 3) (by decide) mm17 kf_X11_27 dX11_drawYear_137 ?_
            replace hF := hF.trans (dv_bn (dv_getR h0 ro_42 (j := 3) rfl mm17 (by decide)))
            refine th_getO (j := 3) (r2 := 7) hC cf_X1 hB.1 hb5 ro_3 rfl rfl kf_X11_134 dX11_drawYear_140 (fun b21 mb21 hb21 => ?_)
            refine lv_iload hx hb dX11_drawYear_143 (lv_at hl 2 rfl) ?_
            refine lv_iload hx hb dX11_drawYear_145 (lv_at hl 1 rfl) ?_
            have hIo := hB.1
            refine th_iastF hC hB hb21 (Or.inl hb21) ro_7 rfl (by decide) (Eq.refl _) (by omega) (by omega) th_sIa dX11_drawYear_147 (fun H147 locs hB hf147 hst147 => ?_)
            have hf := hf147
            have mm22 := (th_F_o hf h0 ro_42 (j := 3) (by decide) (by decide)).trans mm17
            have mm23 := (th_F_o hf hb5 ro_3 (j := 7) (by decide) (by decide)).trans mm18
            have mm24 := (th_F_o hf hb5 ro_3 (j := 8) (by decide) (by decide)).trans mm19
            have mm25 := (th_F_o hf hb5 ro_3 (j := 9) (by decide) (by decide)).trans mm20
            replace hF := hF.trans (dv_bn (dv_stoI hIo hB.1 hU hb21 ow_7 (i := s46_0.toInt) hst147 (Eq.refl _) (by omega)))
            refine lv_aload_n hx hb dX11_drawYear_148 rfl (lv_at hl 4 rfl) ?_
            refine th_getK hC cf_X11 hB.1 h0 ro_42 rfl (j := 3) (by decide) mm22 kf_X11_27 dX11_drawYear_149 ?_
            replace hF := hF.trans (dv_bn (dv_getR h0 ro_42 (j := 3) rfl mm22 (by decide)))
            refine th_getO (j := 4) (r2 := 8) hC cf_X1 hB.1 hb5 ro_3 rfl rfl kf_X11_137 dX11_drawYear_152 (fun b26 mb26 hb26 => ?_)
            refine lv_iload hx hb dX11_drawYear_155 (lv_at hl 2 rfl) ?_
            refine lv_iload hx hb dX11_drawYear_157 (lv_at hl 0 rfl) ?_
            have hIo := hB.1
            refine th_iastF hC hB hb26 (Or.inl hb26) ro_8 rfl (by decide) (Eq.refl _) (by omega) (by omega) th_sIa dX11_drawYear_159 (fun H159 locs hB hf159 hst159 => ?_)
            have hf := hf159
            have mm27 := (th_F_o hf h0 ro_42 (j := 3) (by decide) (by decide)).trans mm22
            have mm28 := (th_F_o hf hb5 ro_3 (j := 7) (by decide) (by decide)).trans mm23
            have mm29 := (th_F_o hf hb5 ro_3 (j := 8) (by decide) (by decide)).trans mm24
            have mm30 := (th_F_o hf hb5 ro_3 (j := 9) (by decide) (by decide)).trans mm25
            replace hF := hF.trans (dv_bn (dv_stoI hIo hB.1 hU hb26 ow_8 (i := s46_0.toInt) hst159 (Eq.refl _) (by omega)))
            have hR := th_RC_xy hB.1 hR hb5 hb21 hb26 mb21 mb26 hst147 hst159 hf147 hf159 (Or.inr (by omega))
            exact jn160 H159 locs ls hB hR (lv_sub hl [3, 4] rfl) hF
        · replace hF := hF.trans (if_neg (not_not_intro c104))
          refine lv_aload_n hx hb dX11_drawYear_107 rfl (lv_at hl 4 rfl) ?_
          refine th_getK hC cf_X11 hB.1 h0 ro_42 rfl (j := 3) (by decide) mb5 kf_X11_27 dX11_drawYear_108 ?_
          replace hF := hF.trans (dv_bn (dv_getR h0 ro_42 (j := 3) rfl mb5 (by decide)))
          refine lv_iload hx hb dX11_drawYear_111 (lv_at hl 2 rfl) ?_
          refine th_call (th_runV (As := [.int s46_0]) (rest := []) hC mf_X1_rollUp km_X11_301 im_X1_rollUp se_X1_rollUp (c_X1_rollUp l G Γ H0 hB.1 hR hU b5 hb5 s46_0) rfl rfl ⟨Nat.le_of_ble_eq_true rfl, Nat.le_of_ble_eq_true rfl⟩ hB.1 hb5 ro_3 rfl rfl hl.1 rfl (Nat.le_of_ble_eq_true rfl) dX11_drawYear_113 ⟨Nat.le_refl _, Nat.le_refl _⟩) hB.2.1 (fun v113 H113 locs hp hz hS => ?_)
          obtain ⟨rfl, hI1, hf, hR, z113_0⟩ := hp
          have hB := th_B_c hB hI1 hS hf (by decide)
          have mm31 := (th_F_o hf h0 ro_42 (j := 3) (by decide) (by decide)).trans mb5
          have mm32 := (th_F_o hf hb5 ro_3 (j := 7) (by decide) (by decide)).trans mx6
          have mm33 := (th_F_o hf hb5 ro_3 (j := 8) (by decide) (by decide)).trans mx7
          have mm34 := (th_F_o hf hb5 ro_3 (j := 9) (by decide) (by decide)).trans mx8
          replace hF := hF.trans (dv_bn2 (z113_0))
          refine W.eq (g2 := F0 m 116 ls []) rfl ?_
          refine lv_goto (tgt := 160) hx hb dX11_drawYear_116 (by decide) ?_
          exact jn160 H113 locs ls hB hR (lv_sub hl [3, 4] rfl) hF
      refine tr_if_le (tgt := 96) hx hb dX11_drawYear_80 (by decide) (Eq.refl _) (fun c80 => ?_) (fun c80 => ?_)
      · exfalso; omega
      · replace hF := hF.trans (if_neg (Int.not_le.mpr c80))
        refine lv_iload hx hb dX11_drawYear_83 (lv_at hl 3 rfl) ?_
        refine lv_aload_n hx hb dX11_drawYear_85 rfl (lv_at hl 4 rfl) ?_
        refine th_getK hC cf_X11 hB.1 h0 ro_42 rfl (j := 3) (by decide) mb5 kf_X11_27 dX11_drawYear_86 ?_
        replace hF := hF.trans (dv_bn (dv_getR h0 ro_42 (j := 3) rfl mb5 (by decide)))
        refine th_getK hC cf_X1 hB.1 hb5 ro_3 rfl (j := 9) (by decide) mx8 kf_X11_158 dX11_drawYear_89 ?_
        replace hF := hF.trans (dv_bn (dv_getI hb5 ro_3 (j := 9) rfl mx8 (by decide)))
        refine lv_irem hx hb dX11_drawYear_92 (fun q => by have := congrArg Int32.toInt q; have h0 : (0 : Int32).toInt = 0 := rfl; have hy := (Eq.refl (x8.toInt)); omega) ?_
        refine lv_topi (fun x35 ex35 => ?_)
        have lx35 := ti_lo x35; have ux35 := ti_hi x35
        replace hF := hF.trans (dv_bn (dv_rem_e (Eq.refl _) (Eq.refl _) ex35))
        refine lv_goto (tgt := 97) hx hb dX11_drawYear_93 (by decide) ?_
        exact jn97 locs ls x35 hB (lv_sub hl [0, 1, 2, 4] rfl) hF
    refine tr_if_le (tgt := 70) hx hb dX11_drawYear_55 (by decide) (Eq.refl _) (fun c55 => ?_) (fun c55 => ?_)
    · exfalso; omega
    · replace hF := hF.trans (if_neg (Int.not_le.mpr c55))
      refine lv_iload_n hx hb dX11_drawYear_58 rfl (lv_at hl 3 rfl) ?_
      refine lv_aload_n hx hb dX11_drawYear_59 rfl (lv_at hl 4 rfl) ?_
      refine th_getK hC cf_X11 hB.1 h0 ro_42 rfl (j := 3) (by decide) mb5 kf_X11_27 dX11_drawYear_60 ?_
      replace hF := hF.trans (dv_bn (dv_getR h0 ro_42 (j := 3) rfl mb5 (by decide)))
      refine th_getK hC cf_X1 hB.1 hb5 ro_3 rfl (j := 8) (by decide) mx7 kf_X11_155 dX11_drawYear_63 ?_
      replace hF := hF.trans (dv_bn (dv_getI hb5 ro_3 (j := 8) rfl mx7 (by decide)))
      refine lv_irem hx hb dX11_drawYear_66 (fun q => by have := congrArg Int32.toInt q; have h0 : (0 : Int32).toInt = 0 := rfl; have hy := (Eq.refl (x7.toInt)); omega) ?_
      refine lv_topi (fun x36 ex36 => ?_)
      have lx36 := ti_lo x36; have ux36 := ti_hi x36
      replace hF := hF.trans (dv_bn (dv_rem_e (Eq.refl _) (Eq.refl _) ex36))
      refine lv_goto (tgt := 71) hx hb dX11_drawYear_67 (by decide) ?_
      exact jn71 locs ls x36 hB (lv_sub hl [0, 1, 2, 4] rfl) hF
  refine tr_if_le (tgt := 45) hx hb dX11_drawYear_30 (by decide) (Eq.refl _) (fun c30 => ?_) (fun c30 => ?_)
  · replace hF := hF.trans (if_pos c30)
    refine lv_iconst (v := 0) hx hb dX11_drawYear_45 (by decide) ?_
    exact jn46 locs ls 0 hB (lv_sub hl [0, 1, 2, 4] rfl) (by rw [tk_0]; exact hF)
  · replace hF := hF.trans (if_neg (Int.not_le.mpr c30))
    refine lv_iload_n hx hb dX11_drawYear_33 rfl (lv_at hl 3 rfl) ?_
    refine lv_aload_n hx hb dX11_drawYear_34 rfl (lv_at hl 4 rfl) ?_
    refine th_getK hC cf_X11 hB.1 h0 ro_42 rfl (j := 3) (by decide) mb5 kf_X11_27 dX11_drawYear_35 ?_
    replace hF := hF.trans (dv_bn (dv_getR h0 ro_42 (j := 3) rfl mb5 (by decide)))
    refine th_getK hC cf_X1 hB.1 hb5 ro_3 rfl (j := 7) (by decide) mx6 kf_X11_298 dX11_drawYear_38 ?_
    replace hF := hF.trans (dv_bn (dv_getI hb5 ro_3 (j := 7) rfl mx6 (by decide)))
    refine lv_irem hx hb dX11_drawYear_41 (fun q => by have := congrArg Int32.toInt q; have h0 : (0 : Int32).toInt = 0 := rfl; have hy := (Eq.refl (x6.toInt)); omega) ?_
    refine lv_topi (fun x37 ex37 => ?_)
    have lx37 := ti_lo x37; have ux37 := ti_hi x37
    replace hF := hF.trans (dv_bn (dv_rem_e (Eq.refl _) (Eq.refl _) ex37))
    refine lv_goto (tgt := 46) hx hb dX11_drawYear_42 (by decide) ?_
    exact jn46 locs ls x37 hB (lv_sub hl [0, 1, 2, 4] rfl) hF

set_option maxHeartbeats 4000000 in
set_option maxRecDepth 100000 in
theorem c_X11_years (l : Launch) (G : th_G) (Γ : th_Ga) (H0 : Heap) (hI : th_I G Γ H0) (hR : th_RC G Γ H0) (hU : dv_U Γ) (a0 : Nat) (h0 : Γ a0 = (42, 0)) (p1 : Int32) (p2 : Int32) : Met l yX11_years (.code yX11_years cX11_years 5 (some FieldType.int) :: th_tb) ({ frames := 6, cells := 0, slots := 0, locals := 157 } : Room) (th_P [.ref a0, .int p1, .int p2] G H0) (th_Q (fun (v : Option Value) (H1 : Heap) => ∃ r : Int32, v = some (.int r) ∧ th_I G Γ H1 ∧ th_F G Γ [(45, 0), (42, 14), (24, 0), (23, 3), (26, 0), (25, 0), (4, 0), (5, 0), (6, 0), (9, 0), (3, 7), (3, 8), (3, 9), (3, 10), (7, 0), (8, 0)] H0 H1 ∧ th_RC G Γ H1 ∧ (f_X11_years (dv G Γ H0) (a0 : Int) p1.toInt p2.toInt = (dv G Γ H1, r.toInt))) G) 0 0 (fun q => G.2.2 ≤ q) := by
  refine th_met RX11 (by decide) rfl (Nat.le_of_ble_eq_true rfl) ?_
  intro p e s m below meth c hC hH hr hlocks hnm ls hl
  have hx := hC.1
  have hb := hC.2.1
  have hB : th_B G Γ Γ [(45, 0), (42, 14), (24, 0), (23, 3), (26, 0), (25, 0), (4, 0), (5, 0), (6, 0), (9, 0), (3, 7), (3, 8), (3, 9), (3, 10), (7, 0), (8, 0)] H0 H0 [] := ⟨hI, va_S.rf, th_F_rf⟩
  have hl : lv_has ls 5 [(0, .ref a0), (1, .int p1), (2, .int p2)] := hl
  have lp1 := ti_lo p1; have up1 := ti_hi p1
  have lp2 := ti_lo p2; have up2 := ti_hi p2
  obtain ⟨F, hF0⟩ : ∃ F, F = f_X11_years (dv G Γ H0) ((a0 : Int)) (p1.toInt) (p2.toInt) := ⟨_, rfl⟩
  have hF := hF0.trans (f_X11_years.eq_1 (dv G Γ H0) ((a0 : Int)) (p1.toInt) (p2.toInt))
  refine lv_iload_n hx hb dX11_years_0 rfl (lv_at hl 1 rfl) ?_
  have jn22 : ∀ (locs : List Loc) (ls : Array Slot) , th_B G Γ Γ [(45, 0), (42, 14), (24, 0), (23, 3), (26, 0), (25, 0), (4, 0), (5, 0), (6, 0), (9, 0), (3, 7), (3, 8), (3, 9), (3, 10), (7, 0), (8, 0)] H0 H0 locs → lv_has ls 5 [(0, .ref a0)] → F = f_X11_years_22 (dv G Γ H0) ((a0 : Int)) → W p l e ({ frames := 6, cells := 0, slots := 0, locals := 157 } : Room) s m ([.ref a0, .int p1, .int p2] : List Value).toArray below meth c H0 locs 0 0 (MQ below (th_Q (fun (v : Option Value) (H1 : Heap) => ∃ r : Int32, v = some (.int r) ∧ th_I G Γ H1 ∧ th_F G Γ [(45, 0), (42, 14), (24, 0), (23, 3), (26, 0), (25, 0), (4, 0), (5, 0), (6, 0), (9, 0), (3, 7), (3, 8), (3, 9), (3, 10), (7, 0), (8, 0)] H0 H1 ∧ th_RC G Γ H1 ∧ (f_X11_years (dv G Γ H0) (a0 : Int) p1.toInt p2.toInt = (dv G Γ H1, r.toInt))) G) ([.ref a0, .int p1, .int p2] : List Value).toArray s 0 0 (fun q => G.2.2 ≤ q)) (F0 m 22 ls []) := by
    intro locs ls hB hl hF
    replace hF := hF.trans (f_X11_years_22.eq_1 (dv G Γ H0) ((a0 : Int)))
    refine lv_aload_n hx hb dX11_years_22 rfl (lv_at hl 0 rfl) ?_
    refine lv_iconst (v := (-1)) hx hb dX11_years_23 (by decide) ?_
    refine th_call (th_runV (As := [.int (-1)]) (rest := []) hC mf_X11_answer km_X11_117 im_X11_answer se_X11_answer (c_X11_answer l G Γ H0 hB.1 hR hU a0 h0 (-1)) rfl rfl ⟨Nat.le_of_ble_eq_true rfl, Nat.le_of_ble_eq_true rfl⟩ hB.1 h0 ro_42 rfl rfl hl.1 rfl (Nat.le_of_ble_eq_true rfl) dX11_years_24 ⟨Nat.le_refl _, Nat.le_refl _⟩) hB.2.1 (fun v24 H24 locs hp hz hS => ?_)
    obtain ⟨x1, rfl, q24_0, hI1, hf, hR, z24_0⟩ := hp
    have hB := th_B_c hB hI1 hS hf (by decide)
    have w24_0 := tk_m1
    have zf24 := z24_0
    rw [tk_m1] at zf24
    replace hF := hF.trans (dv_bn2 (zf24))
    refine W.eq (g2 := F0 m 27 ls [.int x1]) rfl ?_
    exact th_iret hC hH hr hlocks rfl hB.2.1 ⟨_, rfl, hB.1, hB.2.2, hR, (hF0.symm.trans hF)⟩ dX11_years_27
  refine tr_if_lt (tgt := 22) hx hb dX11_years_1 (by decide) (Eq.refl _) (fun c1 => ?_) (fun c1 => ?_)
  · replace hF := hF.trans (if_pos c1)
    exact jn22 [] ls hB (lv_sub hl [0] rfl) hF
  · replace hF := hF.trans (if_neg (Int.not_lt.mpr c1))
    refine lv_iload_n hx hb dX11_years_4 rfl (lv_at hl 1 rfl) ?_
    refine lv_ldcw (v := 1000000) hx hb hC.2.2.2.1 (hC.2.2.2.2.1 _ kw_1176) dX11_years_5 ?_
    refine tr_icmp_gt (tgt := 22) hx hb dX11_years_8 (by decide) (Eq.refl _) tk_1000000 (fun c8 => ?_) (fun c8 => ?_)
    · replace hF := hF.trans (if_pos c8)
      exact jn22 [] ls hB (lv_sub hl [0] rfl) hF
    · replace hF := hF.trans (if_neg (Int.not_lt.mpr c8))
      refine lv_iload_n hx hb dX11_years_11 rfl (lv_at hl 2 rfl) ?_
      refine lv_iconst (v := 1) hx hb dX11_years_12 (by decide) ?_
      refine tr_icmp_lt (tgt := 22) hx hb dX11_years_13 (by decide) (Eq.refl _) tk_1 (fun c13 => ?_) (fun c13 => ?_)
      · replace hF := hF.trans (if_pos c13)
        exact jn22 [] ls hB (lv_sub hl [0] rfl) hF
      · replace hF := hF.trans (if_neg (Int.not_lt.mpr c13))
        refine lv_iload_n hx hb dX11_years_16 rfl (lv_at hl 2 rfl) ?_
        refine lv_bipush (v := 60) hx hb dX11_years_17 (by decide) ?_
        refine tr_icmp_le (tgt := 28) hx hb dX11_years_19 (by decide) (Eq.refl _) tk_60 (fun c19 => ?_) (fun c19 => ?_)
        · replace hF := hF.trans (if_pos c19)
          refine lv_aload_n hx hb dX11_years_28 rfl (lv_at hl 0 rfl) ?_
          refine th_getR (j := 0) (r2 := 32) hC cf_X11 hB.1 h0 ro_42 rfl rfl kf_X11_12 dX11_years_29 (fun b2 mb2 hb2 => ?_)
          replace hF := hF.trans (dv_bn (dv_getR h0 ro_42 (j := 0) rfl mb2 (by decide)))
          refine th_getR (j := 0) (r2 := 3) hC cf_X8 hB.1 hb2 ro_32 rfl rfl kf_X11_107 dX11_years_32 (fun b3 mb3 hb3 => ?_)
          replace hF := hF.trans (dv_bn (dv_getR hb2 ro_32 (j := 0) rfl mb3 (by decide)))
          refine th_getI (j := 7) hC cf_X1 hB.1 hb3 ro_3 rfl rfl kf_X11_298 dX11_years_35 (fun x4 mx4 lx4 ux4 => ?_)
          replace hF := hF.trans (dv_bn (dv_getI hb3 ro_3 (j := 7) rfl mx4 (by decide)))
          refine tr_if_ne (tgt := 48) hx hb dX11_years_38 (by decide) (Eq.refl _) (fun c38 => ?_) (fun c38 => ?_)
          · replace hF := hF.trans (if_pos c38)
            refine lv_aload_n hx hb dX11_years_48 rfl (lv_at hl 0 rfl) ?_
            refine th_getR (j := 3) (r2 := 3) hC cf_X11 hB.1 h0 ro_42 rfl rfl kf_X11_27 dX11_years_49 (fun b5 mb5 hb5 => ?_)
            replace hF := hF.trans (dv_bn (dv_getR h0 ro_42 (j := 3) rfl mb5 (by decide)))
            refine lv_aload_n hx hb dX11_years_52 rfl (lv_at hl 0 rfl) ?_
            refine th_getK hC cf_X11 hB.1 h0 ro_42 rfl (j := 0) (by decide) mb2 kf_X11_12 dX11_years_53 ?_
            replace hF := hF.trans (dv_bn (dv_getR h0 ro_42 (j := 0) rfl mb2 (by decide)))
            refine th_getK hC cf_X8 hB.1 hb2 ro_32 rfl (j := 0) (by decide) mb3 kf_X11_107 dX11_years_56 ?_
            replace hF := hF.trans (dv_bn (dv_getR hb2 ro_32 (j := 0) rfl mb3 (by decide)))
            refine th_call (th_runV (As := [.ref b3]) (rest := []) hC mf_X1_copyFrom km_X11_275 im_X1_copyFrom se_X1_copyFrom (c_X1_copyFrom l G Γ H0 hB.1 hR hU b5 hb5 b3 hb3) rfl rfl ⟨Nat.le_of_ble_eq_true rfl, Nat.le_of_ble_eq_true rfl⟩ hB.1 hb5 ro_3 rfl rfl hl.1 rfl (Nat.le_of_ble_eq_true rfl) dX11_years_59 ⟨Nat.le_refl _, Nat.le_refl _⟩) hB.2.1 (fun v59 H59 locs hp hz hS => ?_)
            obtain ⟨rfl, hI1, hf, hR, z59_0⟩ := hp
            have hB := th_B_c hB hI1 hS hf (by decide)
            have mm6 := (th_F_o hf h0 ro_42 (j := 0) (by decide) (by decide)).trans mb2
            have mm7 := (th_F_o hf hb2 ro_32 (j := 0) (by decide) (by decide)).trans mb3
            have mm8 := (th_F_o hf h0 ro_42 (j := 3) (by decide) (by decide)).trans mb5
            replace hF := hF.trans (dv_bn2 (z59_0))
            refine W.eq (g2 := F0 m 62 ls []) rfl ?_
            refine lv_iload_n hx hb dX11_years_62 rfl (lv_at hl 1 rfl) ?_
            refine lv_istore_n (lv' := [(3, .int p1), (0, .ref a0), (1, .int p1), (2, .int p2)]) hx hb dX11_years_63 rfl hl (by decide) rfl (fun ls hl => ?_)
            refine lv_iconst (v := 0) hx hb dX11_years_64 (by decide) ?_
            refine lv_istore (lv' := [(4, .int 0), (3, .int p1), (0, .ref a0), (1, .int p1), (2, .int p2)]) hx hb dX11_years_65 hl (by decide) rfl (fun ls hl => ?_)
            have lp67 : ∀ (n67 : Nat) (H67 : Heap) (locs : List Loc) (ls : Array Slot) (j67_3 : Int32) (j67_4 : Int32), th_B G Γ Γ [(45, 0), (42, 14), (24, 0), (23, 3), (26, 0), (25, 0), (4, 0), (5, 0), (6, 0), (9, 0), (3, 7), (3, 8), (3, 9), (3, 10), (7, 0), (8, 0)] H0 H67 locs → th_RC G Γ H67 → lv_has ls 5 [(0, .ref a0), (2, .int p2), (3, .int j67_3), (4, .int j67_4)] → F = dv_lp f_X11_years_67b (dv G Γ H67, (a0 : Int), p2.toInt, j67_3.toInt, j67_4.toInt) → 0 ≤ j67_4.toInt → j67_4.toInt ≤ 60 → (2147483648 : Int) - j67_4.toInt ≤ (n67 : Int) → W p l e ({ frames := 6, cells := 0, slots := 0, locals := 157 } : Room) s m ([.ref a0, .int p1, .int p2] : List Value).toArray below meth c H67 locs 0 0 (MQ below (th_Q (fun (v : Option Value) (H1 : Heap) => ∃ r : Int32, v = some (.int r) ∧ th_I G Γ H1 ∧ th_F G Γ [(45, 0), (42, 14), (24, 0), (23, 3), (26, 0), (25, 0), (4, 0), (5, 0), (6, 0), (9, 0), (3, 7), (3, 8), (3, 9), (3, 10), (7, 0), (8, 0)] H0 H1 ∧ th_RC G Γ H1 ∧ (f_X11_years (dv G Γ H0) (a0 : Int) p1.toInt p2.toInt = (dv G Γ H1, r.toInt))) G) ([.ref a0, .int p1, .int p2] : List Value).toArray s 0 0 (fun q => G.2.2 ≤ q)) (F0 m 67 ls []) := by
              intro n67
              induction n67 with
              | zero => intro H67 locs ls j67_3 j67_4 hB hR hl hF g67_0 g67_1 hm67; exact absurd hm67 (by have := ti_hi j67_4; omega)
              | succ n67 ih67 =>
                intro H67 locs ls j67_3 j67_4 hB hR hl hF g67_0 g67_1 hm67
                have lj67_3 := ti_lo j67_3; have uj67_3 := ti_hi j67_3
                have lj67_4 := ti_lo j67_4; have uj67_4 := ti_hi j67_4
                have mm9 := (th_F_o hB.2.2 h0 ro_42 (j := 3) (by decide) (by decide)).trans mb5
                have hm67 : (2147483648 : Int) - j67_4.toInt ≤ (n67 : Int) + 1 := by omega
                replace hF := hF.trans (dv_lp_eq)
                replace hF := hF.trans (congrArg (dv_k f_X11_years_67b) (f_X11_years_67c.eq_1 (dv G Γ H67) ((a0 : Int)) (p2.toInt) (j67_3.toInt) (j67_4.toInt)))
                refine lv_iload hx hb dX11_years_67 (lv_at hl 3 rfl) ?_
                refine lv_iload_n hx hb dX11_years_69 rfl (lv_at hl 1 rfl) ?_
                have jn100 : ∀ (locs : List Loc) (ls : Array Slot) , th_B G Γ Γ [(45, 0), (42, 14), (24, 0), (23, 3), (26, 0), (25, 0), (4, 0), (5, 0), (6, 0), (9, 0), (3, 7), (3, 8), (3, 9), (3, 10), (7, 0), (8, 0)] H0 H67 locs → lv_has ls 5 [(0, .ref a0)] → F = dv_k f_X11_years_67b (f_X11_years_100 (dv G Γ H67) ((a0 : Int))) → W p l e ({ frames := 6, cells := 0, slots := 0, locals := 157 } : Room) s m ([.ref a0, .int p1, .int p2] : List Value).toArray below meth c H67 locs 0 0 (MQ below (th_Q (fun (v : Option Value) (H1 : Heap) => ∃ r : Int32, v = some (.int r) ∧ th_I G Γ H1 ∧ th_F G Γ [(45, 0), (42, 14), (24, 0), (23, 3), (26, 0), (25, 0), (4, 0), (5, 0), (6, 0), (9, 0), (3, 7), (3, 8), (3, 9), (3, 10), (7, 0), (8, 0)] H0 H1 ∧ th_RC G Γ H1 ∧ (f_X11_years (dv G Γ H0) (a0 : Int) p1.toInt p2.toInt = (dv G Γ H1, r.toInt))) G) ([.ref a0, .int p1, .int p2] : List Value).toArray s 0 0 (fun q => G.2.2 ≤ q)) (F0 m 100 ls []) := by
                  intro locs ls hB hl hF
                  replace hF := hF.trans (congrArg (dv_k f_X11_years_67b) (f_X11_years_100.eq_1 (dv G Γ H67) ((a0 : Int))))
                  refine lv_aload_n hx hb dX11_years_100 rfl (lv_at hl 0 rfl) ?_
                  refine lv_aload_n hx hb dX11_years_101 rfl (lv_at hl 0 rfl) ?_
                  refine th_getK hC cf_X11 hB.1 h0 ro_42 rfl (j := 3) (by decide) mm9 kf_X11_27 dX11_years_102 ?_
                  replace hF := hF.trans (congrArg (dv_k f_X11_years_67b) (dv_bn (dv_getR h0 ro_42 (j := 3) rfl mm9 (by decide))))
                  refine th_call (th_runV (As := []) (rest := [.ref a0]) hC mf_X1_bareCells km_X11_249 im_X1_bareCells se_X1_bareCells (c_X1_bareCells l G Γ H67 hB.1 hU b5 hb5) rfl rfl ⟨Nat.le_of_ble_eq_true rfl, Nat.le_of_ble_eq_true rfl⟩ hB.1 hb5 ro_3 rfl rfl hl.1 rfl (Nat.le_of_ble_eq_true rfl) dX11_years_105 ⟨Nat.le_refl _, Nat.le_refl _⟩) hB.2.1 (fun v105 H105 locs hp hz hS => ?_)
                  obtain ⟨x10, rfl, q105_0, rfl⟩ := hp
                  have hB := th_B_s hB hS
                  replace hF := hF.trans (congrArg (dv_k f_X11_years_67b) (dv_bn2 (q105_0)))
                  refine W.eq (g2 := F0 m 108 ls [.int x10, .ref a0]) rfl ?_
                  refine th_call (th_runV (As := [.int x10]) (rest := []) hC mf_X11_answer km_X11_117 im_X11_answer se_X11_answer (c_X11_answer l G Γ H67 hB.1 hR hU a0 h0 x10) rfl rfl ⟨Nat.le_of_ble_eq_true rfl, Nat.le_of_ble_eq_true rfl⟩ hB.1 h0 ro_42 rfl rfl hl.1 rfl (Nat.le_of_ble_eq_true rfl) dX11_years_108 ⟨Nat.le_refl _, Nat.le_refl _⟩) hB.2.1 (fun v108 H108 locs hp hz hS => ?_)
                  obtain ⟨x11, rfl, q108_0, hI1, hf, hR, z108_0⟩ := hp
                  have hB := th_B_c hB hI1 hS hf (by decide)
                  have mm12 := (th_F_o hf h0 ro_42 (j := 3) (by decide) (by decide)).trans mm9
                  replace hF := hF.trans (congrArg (dv_k f_X11_years_67b) (dv_bn2 (z108_0)))
                  refine W.eq (g2 := F0 m 111 ls [.int x11]) rfl ?_
                  replace hF := hF.trans (dv_kr)
                  exact th_iret hC hH hr hlocks rfl hB.2.1 ⟨_, rfl, hB.1, hB.2.2, hR, (hF0.symm.trans hF)⟩ dX11_years_111
                refine tr_icmp_ge (tgt := 100) hx hb dX11_years_70 (by decide) (Eq.refl _) (Eq.refl _) (fun c70 => ?_) (fun c70 => ?_)
                · replace hF := hF.trans (congrArg (dv_k f_X11_years_67b) (if_pos c70))
                  exact jn100 locs ls hB (lv_sub hl [0] rfl) hF
                · replace hF := hF.trans (congrArg (dv_k f_X11_years_67b) (if_neg (Int.not_le.mpr c70)))
                  refine lv_aload_n hx hb dX11_years_73 rfl (lv_at hl 0 rfl) ?_
                  refine th_getK hC cf_X11 hB.1 h0 ro_42 rfl (j := 3) (by decide) mm9 kf_X11_27 dX11_years_74 ?_
                  replace hF := hF.trans (congrArg (dv_k f_X11_years_67b) (dv_bn (dv_getR h0 ro_42 (j := 3) rfl mm9 (by decide))))
                  refine th_getO (j := 5) (r2 := 9) hC cf_X1 hB.1 hb5 ro_3 rfl rfl kf_X11_183 dX11_years_77 (fun b13 mb13 hb13 => ?_)
                  have sb13 := (th_F_o hB.2.2 hb5 ro_3 (j := 5) (by decide) (by decide)).symm.trans mb13
                  refine lv_iconst (v := 0) hx hb dX11_years_80 (by decide) ?_
                  refine th_ialdF hC hB.1 hb13 ro_9 rfl tk_0 (by omega) (by omega) rfl dX11_years_81 (fun x14 mx14 lx14 ux14 => ?_)
                  replace hF := hF.trans (congrArg (dv_k f_X11_years_67b) (dv_bn (dv_aldI hB.1 hU hb13 ow_9 (z := 0) mx14 (by omega))))
                  refine lv_sipush (v := 999) hx hb dX11_years_82 (by decide) ?_
                  refine tr_icmp_ge (tgt := 100) hx hb dX11_years_85 (by decide) (Eq.refl _) tk_999 (fun c85 => ?_) (fun c85 => ?_)
                  · replace hF := hF.trans (congrArg (dv_k f_X11_years_67b) (if_pos c85))
                    exact jn100 locs ls hB (lv_sub hl [0] rfl) hF
                  · replace hF := hF.trans (congrArg (dv_k f_X11_years_67b) (if_neg (Int.not_le.mpr c85)))
                    refine lv_aload_n hx hb dX11_years_88 rfl (lv_at hl 0 rfl) ?_
                    refine lv_iload_n hx hb dX11_years_89 rfl (lv_at hl 2 rfl) ?_
                    refine th_call (th_runV (As := [.int j67_3]) (rest := []) hC mf_X11_drawYear km_X11_339 im_X11_drawYear se_X11_drawYear (c_X11_drawYear l G Γ H67 hB.1 hR hU a0 h0 j67_3) rfl rfl ⟨Nat.le_of_ble_eq_true rfl, Nat.le_of_ble_eq_true rfl⟩ hB.1 h0 ro_42 rfl rfl hl.1 rfl (Nat.le_of_ble_eq_true rfl) dX11_years_90 ⟨Nat.le_refl _, Nat.le_refl _⟩) hB.2.1 (fun v90 H90 locs hp hz hS => ?_)
                    obtain ⟨x15, rfl, hI1, hf, hR, z90_0⟩ := hp
                    have hB := th_B_c hB hI1 hS hf (by decide)
                    have mm16 := (th_F_o hf h0 ro_42 (j := 3) (by decide) (by decide)).trans mm9
                    have mm17 := (th_F_o hf hb5 ro_3 (j := 5) (by decide) (by decide)).trans mb13
                    replace hF := hF.trans (congrArg (dv_k f_X11_years_67b) (dv_bn2 (z90_0)))
                    refine W.eq (g2 := F0 m 93 ls [.int x15]) rfl ?_
                    refine lv_istore_n (lv' := [(3, .int x15), (0, .ref a0), (2, .int p2), (4, .int j67_4)]) hx hb dX11_years_93 rfl hl (by decide) rfl (fun ls hl => ?_)
                    refine tr_iinc (fun x18 => [(4, .int x18), (3, .int x15), (0, .ref a0), (2, .int p2)]) hx hb dX11_years_94 hl (k := 3) rfl (Eq.refl _) tk_1 (by omega) (by omega) (by decide) (fun _ => rfl) (fun x18 ls ex18 hl => ?_)
                    replace hF := hF.trans (congrArg (dv_k f_X11_years_67b) (dv_bn (ex18.symm)))
                    refine lv_goto (tgt := 67) hx hb dX11_years_97 (by decide) ?_
                    replace hF := hF.trans (dv_kl)
                    exact ih67 H90 locs ls x15 x18 hB hR (lv_sub hl [2, 3, 1, 0] rfl) hF (by omega) (by omega) (by omega)
            exact lp67 ((2147483648 : Int) - (0)).toNat H59 locs ls p1 0 hB hR (lv_sub hl [2, 4, 1, 0] rfl) (by rw [tk_0]; exact hF) (by decide) (by decide) (by have w0 := tk_0; omega)
          · replace hF := hF.trans (if_neg (not_not_intro c38))
            refine lv_aload_n hx hb dX11_years_41 rfl (lv_at hl 0 rfl) ?_
            refine lv_bipush (v := (-3)) hx hb dX11_years_42 (by decide) ?_
            refine th_call (th_runV (As := [.int (-3)]) (rest := []) hC mf_X11_answer km_X11_117 im_X11_answer se_X11_answer (c_X11_answer l G Γ H0 hB.1 hR hU a0 h0 (-3)) rfl rfl ⟨Nat.le_of_ble_eq_true rfl, Nat.le_of_ble_eq_true rfl⟩ hB.1 h0 ro_42 rfl rfl hl.1 rfl (Nat.le_of_ble_eq_true rfl) dX11_years_44 ⟨Nat.le_refl _, Nat.le_refl _⟩) hB.2.1 (fun v44 H44 locs hp hz hS => ?_)
            obtain ⟨x19, rfl, q44_0, hI1, hf, hR, z44_0⟩ := hp
            have hB := th_B_c hB hI1 hS hf (by decide)
            have mm20 := (th_F_o hf h0 ro_42 (j := 0) (by decide) (by decide)).trans mb2
            have mm21 := (th_F_o hf hb2 ro_32 (j := 0) (by decide) (by decide)).trans mb3
            have w44_0 := tk_m3
            have zf44 := z44_0
            rw [tk_m3] at zf44
            replace hF := hF.trans (dv_bn2 (zf44))
            refine W.eq (g2 := F0 m 47 ls [.int x19]) rfl ?_
            exact th_iret hC hH hr hlocks rfl hB.2.1 ⟨_, rfl, hB.1, hB.2.2, hR, (hF0.symm.trans hF)⟩ dX11_years_47
        · replace hF := hF.trans (if_neg (Int.not_le.mpr c19))
          exact jn22 [] ls hB (lv_sub hl [0] rfl) hF

set_option maxHeartbeats 4000000 in
set_option maxRecDepth 100000 in
theorem c_X11_drawn (l : Launch) (G : th_G) (Γ : th_Ga) (H0 : Heap) (hI : th_I G Γ H0) (hU : dv_U Γ) (a0 : Nat) (h0 : Γ a0 = (42, 0)) (p1 : Int32) (p2 : Int32) : Met l yX11_drawn (.code yX11_drawn cX11_drawn 3 (some FieldType.int) :: th_tb) ({ frames := 1, cells := 0, slots := 0, locals := 21 } : Room) (th_P [.ref a0, .int p1, .int p2] G H0) (th_Q (fun (v : Option Value) (H1 : Heap) => ∃ r : Int32, v = some (.int r) ∧ (f_X11_drawn (dv G Γ H0) (a0 : Int) p1.toInt p2.toInt = (r.toInt, ())) ∧ H0 = H1) G) 0 0 (fun q => G.2.2 ≤ q) := by
  refine th_met RX11 (by decide) rfl (Nat.le_of_ble_eq_true rfl) ?_
  intro p e s m below meth c hC hH hr hlocks hnm ls hl
  have hx := hC.1
  have hb := hC.2.1
  have hB : th_B G Γ Γ [] H0 H0 [] := ⟨hI, va_S.rf, th_F_rf⟩
  have hl : lv_has ls 3 [(0, .ref a0), (1, .int p1), (2, .int p2)] := hl
  have lp1 := ti_lo p1; have up1 := ti_hi p1
  have lp2 := ti_lo p2; have up2 := ti_hi p2
  obtain ⟨F, hF0⟩ : ∃ F, F = f_X11_drawn (dv G Γ H0) ((a0 : Int)) (p1.toInt) (p2.toInt) := ⟨_, rfl⟩
  have hF := hF0.trans (f_X11_drawn.eq_1 (dv G Γ H0) ((a0 : Int)) (p1.toInt) (p2.toInt))
  refine lv_aload_n hx hb dX11_drawn_0 rfl (lv_at hl 0 rfl) ?_
  refine th_getR (j := 3) (r2 := 3) hC cf_X11 hB.1 h0 ro_42 rfl rfl kf_X11_27 dX11_drawn_1 (fun b1 mb1 hb1 => ?_)
  replace hF := hF.trans (dv_bn (dv_getR h0 ro_42 (j := 3) rfl mb1 (by decide)))
  refine lv_iload_n hx hb dX11_drawn_4 rfl (lv_at hl 1 rfl) ?_
  refine th_call (th_runV (As := [.int p1]) (rest := []) hC mf_X1_has km_X11_121 im_X1_has se_X1_has (c_X1_has l G Γ H0 hB.1 hU b1 hb1 p1) rfl rfl ⟨Nat.le_of_ble_eq_true rfl, Nat.le_of_ble_eq_true rfl⟩ hB.1 hb1 ro_3 rfl rfl hl.1 rfl (Nat.le_of_ble_eq_true rfl) dX11_drawn_5 ⟨Nat.le_refl _, Nat.le_refl _⟩) hB.2.1 (fun v5 H5 locs hp hz hS => ?_)
  obtain ⟨x2, rfl, lx2, ux2, q5_0, q5_1, rfl⟩ := hp
  have hB := th_B_s hB hS
  replace hF := hF.trans (dv_bn2 (q5_1))
  refine W.eq (g2 := F0 m 8 ls [.int x2]) rfl ?_
  refine tr_if_ne (tgt := 13) hx hb dX11_drawn_8 (by decide) (Eq.refl _) (fun c8 => ?_) (fun c8 => ?_)
  · replace hF := hF.trans (if_pos c8)
    refine lv_iload_n hx hb dX11_drawn_13 rfl (lv_at hl 2 rfl) ?_
    by_cases k14_0 : p2.toInt = 0
    · replace hF := hF.trans (if_pos k14_0)
      refine lv_tableIn (off := 26) (tgt := 40) hx hb dX11_drawn_14 (by omega) (by omega) (by rw [show p2.toInt = 0 from k14_0]; decide) (by decide) ?_
      refine lv_aload_n hx hb dX11_drawn_40 rfl (lv_at hl 0 rfl) ?_
      refine th_getK hC cf_X11 hB.1 h0 ro_42 rfl (j := 3) (by decide) mb1 kf_X11_27 dX11_drawn_41 ?_
      replace hF := hF.trans (dv_bn (dv_getR h0 ro_42 (j := 3) rfl mb1 (by decide)))
      refine th_getO (j := 2) (r2 := 6) hC cf_X1 hB.1 hb1 ro_3 rfl rfl kf_X11_131 dX11_drawn_44 (fun b3 mb3 hb3 => ?_)
      refine lv_iload_n hx hb dX11_drawn_47 rfl (lv_at hl 1 rfl) ?_
      refine th_ialdF hC hB.1 hb3 ro_6 rfl (Eq.refl _) (by omega) (by omega) rfl dX11_drawn_48 (fun x4 mx4 lx4 ux4 => ?_)
      replace hF := hF.trans (dv_bn (dv_aldI hB.1 hU hb3 ow_6 (z := p1.toInt) mx4 (by omega)))
      exact th_iret hC hH hr hlocks rfl hB.2.1 ⟨_, rfl, (hF0.symm.trans hF), rfl⟩ dX11_drawn_49
    replace hF := hF.trans (if_neg k14_0)
    by_cases k14_1 : p2.toInt = 1
    · replace hF := hF.trans (if_pos k14_1)
      refine lv_tableIn (off := 36) (tgt := 50) hx hb dX11_drawn_14 (by omega) (by omega) (by rw [show p2.toInt = 1 from k14_1]; decide) (by decide) ?_
      refine lv_aload_n hx hb dX11_drawn_50 rfl (lv_at hl 0 rfl) ?_
      refine th_getK hC cf_X11 hB.1 h0 ro_42 rfl (j := 3) (by decide) mb1 kf_X11_27 dX11_drawn_51 ?_
      replace hF := hF.trans (dv_bn (dv_getR h0 ro_42 (j := 3) rfl mb1 (by decide)))
      refine th_getO (j := 3) (r2 := 7) hC cf_X1 hB.1 hb1 ro_3 rfl rfl kf_X11_134 dX11_drawn_54 (fun b5 mb5 hb5 => ?_)
      refine lv_iload_n hx hb dX11_drawn_57 rfl (lv_at hl 1 rfl) ?_
      refine th_ialdF hC hB.1 hb5 ro_7 rfl (Eq.refl _) (by omega) (by omega) rfl dX11_drawn_58 (fun x6 mx6 lx6 ux6 => ?_)
      replace hF := hF.trans (dv_bn (dv_aldI hB.1 hU hb5 ow_7 (z := p1.toInt) mx6 (by omega)))
      exact th_iret hC hH hr hlocks rfl hB.2.1 ⟨_, rfl, (hF0.symm.trans hF), rfl⟩ dX11_drawn_59
    replace hF := hF.trans (if_neg k14_1)
    by_cases k14_2 : p2.toInt = 2
    · replace hF := hF.trans (if_pos k14_2)
      refine lv_tableIn (off := 46) (tgt := 60) hx hb dX11_drawn_14 (by omega) (by omega) (by rw [show p2.toInt = 2 from k14_2]; decide) (by decide) ?_
      refine lv_aload_n hx hb dX11_drawn_60 rfl (lv_at hl 0 rfl) ?_
      refine th_getK hC cf_X11 hB.1 h0 ro_42 rfl (j := 3) (by decide) mb1 kf_X11_27 dX11_drawn_61 ?_
      replace hF := hF.trans (dv_bn (dv_getR h0 ro_42 (j := 3) rfl mb1 (by decide)))
      refine th_getO (j := 4) (r2 := 8) hC cf_X1 hB.1 hb1 ro_3 rfl rfl kf_X11_137 dX11_drawn_64 (fun b7 mb7 hb7 => ?_)
      refine lv_iload_n hx hb dX11_drawn_67 rfl (lv_at hl 1 rfl) ?_
      refine th_ialdF hC hB.1 hb7 ro_8 rfl (Eq.refl _) (by omega) (by omega) rfl dX11_drawn_68 (fun x8 mx8 lx8 ux8 => ?_)
      replace hF := hF.trans (dv_bn (dv_aldI hB.1 hU hb7 ow_8 (z := p1.toInt) mx8 (by omega)))
      exact th_iret hC hH hr hlocks rfl hB.2.1 ⟨_, rfl, (hF0.symm.trans hF), rfl⟩ dX11_drawn_69
    replace hF := hF.trans (if_neg k14_2)
    refine lv_tableOut (tgt := 70) hx hb dX11_drawn_14 (by omega) (by decide) ?_
    refine lv_iconst (v := (-1)) hx hb dX11_drawn_70 (by decide) ?_
    exact th_iret hC hH hr hlocks rfl hB.2.1 ⟨_, rfl, (hF0.symm.trans (hF.trans (by rw [tk_m1]))), rfl⟩ dX11_drawn_71
  · replace hF := hF.trans (if_neg (not_not_intro c8))
    refine lv_iconst (v := (-1)) hx hb dX11_drawn_11 (by decide) ?_
    exact th_iret hC hH hr hlocks rfl hB.2.1 ⟨_, rfl, (hF0.symm.trans (hF.trans (by rw [tk_m1]))), rfl⟩ dX11_drawn_12

set_option maxHeartbeats 4000000 in
set_option maxRecDepth 100000 in
theorem c_X11_image (l : Launch) (G : th_G) (Γ : th_Ga) (H0 : Heap) (hI : th_I G Γ H0) (hR : th_RC G Γ H0) (hU : dv_U Γ) (a0 : Nat) (h0 : Γ a0 = (42, 0)) (p1 : Int32) : Met l yX11_image (.code yX11_image cX11_image 2 (some FieldType.int) :: th_tb) ({ frames := 3, cells := 0, slots := 0, locals := 83 } : Room) (th_P [.ref a0, .int p1] G H0) (th_Q (fun (v : Option Value) (H1 : Heap) => ∃ r : Int32, v = some (.int r) ∧ (p1.toInt < 0 ∨ 1 < p1.toInt → r.toInt = -1) ∧ (0 ≤ p1.toInt ∧ p1.toInt ≤ 1 → r.toInt = 0) ∧ th_I G Γ H1 ∧ th_F G Γ [(45, 0), (42, 14), (4, 0), (5, 0), (6, 0), (9, 0), (3, 7), (3, 8), (3, 9), (3, 10), (7, 0), (8, 0), (40, 0), (41, 0), (39, 2), (39, 3), (34, 0), (35, 0), (36, 0), (32, 5), (32, 6), (32, 7), (44, 0)] H0 H1 ∧ th_RC G Γ H1 ∧ (f_X11_image (dv G Γ H0) (a0 : Int) p1.toInt = (dv G Γ H1, r.toInt))) G) 0 0 (fun q => G.2.2 ≤ q) := by
  refine th_met RX11 (by decide) rfl (Nat.le_of_ble_eq_true rfl) ?_
  intro p e s m below meth c hC hH hr hlocks hnm ls hl
  have hx := hC.1
  have hb := hC.2.1
  have hB : th_B G Γ Γ [(45, 0), (42, 14), (4, 0), (5, 0), (6, 0), (9, 0), (3, 7), (3, 8), (3, 9), (3, 10), (7, 0), (8, 0), (40, 0), (41, 0), (39, 2), (39, 3), (34, 0), (35, 0), (36, 0), (32, 5), (32, 6), (32, 7), (44, 0)] H0 H0 [] := ⟨hI, va_S.rf, th_F_rf⟩
  have hl : lv_has ls 2 [(0, .ref a0), (1, .int p1)] := hl
  have lp1 := ti_lo p1; have up1 := ti_hi p1
  obtain ⟨F, hF0⟩ : ∃ F, F = f_X11_image (dv G Γ H0) ((a0 : Int)) (p1.toInt) := ⟨_, rfl⟩
  have hF := hF0.trans (f_X11_image.eq_1 (dv G Γ H0) ((a0 : Int)) (p1.toInt))
  refine lv_iload_n hx hb dX11_image_0 rfl (lv_at hl 1 rfl) ?_
  have jn9 : ∀ (locs : List Loc) (ls : Array Slot) , th_B G Γ Γ [(45, 0), (42, 14), (4, 0), (5, 0), (6, 0), (9, 0), (3, 7), (3, 8), (3, 9), (3, 10), (7, 0), (8, 0), (40, 0), (41, 0), (39, 2), (39, 3), (34, 0), (35, 0), (36, 0), (32, 5), (32, 6), (32, 7), (44, 0)] H0 H0 locs → lv_has ls 2 [(0, .ref a0)] → F = f_X11_image_9 (dv G Γ H0) ((a0 : Int)) → p1.toInt < 0 ∨ 2 ≤ p1.toInt → W p l e ({ frames := 3, cells := 0, slots := 0, locals := 83 } : Room) s m ([.ref a0, .int p1] : List Value).toArray below meth c H0 locs 0 0 (MQ below (th_Q (fun (v : Option Value) (H1 : Heap) => ∃ r : Int32, v = some (.int r) ∧ (p1.toInt < 0 ∨ 1 < p1.toInt → r.toInt = -1) ∧ (0 ≤ p1.toInt ∧ p1.toInt ≤ 1 → r.toInt = 0) ∧ th_I G Γ H1 ∧ th_F G Γ [(45, 0), (42, 14), (4, 0), (5, 0), (6, 0), (9, 0), (3, 7), (3, 8), (3, 9), (3, 10), (7, 0), (8, 0), (40, 0), (41, 0), (39, 2), (39, 3), (34, 0), (35, 0), (36, 0), (32, 5), (32, 6), (32, 7), (44, 0)] H0 H1 ∧ th_RC G Γ H1 ∧ (f_X11_image (dv G Γ H0) (a0 : Int) p1.toInt = (dv G Γ H1, r.toInt))) G) ([.ref a0, .int p1] : List Value).toArray s 0 0 (fun q => G.2.2 ≤ q)) (F0 m 9 ls []) := by
    intro locs ls hB hl hF g9_0
    replace hF := hF.trans (f_X11_image_9.eq_1 (dv G Γ H0) ((a0 : Int)))
    refine lv_aload_n hx hb dX11_image_9 rfl (lv_at hl 0 rfl) ?_
    refine lv_iconst (v := (-1)) hx hb dX11_image_10 (by decide) ?_
    refine th_call (th_runV (As := [.int (-1)]) (rest := []) hC mf_X11_answer km_X11_117 im_X11_answer se_X11_answer (c_X11_answer l G Γ H0 hB.1 hR hU a0 h0 (-1)) rfl rfl ⟨Nat.le_of_ble_eq_true rfl, Nat.le_of_ble_eq_true rfl⟩ hB.1 h0 ro_42 rfl rfl hl.1 rfl (Nat.le_of_ble_eq_true rfl) dX11_image_11 ⟨Nat.le_refl _, Nat.le_refl _⟩) hB.2.1 (fun v11 H11 locs hp hz hS => ?_)
    obtain ⟨x1, rfl, q11_0, hI1, hf, hR, z11_0⟩ := hp
    have hB := th_B_c hB hI1 hS hf (by decide)
    have w11_0 := tk_m1
    have zf11 := z11_0
    rw [tk_m1] at zf11
    replace hF := hF.trans (dv_bn2 (zf11))
    refine W.eq (g2 := F0 m 14 ls [.int x1]) rfl ?_
    exact th_iret hC hH hr hlocks rfl hB.2.1 ⟨_, rfl, by intros; omega, by intros; omega, hB.1, hB.2.2, hR, (hF0.symm.trans hF)⟩ dX11_image_14
  refine tr_if_lt (tgt := 9) hx hb dX11_image_1 (by decide) (Eq.refl _) (fun c1 => ?_) (fun c1 => ?_)
  · replace hF := hF.trans (if_pos c1)
    exact jn9 [] ls hB (lv_sub hl [0] rfl) hF (by omega)
  · replace hF := hF.trans (if_neg (Int.not_lt.mpr c1))
    refine lv_iload_n hx hb dX11_image_4 rfl (lv_at hl 1 rfl) ?_
    refine lv_iconst (v := 2) hx hb dX11_image_5 (by decide) ?_
    refine tr_icmp_lt (tgt := 15) hx hb dX11_image_6 (by decide) (Eq.refl _) tk_2 (fun c6 => ?_) (fun c6 => ?_)
    · replace hF := hF.trans (if_pos c6)
      refine lv_aload_n hx hb dX11_image_15 rfl (lv_at hl 0 rfl) ?_
      refine th_getO (j := 1) (r2 := 43) hC cf_X11 hB.1 h0 ro_42 rfl rfl kf_X11_16 dX11_image_16 (fun b2 mb2 hb2 => ?_)
      refine lv_iload_n hx hb dX11_image_19 rfl (lv_at hl 1 rfl) ?_
      refine th_aaldF (r2 := 32) hC hB.1 hb2 ro_43 rfl (Eq.refl _) (by omega) (by omega) rfl dX11_image_20 (fun b3 mb3 hb3 => ?_)
      replace hF := hF.trans (dv_bn (dv_aldR hB.1 hU hb2 ow_43 (z := p1.toInt) mb3 (by omega)))
      refine lv_aload_n hx hb dX11_image_21 rfl (lv_at hl 0 rfl) ?_
      refine th_getR (j := 0) (r2 := 32) hC cf_X11 hB.1 h0 ro_42 rfl rfl kf_X11_12 dX11_image_22 (fun b4 mb4 hb4 => ?_)
      replace hF := hF.trans (dv_bn (dv_getR h0 ro_42 (j := 0) rfl mb4 (by decide)))
      refine th_call (th_runV (As := [.ref b4]) (rest := []) hC mf_X8_copyFrom km_X11_342 im_X8_copyFrom se_X8_copyFrom (c_X8_copyFrom l G Γ H0 hB.1 hR hU b3 hb3 b4 hb4) rfl rfl ⟨Nat.le_of_ble_eq_true rfl, Nat.le_of_ble_eq_true rfl⟩ hB.1 hb3 ro_32 rfl rfl hl.1 rfl (Nat.le_of_ble_eq_true rfl) dX11_image_25 ⟨Nat.le_refl _, Nat.le_refl _⟩) hB.2.1 (fun v25 H25 locs hp hz hS => ?_)
      obtain ⟨rfl, hI1, hf, hR, z25_0⟩ := hp
      have hB := th_B_c hB hI1 hS hf (by decide)
      replace hF := hF.trans (dv_bn2 (z25_0))
      refine W.eq (g2 := F0 m 28 ls []) rfl ?_
      refine lv_aload_n hx hb dX11_image_28 rfl (lv_at hl 0 rfl) ?_
      refine th_getO (j := 2) (r2 := 44) hC cf_X11 hB.1 h0 ro_42 rfl rfl kf_X11_20 dX11_image_29 (fun b5 mb5 hb5 => ?_)
      refine lv_iload_n hx hb dX11_image_32 rfl (lv_at hl 1 rfl) ?_
      refine lv_iconst (v := 1) hx hb dX11_image_33 (by decide) ?_
      have hIo := hB.1
      refine th_zastF hC hB hb5 (Or.inl hb5) ro_44 rfl (by decide) (Eq.refl _) (by omega) (by omega) (th_sI (by decide) (by decide)) narrow_b1 dX11_image_34 (fun H34 locs hB hf34 hst34 => ?_)
      have hf := hf34
      have hR := th_RC_F hB.1 hR hf (th_T_s hb5 ro_44 hst34) (by decide)
      replace hF := hF.trans (dv_bn (dv_stoI hIo hB.1 hU hb5 ow_44 (i := p1.toInt) hst34 tk_1 (by omega)))
      refine lv_aload_n hx hb dX11_image_35 rfl (lv_at hl 0 rfl) ?_
      refine lv_iconst (v := 0) hx hb dX11_image_36 (by decide) ?_
      refine th_call (th_runV (As := [.int 0]) (rest := []) hC mf_X11_answer km_X11_117 im_X11_answer se_X11_answer (c_X11_answer l G Γ H34 hB.1 hR hU a0 h0 0) rfl rfl ⟨Nat.le_of_ble_eq_true rfl, Nat.le_of_ble_eq_true rfl⟩ hB.1 h0 ro_42 rfl rfl hl.1 rfl (Nat.le_of_ble_eq_true rfl) dX11_image_37 ⟨Nat.le_refl _, Nat.le_refl _⟩) hB.2.1 (fun v37 H37 locs hp hz hS => ?_)
      obtain ⟨x6, rfl, q37_0, hI1, hf, hR, z37_0⟩ := hp
      have hB := th_B_c hB hI1 hS hf (by decide)
      have w37_0 := tk_0
      have zf37 := z37_0
      rw [tk_0] at zf37
      replace hF := hF.trans (dv_bn2 (zf37))
      refine W.eq (g2 := F0 m 40 ls [.int x6]) rfl ?_
      exact th_iret hC hH hr hlocks rfl hB.2.1 ⟨_, rfl, by intros; omega, by intros; omega, hB.1, hB.2.2, hR, (hF0.symm.trans hF)⟩ dX11_image_40
    · replace hF := hF.trans (if_neg (Int.not_lt.mpr c6))
      exact jn9 [] ls hB (lv_sub hl [0] rfl) hF (by omega)

set_option maxHeartbeats 4000000 in
set_option maxRecDepth 100000 in
theorem c_X11_back (l : Launch) (G : th_G) (Γ : th_Ga) (H0 : Heap) (hI : th_I G Γ H0) (hR : th_RC G Γ H0) (hU : dv_U Γ) (a0 : Nat) (h0 : Γ a0 = (42, 0)) (p1 : Int32) : Met l yX11_back (.code yX11_back cX11_back 2 (some FieldType.int) :: th_tb) ({ frames := 3, cells := 0, slots := 0, locals := 83 } : Room) (th_P [.ref a0, .int p1] G H0) (th_Q (fun (v : Option Value) (H1 : Heap) => ∃ r : Int32, v = some (.int r) ∧ th_I G Γ H1 ∧ th_F G Γ [(45, 0), (42, 14), (4, 0), (5, 0), (6, 0), (9, 0), (3, 7), (3, 8), (3, 9), (3, 10), (7, 0), (8, 0), (40, 0), (41, 0), (39, 2), (39, 3), (34, 0), (35, 0), (36, 0), (32, 5), (32, 6), (32, 7), (17, 4)] H0 H1 ∧ th_RC G Γ H1 ∧ (f_X11_back (dv G Γ H0) (a0 : Int) p1.toInt = (dv G Γ H1, r.toInt))) G) 0 0 (fun q => G.2.2 ≤ q) := by
  refine th_met RX11 (by decide) rfl (Nat.le_of_ble_eq_true rfl) ?_
  intro p e s m below meth c hC hH hr hlocks hnm ls hl
  have hx := hC.1
  have hb := hC.2.1
  have hB : th_B G Γ Γ [(45, 0), (42, 14), (4, 0), (5, 0), (6, 0), (9, 0), (3, 7), (3, 8), (3, 9), (3, 10), (7, 0), (8, 0), (40, 0), (41, 0), (39, 2), (39, 3), (34, 0), (35, 0), (36, 0), (32, 5), (32, 6), (32, 7), (17, 4)] H0 H0 [] := ⟨hI, va_S.rf, th_F_rf⟩
  have hl : lv_has ls 2 [(0, .ref a0), (1, .int p1)] := hl
  have lp1 := ti_lo p1; have up1 := ti_hi p1
  obtain ⟨F, hF0⟩ : ∃ F, F = f_X11_back (dv G Γ H0) ((a0 : Int)) (p1.toInt) := ⟨_, rfl⟩
  have hF := hF0.trans (f_X11_back.eq_1 (dv G Γ H0) ((a0 : Int)) (p1.toInt))
  refine lv_iload_n hx hb dX11_back_0 rfl (lv_at hl 1 rfl) ?_
  have jn9 : ∀ (locs : List Loc) (ls : Array Slot) , th_B G Γ Γ [(45, 0), (42, 14), (4, 0), (5, 0), (6, 0), (9, 0), (3, 7), (3, 8), (3, 9), (3, 10), (7, 0), (8, 0), (40, 0), (41, 0), (39, 2), (39, 3), (34, 0), (35, 0), (36, 0), (32, 5), (32, 6), (32, 7), (17, 4)] H0 H0 locs → lv_has ls 2 [(0, .ref a0)] → F = f_X11_back_9 (dv G Γ H0) ((a0 : Int)) → W p l e ({ frames := 3, cells := 0, slots := 0, locals := 83 } : Room) s m ([.ref a0, .int p1] : List Value).toArray below meth c H0 locs 0 0 (MQ below (th_Q (fun (v : Option Value) (H1 : Heap) => ∃ r : Int32, v = some (.int r) ∧ th_I G Γ H1 ∧ th_F G Γ [(45, 0), (42, 14), (4, 0), (5, 0), (6, 0), (9, 0), (3, 7), (3, 8), (3, 9), (3, 10), (7, 0), (8, 0), (40, 0), (41, 0), (39, 2), (39, 3), (34, 0), (35, 0), (36, 0), (32, 5), (32, 6), (32, 7), (17, 4)] H0 H1 ∧ th_RC G Γ H1 ∧ (f_X11_back (dv G Γ H0) (a0 : Int) p1.toInt = (dv G Γ H1, r.toInt))) G) ([.ref a0, .int p1] : List Value).toArray s 0 0 (fun q => G.2.2 ≤ q)) (F0 m 9 ls []) := by
    intro locs ls hB hl hF
    replace hF := hF.trans (f_X11_back_9.eq_1 (dv G Γ H0) ((a0 : Int)))
    refine lv_aload_n hx hb dX11_back_9 rfl (lv_at hl 0 rfl) ?_
    refine lv_iconst (v := (-1)) hx hb dX11_back_10 (by decide) ?_
    refine th_call (th_runV (As := [.int (-1)]) (rest := []) hC mf_X11_answer km_X11_117 im_X11_answer se_X11_answer (c_X11_answer l G Γ H0 hB.1 hR hU a0 h0 (-1)) rfl rfl ⟨Nat.le_of_ble_eq_true rfl, Nat.le_of_ble_eq_true rfl⟩ hB.1 h0 ro_42 rfl rfl hl.1 rfl (Nat.le_of_ble_eq_true rfl) dX11_back_11 ⟨Nat.le_refl _, Nat.le_refl _⟩) hB.2.1 (fun v11 H11 locs hp hz hS => ?_)
    obtain ⟨x1, rfl, q11_0, hI1, hf, hR, z11_0⟩ := hp
    have hB := th_B_c hB hI1 hS hf (by decide)
    have w11_0 := tk_m1
    have zf11 := z11_0
    rw [tk_m1] at zf11
    replace hF := hF.trans (dv_bn2 (zf11))
    refine W.eq (g2 := F0 m 14 ls [.int x1]) rfl ?_
    exact th_iret hC hH hr hlocks rfl hB.2.1 ⟨_, rfl, hB.1, hB.2.2, hR, (hF0.symm.trans hF)⟩ dX11_back_14
  refine tr_if_lt (tgt := 9) hx hb dX11_back_1 (by decide) (Eq.refl _) (fun c1 => ?_) (fun c1 => ?_)
  · replace hF := hF.trans (if_pos c1)
    exact jn9 [] ls hB (lv_sub hl [0] rfl) hF
  · replace hF := hF.trans (if_neg (Int.not_lt.mpr c1))
    refine lv_iload_n hx hb dX11_back_4 rfl (lv_at hl 1 rfl) ?_
    refine lv_iconst (v := 2) hx hb dX11_back_5 (by decide) ?_
    refine tr_icmp_lt (tgt := 15) hx hb dX11_back_6 (by decide) (Eq.refl _) tk_2 (fun c6 => ?_) (fun c6 => ?_)
    · replace hF := hF.trans (if_pos c6)
      refine lv_aload_n hx hb dX11_back_15 rfl (lv_at hl 0 rfl) ?_
      refine th_getO (j := 2) (r2 := 44) hC cf_X11 hB.1 h0 ro_42 rfl rfl kf_X11_20 dX11_back_16 (fun b2 mb2 hb2 => ?_)
      refine lv_iload_n hx hb dX11_back_19 rfl (lv_at hl 1 rfl) ?_
      refine th_zaldF hC hB.1 hb2 ro_44 rfl (Eq.refl _) (by omega) (by omega) rfl dX11_back_20 (fun x3 mx3 lx3 ux3 => ?_)
      replace hF := hF.trans (dv_bn (dv_aldI hB.1 hU hb2 ow_44 (z := p1.toInt) mx3 (by omega)))
      refine tr_if_ne (tgt := 31) hx hb dX11_back_21 (by decide) (Eq.refl _) (fun c21 => ?_) (fun c21 => ?_)
      · replace hF := hF.trans (if_pos c21)
        refine lv_aload_n hx hb dX11_back_31 rfl (lv_at hl 0 rfl) ?_
        refine th_getR (j := 0) (r2 := 32) hC cf_X11 hB.1 h0 ro_42 rfl rfl kf_X11_12 dX11_back_32 (fun b4 mb4 hb4 => ?_)
        replace hF := hF.trans (dv_bn (dv_getR h0 ro_42 (j := 0) rfl mb4 (by decide)))
        refine lv_aload_n hx hb dX11_back_35 rfl (lv_at hl 0 rfl) ?_
        refine th_getO (j := 1) (r2 := 43) hC cf_X11 hB.1 h0 ro_42 rfl rfl kf_X11_16 dX11_back_36 (fun b5 mb5 hb5 => ?_)
        refine lv_iload_n hx hb dX11_back_39 rfl (lv_at hl 1 rfl) ?_
        refine th_aaldF (r2 := 32) hC hB.1 hb5 ro_43 rfl (Eq.refl _) (by omega) (by omega) rfl dX11_back_40 (fun b6 mb6 hb6 => ?_)
        replace hF := hF.trans (dv_bn (dv_aldR hB.1 hU hb5 ow_43 (z := p1.toInt) mb6 (by omega)))
        refine th_call (th_runV (As := [.ref b6]) (rest := []) hC mf_X8_copyFrom km_X11_342 im_X8_copyFrom se_X8_copyFrom (c_X8_copyFrom l G Γ H0 hB.1 hR hU b4 hb4 b6 hb6) rfl rfl ⟨Nat.le_of_ble_eq_true rfl, Nat.le_of_ble_eq_true rfl⟩ hB.1 hb4 ro_32 rfl rfl hl.1 rfl (Nat.le_of_ble_eq_true rfl) dX11_back_41 ⟨Nat.le_refl _, Nat.le_refl _⟩) hB.2.1 (fun v41 H41 locs hp hz hS => ?_)
        obtain ⟨rfl, hI1, hf, hR, z41_0⟩ := hp
        have hB := th_B_c hB hI1 hS hf (by decide)
        replace hF := hF.trans (dv_bn2 (z41_0))
        refine W.eq (g2 := F0 m 44 ls []) rfl ?_
        refine lv_aload_n hx hb dX11_back_44 rfl (lv_at hl 0 rfl) ?_
        refine th_getR (j := 10) (r2 := 17) hC cf_X11 hB.1 h0 ro_42 rfl rfl kf_X11_72 dX11_back_45 (fun b7 mb7 hb7 => ?_)
        replace hF := hF.trans (dv_bn (dv_getR h0 ro_42 (j := 10) rfl mb7 (by decide)))
        refine th_call (th_runV (As := []) (rest := []) hC mf_X4_clear km_X11_114 im_X4_clear se_X4_clear (c_X4_clear l G Γ H41 hB.1 hR hU b7 hb7) rfl rfl ⟨Nat.le_of_ble_eq_true rfl, Nat.le_of_ble_eq_true rfl⟩ hB.1 hb7 ro_17 rfl rfl hl.1 rfl (Nat.le_of_ble_eq_true rfl) dX11_back_48 ⟨Nat.le_refl _, Nat.le_refl _⟩) hB.2.1 (fun v48 H48 locs hp hz hS => ?_)
        obtain ⟨rfl, hI1, hf, hR, z48_0⟩ := hp
        have hB := th_B_c hB hI1 hS hf (by decide)
        replace hF := hF.trans (dv_bn2 (z48_0))
        refine W.eq (g2 := F0 m 51 ls []) rfl ?_
        refine lv_aload_n hx hb dX11_back_51 rfl (lv_at hl 0 rfl) ?_
        refine lv_iconst (v := 0) hx hb dX11_back_52 (by decide) ?_
        refine th_call (th_runV (As := [.int 0]) (rest := []) hC mf_X11_answer km_X11_117 im_X11_answer se_X11_answer (c_X11_answer l G Γ H48 hB.1 hR hU a0 h0 0) rfl rfl ⟨Nat.le_of_ble_eq_true rfl, Nat.le_of_ble_eq_true rfl⟩ hB.1 h0 ro_42 rfl rfl hl.1 rfl (Nat.le_of_ble_eq_true rfl) dX11_back_53 ⟨Nat.le_refl _, Nat.le_refl _⟩) hB.2.1 (fun v53 H53 locs hp hz hS => ?_)
        obtain ⟨x8, rfl, q53_0, hI1, hf, hR, z53_0⟩ := hp
        have hB := th_B_c hB hI1 hS hf (by decide)
        have w53_0 := tk_0
        have zf53 := z53_0
        rw [tk_0] at zf53
        replace hF := hF.trans (dv_bn2 (zf53))
        refine W.eq (g2 := F0 m 56 ls [.int x8]) rfl ?_
        exact th_iret hC hH hr hlocks rfl hB.2.1 ⟨_, rfl, hB.1, hB.2.2, hR, (hF0.symm.trans hF)⟩ dX11_back_56
      · replace hF := hF.trans (if_neg (not_not_intro c21))
        refine lv_aload_n hx hb dX11_back_24 rfl (lv_at hl 0 rfl) ?_
        refine lv_bipush (v := (-2)) hx hb dX11_back_25 (by decide) ?_
        refine th_call (th_runV (As := [.int (-2)]) (rest := []) hC mf_X11_answer km_X11_117 im_X11_answer se_X11_answer (c_X11_answer l G Γ H0 hB.1 hR hU a0 h0 (-2)) rfl rfl ⟨Nat.le_of_ble_eq_true rfl, Nat.le_of_ble_eq_true rfl⟩ hB.1 h0 ro_42 rfl rfl hl.1 rfl (Nat.le_of_ble_eq_true rfl) dX11_back_27 ⟨Nat.le_refl _, Nat.le_refl _⟩) hB.2.1 (fun v27 H27 locs hp hz hS => ?_)
        obtain ⟨x9, rfl, q27_0, hI1, hf, hR, z27_0⟩ := hp
        have hB := th_B_c hB hI1 hS hf (by decide)
        have w27_0 := tk_m2
        have zf27 := z27_0
        rw [tk_m2] at zf27
        replace hF := hF.trans (dv_bn2 (zf27))
        refine W.eq (g2 := F0 m 30 ls [.int x9]) rfl ?_
        exact th_iret hC hH hr hlocks rfl hB.2.1 ⟨_, rfl, hB.1, hB.2.2, hR, (hF0.symm.trans hF)⟩ dX11_back_30
    · replace hF := hF.trans (if_neg (Int.not_lt.mpr c6))
      exact jn9 [] ls hB (lv_sub hl [0] rfl) hF

set_option maxHeartbeats 4000000 in
set_option maxRecDepth 100000 in
theorem c_X11_count (l : Launch) (G : th_G) (Γ : th_Ga) (H0 : Heap) (hI : th_I G Γ H0) (hU : dv_U Γ) (a0 : Nat) (h0 : Γ a0 = (42, 0)) (p1 : Int32) : Met l yX11_count (.code yX11_count cX11_count 3 (some FieldType.int) :: th_tb) ({ frames := 3, cells := 0, slots := 0, locals := 64 } : Room) (th_P [.ref a0, .int p1] G H0) (th_Q (fun (v : Option Value) (H1 : Heap) => ∃ r : Int32, v = some (.int r) ∧ (f_X11_count (dv G Γ H0) (a0 : Int) p1.toInt = (r.toInt, ())) ∧ H0 = H1) G) 0 0 (fun q => G.2.2 ≤ q) := by
  refine th_met RX11 (by decide) rfl (Nat.le_of_ble_eq_true rfl) ?_
  intro p e s m below meth c hC hH hr hlocks hnm ls hl
  have hx := hC.1
  have hb := hC.2.1
  have hB : th_B G Γ Γ [] H0 H0 [] := ⟨hI, va_S.rf, th_F_rf⟩
  have hl : lv_has ls 3 [(0, .ref a0), (1, .int p1)] := hl
  have lp1 := ti_lo p1; have up1 := ti_hi p1
  obtain ⟨F, hF0⟩ : ∃ F, F = f_X11_count (dv G Γ H0) ((a0 : Int)) (p1.toInt) := ⟨_, rfl⟩
  have hF := hF0.trans (f_X11_count.eq_1 (dv G Γ H0) ((a0 : Int)) (p1.toInt))
  refine lv_aload_n hx hb dX11_count_0 rfl (lv_at hl 0 rfl) ?_
  refine th_getR (j := 0) (r2 := 32) hC cf_X11 hB.1 h0 ro_42 rfl rfl kf_X11_12 dX11_count_1 (fun b1 mb1 hb1 => ?_)
  replace hF := hF.trans (dv_bn (dv_getR h0 ro_42 (j := 0) rfl mb1 (by decide)))
  refine th_getR (j := 0) (r2 := 3) hC cf_X8 hB.1 hb1 ro_32 rfl rfl kf_X11_107 dX11_count_4 (fun b2 mb2 hb2 => ?_)
  replace hF := hF.trans (dv_bn (dv_getR hb1 ro_32 (j := 0) rfl mb2 (by decide)))
  refine lv_astore_n (lv' := [(2, .ref b2), (0, .ref a0), (1, .int p1)]) hx hb dX11_count_7 rfl hl (by decide) rfl (fun ls hl => ?_)
  refine lv_iload_n hx hb dX11_count_8 rfl (lv_at hl 2 rfl) ?_
  by_cases k9_0 : p1.toInt = 0
  · replace hF := hF.trans (if_pos k9_0)
    refine lv_tableIn (off := 91) (tgt := 100) hx hb dX11_count_9 (by omega) (by omega) (by rw [show p1.toInt = 0 from k9_0]; decide) (by decide) ?_
    refine lv_aload_n hx hb dX11_count_100 rfl (lv_at hl 0 rfl) ?_
    refine th_getI (j := 7) hC cf_X1 hB.1 hb2 ro_3 rfl rfl kf_X11_298 dX11_count_101 (fun x3 mx3 lx3 ux3 => ?_)
    replace hF := hF.trans (dv_bn (dv_getI hb2 ro_3 (j := 7) rfl mx3 (by decide)))
    exact th_iret hC hH hr hlocks rfl hB.2.1 ⟨_, rfl, (hF0.symm.trans hF), rfl⟩ dX11_count_104
  replace hF := hF.trans (if_neg k9_0)
  by_cases k9_1 : p1.toInt = 1
  · replace hF := hF.trans (if_pos k9_1)
    refine lv_tableIn (off := 96) (tgt := 105) hx hb dX11_count_9 (by omega) (by omega) (by rw [show p1.toInt = 1 from k9_1]; decide) (by decide) ?_
    refine lv_aload_n hx hb dX11_count_105 rfl (lv_at hl 0 rfl) ?_
    refine th_call (th_runV (As := []) (rest := []) hC mf_X1_laidCarpets km_X11_151 im_X1_laidCarpets se_X1_laidCarpets (c_X1_laidCarpets l G Γ H0 hB.1 hU b2 hb2) rfl rfl ⟨Nat.le_of_ble_eq_true rfl, Nat.le_of_ble_eq_true rfl⟩ hB.1 hb2 ro_3 rfl rfl hl.1 rfl (Nat.le_of_ble_eq_true rfl) dX11_count_106 ⟨Nat.le_refl _, Nat.le_refl _⟩) hB.2.1 (fun v106 H106 locs hp hz hS => ?_)
    obtain ⟨x4, rfl, q106_0, rfl⟩ := hp
    have hB := th_B_s hB hS
    replace hF := hF.trans (dv_bn2 (q106_0))
    refine W.eq (g2 := F0 m 109 ls [.int x4]) rfl ?_
    exact th_iret hC hH hr hlocks rfl hB.2.1 ⟨_, rfl, (hF0.symm.trans hF), rfl⟩ dX11_count_109
  replace hF := hF.trans (if_neg k9_1)
  by_cases k9_2 : p1.toInt = 2
  · replace hF := hF.trans (if_pos k9_2)
    refine lv_tableIn (off := 101) (tgt := 110) hx hb dX11_count_9 (by omega) (by omega) (by rw [show p1.toInt = 2 from k9_2]; decide) (by decide) ?_
    refine lv_aload_n hx hb dX11_count_110 rfl (lv_at hl 0 rfl) ?_
    refine th_call (th_runV (As := []) (rest := []) hC mf_X1_rags km_X11_345 im_X1_rags se_X1_rags (c_X1_rags l G Γ H0 hB.1 hU b2 hb2) rfl rfl ⟨Nat.le_of_ble_eq_true rfl, Nat.le_of_ble_eq_true rfl⟩ hB.1 hb2 ro_3 rfl rfl hl.1 rfl (Nat.le_of_ble_eq_true rfl) dX11_count_111 ⟨Nat.le_refl _, Nat.le_refl _⟩) hB.2.1 (fun v111 H111 locs hp hz hS => ?_)
    obtain ⟨x5, rfl, q111_0, rfl⟩ := hp
    have hB := th_B_s hB hS
    replace hF := hF.trans (dv_bn2 (q111_0))
    refine W.eq (g2 := F0 m 114 ls [.int x5]) rfl ?_
    exact th_iret hC hH hr hlocks rfl hB.2.1 ⟨_, rfl, (hF0.symm.trans hF), rfl⟩ dX11_count_114
  replace hF := hF.trans (if_neg k9_2)
  by_cases k9_3 : p1.toInt = 3
  · replace hF := hF.trans (if_pos k9_3)
    refine lv_tableIn (off := 106) (tgt := 115) hx hb dX11_count_9 (by omega) (by omega) (by rw [show p1.toInt = 3 from k9_3]; decide) (by decide) ?_
    refine lv_aload_n hx hb dX11_count_115 rfl (lv_at hl 0 rfl) ?_
    refine th_getI (j := 10) hC cf_X1 hB.1 hb2 ro_3 rfl rfl kf_X11_348 dX11_count_116 (fun x6 mx6 lx6 ux6 => ?_)
    replace hF := hF.trans (dv_bn (dv_getI hb2 ro_3 (j := 10) rfl mx6 (by decide)))
    exact th_iret hC hH hr hlocks rfl hB.2.1 ⟨_, rfl, (hF0.symm.trans hF), rfl⟩ dX11_count_119
  replace hF := hF.trans (if_neg k9_3)
  by_cases k9_4 : p1.toInt = 4
  · replace hF := hF.trans (if_pos k9_4)
    refine lv_tableIn (off := 111) (tgt := 120) hx hb dX11_count_9 (by omega) (by omega) (by rw [show p1.toInt = 4 from k9_4]; decide) (by decide) ?_
    refine lv_aload_n hx hb dX11_count_120 rfl (lv_at hl 1 rfl) ?_
    refine th_getK hC cf_X11 hB.1 h0 ro_42 rfl (j := 0) (by decide) mb1 kf_X11_12 dX11_count_121 ?_
    replace hF := hF.trans (dv_bn (dv_getR h0 ro_42 (j := 0) rfl mb1 (by decide)))
    refine th_getI (j := 7) hC cf_X8 hB.1 hb1 ro_32 rfl rfl kf_X11_307 dX11_count_124 (fun x7 mx7 lx7 ux7 => ?_)
    replace hF := hF.trans (dv_bn (dv_getI hb1 ro_32 (j := 7) rfl mx7 (by decide)))
    exact th_iret hC hH hr hlocks rfl hB.2.1 ⟨_, rfl, (hF0.symm.trans hF), rfl⟩ dX11_count_127
  replace hF := hF.trans (if_neg k9_4)
  by_cases k9_5 : p1.toInt = 5
  · replace hF := hF.trans (if_pos k9_5)
    refine lv_tableIn (off := 119) (tgt := 128) hx hb dX11_count_9 (by omega) (by omega) (by rw [show p1.toInt = 5 from k9_5]; decide) (by decide) ?_
    refine lv_aload_n hx hb dX11_count_128 rfl (lv_at hl 1 rfl) ?_
    refine th_getK hC cf_X11 hB.1 h0 ro_42 rfl (j := 0) (by decide) mb1 kf_X11_12 dX11_count_129 ?_
    replace hF := hF.trans (dv_bn (dv_getR h0 ro_42 (j := 0) rfl mb1 (by decide)))
    refine th_getI (j := 5) hC cf_X8 hB.1 hb1 ro_32 rfl rfl kf_X11_196 dX11_count_132 (fun x8 mx8 lx8 ux8 => ?_)
    replace hF := hF.trans (dv_bn (dv_getI hb1 ro_32 (j := 5) rfl mx8 (by decide)))
    exact th_iret hC hH hr hlocks rfl hB.2.1 ⟨_, rfl, (hF0.symm.trans hF), rfl⟩ dX11_count_135
  replace hF := hF.trans (if_neg k9_5)
  by_cases k9_6 : p1.toInt = 6
  · replace hF := hF.trans (if_pos k9_6)
    refine lv_tableIn (off := 127) (tgt := 136) hx hb dX11_count_9 (by omega) (by omega) (by rw [show p1.toInt = 6 from k9_6]; decide) (by decide) ?_
    refine lv_aload_n hx hb dX11_count_136 rfl (lv_at hl 1 rfl) ?_
    refine th_getR (j := 10) (r2 := 17) hC cf_X11 hB.1 h0 ro_42 rfl rfl kf_X11_72 dX11_count_137 (fun b9 mb9 hb9 => ?_)
    replace hF := hF.trans (dv_bn (dv_getR h0 ro_42 (j := 10) rfl mb9 (by decide)))
    refine th_getI (j := 4) hC cf_X4 hB.1 hb9 ro_17 rfl rfl kf_X11_351 dX11_count_140 (fun x10 mx10 lx10 ux10 => ?_)
    replace hF := hF.trans (dv_bn (dv_getI hb9 ro_17 (j := 4) rfl mx10 (by decide)))
    exact th_iret hC hH hr hlocks rfl hB.2.1 ⟨_, rfl, (hF0.symm.trans hF), rfl⟩ dX11_count_143
  replace hF := hF.trans (if_neg k9_6)
  by_cases k9_7 : p1.toInt = 7
  · replace hF := hF.trans (if_pos k9_7)
    refine lv_tableIn (off := 135) (tgt := 144) hx hb dX11_count_9 (by omega) (by omega) (by rw [show p1.toInt = 7 from k9_7]; decide) (by decide) ?_
    refine lv_aload_n hx hb dX11_count_144 rfl (lv_at hl 1 rfl) ?_
    refine th_getR (j := 5) (r2 := 37) hC cf_X11 hB.1 h0 ro_42 rfl rfl kf_X11_37 dX11_count_145 (fun b11 mb11 hb11 => ?_)
    replace hF := hF.trans (dv_bn (dv_getR h0 ro_42 (j := 5) rfl mb11 (by decide)))
    refine th_getI (j := 1) hC cf_X9 hB.1 hb11 ro_37 rfl rfl kf_X11_186 dX11_count_148 (fun x12 mx12 lx12 ux12 => ?_)
    replace hF := hF.trans (dv_bn (dv_getI hb11 ro_37 (j := 1) rfl mx12 (by decide)))
    exact th_iret hC hH hr hlocks rfl hB.2.1 ⟨_, rfl, (hF0.symm.trans hF), rfl⟩ dX11_count_151
  replace hF := hF.trans (if_neg k9_7)
  by_cases k9_8 : p1.toInt = 8
  · replace hF := hF.trans (if_pos k9_8)
    refine lv_tableIn (off := 143) (tgt := 152) hx hb dX11_count_9 (by omega) (by omega) (by rw [show p1.toInt = 8 from k9_8]; decide) (by decide) ?_
    refine lv_aload_n hx hb dX11_count_152 rfl (lv_at hl 1 rfl) ?_
    refine th_getO (j := 13) (r2 := 45) hC cf_X11 hB.1 h0 ro_42 rfl rfl kf_X11_90 dX11_count_153 (fun b13 mb13 hb13 => ?_)
    refine lv_iload_n hx hb dX11_count_156 rfl (lv_at hl 2 rfl) ?_
    refine lv_bipush (v := 8) hx hb dX11_count_157 (by decide) ?_
    refine tr_isub hx hb dX11_count_159 (Eq.refl _) tk_8 (by omega) (by omega) (fun x14 ex14 => ?_)
    replace hF := hF.trans (dv_bn (ex14.symm))
    refine th_ialdF hC hB.1 hb13 ro_45 rfl (Eq.refl _) (by omega) (by omega) rfl dX11_count_160 (fun x15 mx15 lx15 ux15 => ?_)
    replace hF := hF.trans (dv_bn (dv_aldI hB.1 hU hb13 ow_45 (z := x14.toInt) mx15 (by omega)))
    exact th_iret hC hH hr hlocks rfl hB.2.1 ⟨_, rfl, (hF0.symm.trans hF), rfl⟩ dX11_count_161
  replace hF := hF.trans (if_neg k9_8)
  by_cases k9_9 : p1.toInt = 9
  · replace hF := hF.trans (if_pos k9_9)
    refine lv_tableIn (off := 143) (tgt := 152) hx hb dX11_count_9 (by omega) (by omega) (by rw [show p1.toInt = 9 from k9_9]; decide) (by decide) ?_
    refine lv_aload_n hx hb dX11_count_152 rfl (lv_at hl 1 rfl) ?_
    refine th_getO (j := 13) (r2 := 45) hC cf_X11 hB.1 h0 ro_42 rfl rfl kf_X11_90 dX11_count_153 (fun b16 mb16 hb16 => ?_)
    refine lv_iload_n hx hb dX11_count_156 rfl (lv_at hl 2 rfl) ?_
    refine lv_bipush (v := 8) hx hb dX11_count_157 (by decide) ?_
    refine tr_isub hx hb dX11_count_159 (Eq.refl _) tk_8 (by omega) (by omega) (fun x17 ex17 => ?_)
    replace hF := hF.trans (dv_bn (ex17.symm))
    refine th_ialdF hC hB.1 hb16 ro_45 rfl (Eq.refl _) (by omega) (by omega) rfl dX11_count_160 (fun x18 mx18 lx18 ux18 => ?_)
    replace hF := hF.trans (dv_bn (dv_aldI hB.1 hU hb16 ow_45 (z := x17.toInt) mx18 (by omega)))
    exact th_iret hC hH hr hlocks rfl hB.2.1 ⟨_, rfl, (hF0.symm.trans hF), rfl⟩ dX11_count_161
  replace hF := hF.trans (if_neg k9_9)
  by_cases k9_10 : p1.toInt = 10
  · replace hF := hF.trans (if_pos k9_10)
    refine lv_tableIn (off := 143) (tgt := 152) hx hb dX11_count_9 (by omega) (by omega) (by rw [show p1.toInt = 10 from k9_10]; decide) (by decide) ?_
    refine lv_aload_n hx hb dX11_count_152 rfl (lv_at hl 1 rfl) ?_
    refine th_getO (j := 13) (r2 := 45) hC cf_X11 hB.1 h0 ro_42 rfl rfl kf_X11_90 dX11_count_153 (fun b19 mb19 hb19 => ?_)
    refine lv_iload_n hx hb dX11_count_156 rfl (lv_at hl 2 rfl) ?_
    refine lv_bipush (v := 8) hx hb dX11_count_157 (by decide) ?_
    refine tr_isub hx hb dX11_count_159 (Eq.refl _) tk_8 (by omega) (by omega) (fun x20 ex20 => ?_)
    replace hF := hF.trans (dv_bn (ex20.symm))
    refine th_ialdF hC hB.1 hb19 ro_45 rfl (Eq.refl _) (by omega) (by omega) rfl dX11_count_160 (fun x21 mx21 lx21 ux21 => ?_)
    replace hF := hF.trans (dv_bn (dv_aldI hB.1 hU hb19 ow_45 (z := x20.toInt) mx21 (by omega)))
    exact th_iret hC hH hr hlocks rfl hB.2.1 ⟨_, rfl, (hF0.symm.trans hF), rfl⟩ dX11_count_161
  replace hF := hF.trans (if_neg k9_10)
  by_cases k9_11 : p1.toInt = 11
  · replace hF := hF.trans (if_pos k9_11)
    refine lv_tableIn (off := 143) (tgt := 152) hx hb dX11_count_9 (by omega) (by omega) (by rw [show p1.toInt = 11 from k9_11]; decide) (by decide) ?_
    refine lv_aload_n hx hb dX11_count_152 rfl (lv_at hl 1 rfl) ?_
    refine th_getO (j := 13) (r2 := 45) hC cf_X11 hB.1 h0 ro_42 rfl rfl kf_X11_90 dX11_count_153 (fun b22 mb22 hb22 => ?_)
    refine lv_iload_n hx hb dX11_count_156 rfl (lv_at hl 2 rfl) ?_
    refine lv_bipush (v := 8) hx hb dX11_count_157 (by decide) ?_
    refine tr_isub hx hb dX11_count_159 (Eq.refl _) tk_8 (by omega) (by omega) (fun x23 ex23 => ?_)
    replace hF := hF.trans (dv_bn (ex23.symm))
    refine th_ialdF hC hB.1 hb22 ro_45 rfl (Eq.refl _) (by omega) (by omega) rfl dX11_count_160 (fun x24 mx24 lx24 ux24 => ?_)
    replace hF := hF.trans (dv_bn (dv_aldI hB.1 hU hb22 ow_45 (z := x23.toInt) mx24 (by omega)))
    exact th_iret hC hH hr hlocks rfl hB.2.1 ⟨_, rfl, (hF0.symm.trans hF), rfl⟩ dX11_count_161
  replace hF := hF.trans (if_neg k9_11)
  by_cases k9_12 : p1.toInt = 12
  · replace hF := hF.trans (if_pos k9_12)
    refine lv_tableIn (off := 143) (tgt := 152) hx hb dX11_count_9 (by omega) (by omega) (by rw [show p1.toInt = 12 from k9_12]; decide) (by decide) ?_
    refine lv_aload_n hx hb dX11_count_152 rfl (lv_at hl 1 rfl) ?_
    refine th_getO (j := 13) (r2 := 45) hC cf_X11 hB.1 h0 ro_42 rfl rfl kf_X11_90 dX11_count_153 (fun b25 mb25 hb25 => ?_)
    refine lv_iload_n hx hb dX11_count_156 rfl (lv_at hl 2 rfl) ?_
    refine lv_bipush (v := 8) hx hb dX11_count_157 (by decide) ?_
    refine tr_isub hx hb dX11_count_159 (Eq.refl _) tk_8 (by omega) (by omega) (fun x26 ex26 => ?_)
    replace hF := hF.trans (dv_bn (ex26.symm))
    refine th_ialdF hC hB.1 hb25 ro_45 rfl (Eq.refl _) (by omega) (by omega) rfl dX11_count_160 (fun x27 mx27 lx27 ux27 => ?_)
    replace hF := hF.trans (dv_bn (dv_aldI hB.1 hU hb25 ow_45 (z := x26.toInt) mx27 (by omega)))
    exact th_iret hC hH hr hlocks rfl hB.2.1 ⟨_, rfl, (hF0.symm.trans hF), rfl⟩ dX11_count_161
  replace hF := hF.trans (if_neg k9_12)
  by_cases k9_13 : p1.toInt = 13
  · replace hF := hF.trans (if_pos k9_13)
    refine lv_tableIn (off := 153) (tgt := 162) hx hb dX11_count_9 (by omega) (by omega) (by rw [show p1.toInt = 13 from k9_13]; decide) (by decide) ?_
    refine lv_aload_n hx hb dX11_count_162 rfl (lv_at hl 1 rfl) ?_
    refine th_getK hC cf_X11 hB.1 h0 ro_42 rfl (j := 0) (by decide) mb1 kf_X11_12 dX11_count_163 ?_
    replace hF := hF.trans (dv_bn (dv_getR h0 ro_42 (j := 0) rfl mb1 (by decide)))
    refine th_getI (j := 6) hC cf_X8 hB.1 hb1 ro_32 rfl rfl kf_X11_230 dX11_count_166 (fun x28 mx28 lx28 ux28 => ?_)
    replace hF := hF.trans (dv_bn (dv_getI hb1 ro_32 (j := 6) rfl mx28 (by decide)))
    exact th_iret hC hH hr hlocks rfl hB.2.1 ⟨_, rfl, (hF0.symm.trans hF), rfl⟩ dX11_count_169
  replace hF := hF.trans (if_neg k9_13)
  by_cases k9_14 : p1.toInt = 14
  · replace hF := hF.trans (if_pos k9_14)
    refine lv_tableIn (off := 161) (tgt := 170) hx hb dX11_count_9 (by omega) (by omega) (by rw [show p1.toInt = 14 from k9_14]; decide) (by decide) ?_
    refine lv_aload_n hx hb dX11_count_170 rfl (lv_at hl 0 rfl) ?_
    refine th_getO (j := 5) (r2 := 9) hC cf_X1 hB.1 hb2 ro_3 rfl rfl kf_X11_183 dX11_count_171 (fun b29 mb29 hb29 => ?_)
    refine lv_iload_n hx hb dX11_count_174 rfl (lv_at hl 2 rfl) ?_
    refine lv_bipush (v := 14) hx hb dX11_count_175 (by decide) ?_
    refine tr_isub hx hb dX11_count_177 (Eq.refl _) tk_14 (by omega) (by omega) (fun x30 ex30 => ?_)
    replace hF := hF.trans (dv_bn (ex30.symm))
    refine th_ialdF hC hB.1 hb29 ro_9 rfl (Eq.refl _) (by omega) (by omega) rfl dX11_count_178 (fun x31 mx31 lx31 ux31 => ?_)
    replace hF := hF.trans (dv_bn (dv_aldI hB.1 hU hb29 ow_9 (z := x30.toInt) mx31 (by omega)))
    exact th_iret hC hH hr hlocks rfl hB.2.1 ⟨_, rfl, (hF0.symm.trans hF), rfl⟩ dX11_count_179
  replace hF := hF.trans (if_neg k9_14)
  by_cases k9_15 : p1.toInt = 15
  · replace hF := hF.trans (if_pos k9_15)
    refine lv_tableIn (off := 161) (tgt := 170) hx hb dX11_count_9 (by omega) (by omega) (by rw [show p1.toInt = 15 from k9_15]; decide) (by decide) ?_
    refine lv_aload_n hx hb dX11_count_170 rfl (lv_at hl 0 rfl) ?_
    refine th_getO (j := 5) (r2 := 9) hC cf_X1 hB.1 hb2 ro_3 rfl rfl kf_X11_183 dX11_count_171 (fun b32 mb32 hb32 => ?_)
    refine lv_iload_n hx hb dX11_count_174 rfl (lv_at hl 2 rfl) ?_
    refine lv_bipush (v := 14) hx hb dX11_count_175 (by decide) ?_
    refine tr_isub hx hb dX11_count_177 (Eq.refl _) tk_14 (by omega) (by omega) (fun x33 ex33 => ?_)
    replace hF := hF.trans (dv_bn (ex33.symm))
    refine th_ialdF hC hB.1 hb32 ro_9 rfl (Eq.refl _) (by omega) (by omega) rfl dX11_count_178 (fun x34 mx34 lx34 ux34 => ?_)
    replace hF := hF.trans (dv_bn (dv_aldI hB.1 hU hb32 ow_9 (z := x33.toInt) mx34 (by omega)))
    exact th_iret hC hH hr hlocks rfl hB.2.1 ⟨_, rfl, (hF0.symm.trans hF), rfl⟩ dX11_count_179
  replace hF := hF.trans (if_neg k9_15)
  by_cases k9_16 : p1.toInt = 16
  · replace hF := hF.trans (if_pos k9_16)
    refine lv_tableIn (off := 161) (tgt := 170) hx hb dX11_count_9 (by omega) (by omega) (by rw [show p1.toInt = 16 from k9_16]; decide) (by decide) ?_
    refine lv_aload_n hx hb dX11_count_170 rfl (lv_at hl 0 rfl) ?_
    refine th_getO (j := 5) (r2 := 9) hC cf_X1 hB.1 hb2 ro_3 rfl rfl kf_X11_183 dX11_count_171 (fun b35 mb35 hb35 => ?_)
    refine lv_iload_n hx hb dX11_count_174 rfl (lv_at hl 2 rfl) ?_
    refine lv_bipush (v := 14) hx hb dX11_count_175 (by decide) ?_
    refine tr_isub hx hb dX11_count_177 (Eq.refl _) tk_14 (by omega) (by omega) (fun x36 ex36 => ?_)
    replace hF := hF.trans (dv_bn (ex36.symm))
    refine th_ialdF hC hB.1 hb35 ro_9 rfl (Eq.refl _) (by omega) (by omega) rfl dX11_count_178 (fun x37 mx37 lx37 ux37 => ?_)
    replace hF := hF.trans (dv_bn (dv_aldI hB.1 hU hb35 ow_9 (z := x36.toInt) mx37 (by omega)))
    exact th_iret hC hH hr hlocks rfl hB.2.1 ⟨_, rfl, (hF0.symm.trans hF), rfl⟩ dX11_count_179
  replace hF := hF.trans (if_neg k9_16)
  by_cases k9_17 : p1.toInt = 17
  · replace hF := hF.trans (if_pos k9_17)
    refine lv_tableIn (off := 171) (tgt := 180) hx hb dX11_count_9 (by omega) (by omega) (by rw [show p1.toInt = 17 from k9_17]; decide) (by decide) ?_
    refine lv_aload_n hx hb dX11_count_180 rfl (lv_at hl 0 rfl) ?_
    refine th_getI (j := 8) hC cf_X1 hB.1 hb2 ro_3 rfl rfl kf_X11_155 dX11_count_181 (fun x38 mx38 lx38 ux38 => ?_)
    replace hF := hF.trans (dv_bn (dv_getI hb2 ro_3 (j := 8) rfl mx38 (by decide)))
    exact th_iret hC hH hr hlocks rfl hB.2.1 ⟨_, rfl, (hF0.symm.trans hF), rfl⟩ dX11_count_184
  replace hF := hF.trans (if_neg k9_17)
  by_cases k9_18 : p1.toInt = 18
  · replace hF := hF.trans (if_pos k9_18)
    refine lv_tableIn (off := 176) (tgt := 185) hx hb dX11_count_9 (by omega) (by omega) (by rw [show p1.toInt = 18 from k9_18]; decide) (by decide) ?_
    refine lv_aload_n hx hb dX11_count_185 rfl (lv_at hl 0 rfl) ?_
    refine th_getI (j := 9) hC cf_X1 hB.1 hb2 ro_3 rfl rfl kf_X11_158 dX11_count_186 (fun x39 mx39 lx39 ux39 => ?_)
    replace hF := hF.trans (dv_bn (dv_getI hb2 ro_3 (j := 9) rfl mx39 (by decide)))
    exact th_iret hC hH hr hlocks rfl hB.2.1 ⟨_, rfl, (hF0.symm.trans hF), rfl⟩ dX11_count_189
  replace hF := hF.trans (if_neg k9_18)
  refine lv_tableOut (tgt := 190) hx hb dX11_count_9 (by omega) (by decide) ?_
  refine lv_iconst (v := (-1)) hx hb dX11_count_190 (by decide) ?_
  exact th_iret hC hH hr hlocks rfl hB.2.1 ⟨_, rfl, (hF0.symm.trans (hF.trans (by rw [tk_m1]))), rfl⟩ dX11_count_191

set_option maxHeartbeats 4000000 in
set_option maxRecDepth 100000 in
theorem c_X11_runOnce (l : Launch) (G : th_G) (Γ : th_Ga) (H0 : Heap) (hI : th_I G Γ H0) (hR : th_RC G Γ H0) (hU : dv_U Γ) (a0 : Nat) (h0 : Γ a0 = (42, 0)) (p1 : Int32) (f1 : 0 ≤ p1.toInt) (g1 : p1.toInt ≤ 11) : Met l yX11_runOnce (.code yX11_runOnce cX11_runOnce 3 (some FieldType.boolean) :: th_tb) ({ frames := 6, cells := 0, slots := 0, locals := 154 } : Room) (th_P [.ref a0, .int p1] G H0) (th_Q (fun (v : Option Value) (H1 : Heap) => ∃ r : Int32, v = some (.int r) ∧ 0 ≤ r.toInt ∧ r.toInt ≤ 1 ∧ th_I G Γ H1 ∧ th_F G Γ [(24, 0), (23, 3), (26, 0), (25, 0), (18, 0), (17, 4), (7, 0), (8, 0), (3, 10), (6, 0), (9, 0)] H0 H1 ∧ th_RC G Γ H1 ∧ (f_X11_runOnce (dv G Γ H0) (a0 : Int) p1.toInt = (dv G Γ H1, r.toInt))) G) 0 0 (fun q => G.2.2 ≤ q) := by
  refine th_met RX11 (by decide) rfl (Nat.le_of_ble_eq_true rfl) ?_
  intro p e s m below meth c hC hH hr hlocks hnm ls hl
  have hx := hC.1
  have hb := hC.2.1
  have hB : th_B G Γ Γ [(24, 0), (23, 3), (26, 0), (25, 0), (18, 0), (17, 4), (7, 0), (8, 0), (3, 10), (6, 0), (9, 0)] H0 H0 [] := ⟨hI, va_S.rf, th_F_rf⟩
  have hl : lv_has ls 3 [(0, .ref a0), (1, .int p1)] := hl
  have lp1 := ti_lo p1; have up1 := ti_hi p1
  obtain ⟨F, hF0⟩ : ∃ F, F = f_X11_runOnce (dv G Γ H0) ((a0 : Int)) (p1.toInt) := ⟨_, rfl⟩
  have hF := hF0.trans (f_X11_runOnce.eq_1 (dv G Γ H0) ((a0 : Int)) (p1.toInt))
  refine lv_aload_n hx hb dX11_runOnce_0 rfl (lv_at hl 0 rfl) ?_
  refine th_getR (j := 8) (r2 := 23) hC cf_X11 hB.1 h0 ro_42 rfl rfl kf_X11_58 dX11_runOnce_1 (fun b1 mb1 hb1 => ?_)
  replace hF := hF.trans (dv_bn (dv_getR h0 ro_42 (j := 8) rfl mb1 (by decide)))
  refine lv_aload_n hx hb dX11_runOnce_4 rfl (lv_at hl 0 rfl) ?_
  refine th_getR (j := 0) (r2 := 32) hC cf_X11 hB.1 h0 ro_42 rfl rfl kf_X11_12 dX11_runOnce_5 (fun b2 mb2 hb2 => ?_)
  replace hF := hF.trans (dv_bn (dv_getR h0 ro_42 (j := 0) rfl mb2 (by decide)))
  refine th_getR (j := 0) (r2 := 3) hC cf_X8 hB.1 hb2 ro_32 rfl rfl kf_X11_107 dX11_runOnce_8 (fun b3 mb3 hb3 => ?_)
  replace hF := hF.trans (dv_bn (dv_getR hb2 ro_32 (j := 0) rfl mb3 (by decide)))
  refine th_call (th_runV (As := [.ref b3]) (rest := []) hC mf_X6_setOrderWords km_X11_374 im_X6_setOrderWords se_X6_setOrderWords (c_X6_setOrderWords l G Γ H0 hB.1 hR hU b1 hb1 b3 hb3) rfl rfl ⟨Nat.le_of_ble_eq_true rfl, Nat.le_of_ble_eq_true rfl⟩ hB.1 hb1 ro_23 rfl rfl hl.1 rfl (Nat.le_of_ble_eq_true rfl) dX11_runOnce_11 ⟨Nat.le_refl _, Nat.le_refl _⟩) hB.2.1 (fun v11 H11 locs hp hz hS => ?_)
  obtain ⟨rfl, hI1, hf, hR, z11_0⟩ := hp
  have hB := th_B_c hB hI1 hS hf (by decide)
  have mm4 := (th_F_o hf h0 ro_42 (j := 8) (by decide) (by decide)).trans mb1
  replace hF := hF.trans (dv_bn2 (z11_0))
  refine W.eq (g2 := F0 m 14 ls []) rfl ?_
  refine lv_aload_n hx hb dX11_runOnce_14 rfl (lv_at hl 0 rfl) ?_
  refine th_getK hC cf_X11 hB.1 h0 ro_42 rfl (j := 8) (by decide) mm4 kf_X11_58 dX11_runOnce_15 ?_
  replace hF := hF.trans (dv_bn (dv_getR h0 ro_42 (j := 8) rfl mm4 (by decide)))
  refine lv_aload_n hx hb dX11_runOnce_18 rfl (lv_at hl 0 rfl) ?_
  refine th_getR (j := 7) (r2 := 39) hC cf_X11 hB.1 h0 ro_42 rfl rfl kf_X11_51 dX11_runOnce_19 (fun b5 mb5 hb5 => ?_)
  replace hF := hF.trans (dv_bn (dv_getR h0 ro_42 (j := 7) rfl mb5 (by decide)))
  have sb5 := (th_F_o hB.2.2 h0 ro_42 (j := 7) (by decide) (by decide)).symm.trans mb5
  refine lv_iload_n hx hb dX11_runOnce_22 rfl (lv_at hl 1 rfl) ?_
  refine th_call (th_runV (As := [.ref b5, .int p1]) (rest := []) hC mf_X6_isSo km_X11_377 im_X6_isSo se_X6_isSo (c_X6_isSo l G Γ H11 hB.1 hR hU b1 hb1 b5 hb5 p1 (by omega) (by omega)) rfl rfl ⟨Nat.le_of_ble_eq_true rfl, Nat.le_of_ble_eq_true rfl⟩ hB.1 hb1 ro_23 rfl rfl hl.1 rfl (Nat.le_of_ble_eq_true rfl) dX11_runOnce_23 ⟨Nat.le_refl _, Nat.le_refl _⟩) hB.2.1 (fun v23 H23 locs hp hz hS => ?_)
  obtain ⟨x6, rfl, lx6, ux6, hI1, hf, hR, z23_0⟩ := hp
  have hB := th_B_c hB hI1 hS hf (by decide)
  have mm7 := (th_F_o hf h0 ro_42 (j := 8) (by decide) (by decide)).trans mm4
  have mm8 := (th_F_o hf h0 ro_42 (j := 7) (by decide) (by decide)).trans mb5
  replace hF := hF.trans (dv_bn2 (z23_0))
  refine W.eq (g2 := F0 m 26 ls [.int x6]) rfl ?_
  refine tr_if_ne (tgt := 31) hx hb dX11_runOnce_26 (by decide) (Eq.refl _) (fun c26 => ?_) (fun c26 => ?_)
  · replace hF := hF.trans (if_pos c26)
    refine lv_aload_n hx hb dX11_runOnce_31 rfl (lv_at hl 0 rfl) ?_
    refine th_getK hC cf_X11 hB.1 h0 ro_42 rfl (j := 8) (by decide) mm7 kf_X11_58 dX11_runOnce_32 ?_
    replace hF := hF.trans (dv_bn (dv_getR h0 ro_42 (j := 8) rfl mm7 (by decide)))
    refine lv_aload_n hx hb dX11_runOnce_35 rfl (lv_at hl 0 rfl) ?_
    refine th_getK hC cf_X11 hB.1 h0 ro_42 rfl (j := 7) (by decide) mm8 kf_X11_51 dX11_runOnce_36 ?_
    replace hF := hF.trans (dv_bn (dv_getR h0 ro_42 (j := 7) rfl mm8 (by decide)))
    refine lv_iload_n hx hb dX11_runOnce_39 rfl (lv_at hl 1 rfl) ?_
    refine th_call (th_runV (As := [.ref b5, .int p1]) (rest := []) hC mf_X6_reckonSums km_X11_381 im_X6_reckonSums se_X6_reckonSums (c_X6_reckonSums l G Γ H23 hB.1 hR hU b1 hb1 b5 hb5 p1 (by omega) (by omega)) rfl rfl ⟨Nat.le_of_ble_eq_true rfl, Nat.le_of_ble_eq_true rfl⟩ hB.1 hb1 ro_23 rfl rfl hl.1 rfl (Nat.le_of_ble_eq_true rfl) dX11_runOnce_40 ⟨Nat.le_refl _, Nat.le_refl _⟩) hB.2.1 (fun v40 H40 locs hp hz hS => ?_)
    obtain ⟨x9, rfl, lx9, ux9, hI1, hf, hR, z40_0⟩ := hp
    have hB := th_B_c hB hI1 hS hf (by decide)
    have mm10 := (th_F_o hf h0 ro_42 (j := 8) (by decide) (by decide)).trans mm7
    have mm11 := (th_F_o hf h0 ro_42 (j := 7) (by decide) (by decide)).trans mm8
    replace hF := hF.trans (dv_bn2 (z40_0))
    refine W.eq (g2 := F0 m 43 ls [.int x9]) rfl ?_
    refine tr_if_ne (tgt := 48) hx hb dX11_runOnce_43 (by decide) (Eq.refl _) (fun c43 => ?_) (fun c43 => ?_)
    · replace hF := hF.trans (if_pos c43)
      refine lv_aload_n hx hb dX11_runOnce_48 rfl (lv_at hl 0 rfl) ?_
      refine th_getK hC cf_X11 hB.1 h0 ro_42 rfl (j := 7) (by decide) mm11 kf_X11_51 dX11_runOnce_49 ?_
      replace hF := hF.trans (dv_bn (dv_getR h0 ro_42 (j := 7) rfl mm11 (by decide)))
      refine lv_iload_n hx hb dX11_runOnce_52 rfl (lv_at hl 1 rfl) ?_
      refine lv_iconst (v := 0) hx hb dX11_runOnce_53 (by decide) ?_
      refine th_call (th_runV (As := [.int p1, .int 0]) (rest := []) hC mf_X10_mark km_X11_217 im_X10_mark se_X10_mark (c_X10_mark l G Γ H40 hB.1 hU b5 hb5 p1 (by omega) (by omega) 0 (by decide) (by decide)) rfl rfl ⟨Nat.le_of_ble_eq_true rfl, Nat.le_of_ble_eq_true rfl⟩ hB.1 hb5 ro_39 rfl rfl hl.1 rfl (Nat.le_of_ble_eq_true rfl) dX11_runOnce_54 ⟨Nat.le_refl _, Nat.le_refl _⟩) hB.2.1 (fun v54 H54 locs hp hz hS => ?_)
      obtain ⟨x12, rfl, q54_0, q54_1, rfl⟩ := hp
      have hB := th_B_s hB hS
      have w54_1 := tk_0
      have zf54 := q54_1
      rw [tk_0] at zf54
      replace hF := hF.trans (dv_bn2 (zf54))
      refine W.eq (g2 := F0 m 57 ls [.int x12]) rfl ?_
      have jn159 : ∀ (H159 : Heap) (locs : List Loc) (ls : Array Slot) (j159_2 : Int32), th_B G Γ Γ [(24, 0), (23, 3), (26, 0), (25, 0), (18, 0), (17, 4), (7, 0), (8, 0), (3, 10), (6, 0), (9, 0)] H0 H159 locs → th_RC G Γ H159 → lv_has ls 3 [(0, .ref a0), (2, .int j159_2)] → F = f_X11_runOnce_159 (dv G Γ H159) ((a0 : Int)) (j159_2.toInt) → W p l e ({ frames := 6, cells := 0, slots := 0, locals := 154 } : Room) s m ([.ref a0, .int p1] : List Value).toArray below meth c H159 locs 0 0 (MQ below (th_Q (fun (v : Option Value) (H1 : Heap) => ∃ r : Int32, v = some (.int r) ∧ 0 ≤ r.toInt ∧ r.toInt ≤ 1 ∧ th_I G Γ H1 ∧ th_F G Γ [(24, 0), (23, 3), (26, 0), (25, 0), (18, 0), (17, 4), (7, 0), (8, 0), (3, 10), (6, 0), (9, 0)] H0 H1 ∧ th_RC G Γ H1 ∧ (f_X11_runOnce (dv G Γ H0) (a0 : Int) p1.toInt = (dv G Γ H1, r.toInt))) G) ([.ref a0, .int p1] : List Value).toArray s 0 0 (fun q => G.2.2 ≤ q)) (F0 m 159 ls []) := by
        intro H159 locs ls j159_2 hB hR hl hF
        have lj159_2 := ti_lo j159_2; have uj159_2 := ti_hi j159_2
        have mm13 := (th_F_o hB.2.2 h0 ro_42 (j := 8) (by decide) (by decide)).trans mb1
        replace hF := hF.trans (f_X11_runOnce_159.eq_1 (dv G Γ H159) ((a0 : Int)) (j159_2.toInt))
        refine lv_aload_n hx hb dX11_runOnce_159 rfl (lv_at hl 0 rfl) ?_
        refine th_getK hC cf_X11 hB.1 h0 ro_42 rfl (j := 8) (by decide) mm13 kf_X11_58 dX11_runOnce_160 ?_
        replace hF := hF.trans (dv_bn (dv_getR h0 ro_42 (j := 8) rfl mm13 (by decide)))
        refine th_getO (j := 1) (r2 := 25) hC cf_X6 hB.1 hb1 ro_23 rfl rfl kf_X11_211 dX11_runOnce_163 (fun b14 mb14 hb14 => ?_)
        refine lv_iconst (v := 1) hx hb dX11_runOnce_166 (by decide) ?_
        refine lv_dup2_11 hx hb dX11_runOnce_167 rfl rfl ?_
        refine th_ialdF hC hB.1 hb14 ro_25 rfl tk_1 (by omega) (by omega) rfl dX11_runOnce_168 (fun x15 mx15 lx15 ux15 => ?_)
        replace hF := hF.trans (dv_bn (dv_aldI hB.1 hU hb14 ow_25 (z := 1) mx15 (by omega)))
        refine lv_iconst (v := 1) hx hb dX11_runOnce_169 (by decide) ?_
        refine lv_iadd hx hb dX11_runOnce_170 ?_
        refine lv_topi (fun x16 ex16 => ?_)
        have lx16 := ti_lo x16; have ux16 := ti_hi x16
        replace hF := hF.trans (dv_bn (dv_add_e (Eq.refl _) tk_1 ex16))
        have hIo := hB.1
        refine th_iastF hC hB hb14 (Or.inl hb14) ro_25 rfl (by decide) tk_1 (by omega) (by omega) th_sIa dX11_runOnce_171 (fun H171 locs hB hf171 hst171 => ?_)
        have hf := hf171
        have mm17 := (th_F_o hf h0 ro_42 (j := 8) (by decide) (by decide)).trans mm13
        have hR := th_RC_F hB.1 hR hf (th_T_s hb14 ro_25 hst171) (by decide)
        replace hF := hF.trans (dv_bn (dv_stoI hIo hB.1 hU hb14 ow_25 (i := 1) hst171 (Eq.refl _) (by omega)))
        refine lv_iload_n hx hb dX11_runOnce_172 rfl (lv_at hl 1 rfl) ?_
        refine tr_if_lt (tgt := 180) hx hb dX11_runOnce_173 (by decide) (Eq.refl _) (fun c173 => ?_) (fun c173 => ?_)
        · replace hF := hF.trans (if_pos c173)
          refine lv_iconst (v := 0) hx hb dX11_runOnce_180 (by decide) ?_
          exact th_iret hC hH hr hlocks narrow_b0 hB.2.1 ⟨_, rfl, by decide, by decide, hB.1, hB.2.2, hR, (hF0.symm.trans (hF.trans (by rw [tk_0])))⟩ dX11_runOnce_181
        · replace hF := hF.trans (if_neg (Int.not_lt.mpr c173))
          refine lv_iconst (v := 1) hx hb dX11_runOnce_176 (by decide) ?_
          refine lv_goto (tgt := 181) hx hb dX11_runOnce_177 (by decide) ?_
          exact th_iret hC hH hr hlocks narrow_b1 hB.2.1 ⟨_, rfl, by decide, by decide, hB.1, hB.2.2, hR, (hF0.symm.trans (hF.trans (by rw [tk_1])))⟩ dX11_runOnce_181
      by_cases k57_0 : x12.toInt = 0
      · replace hF := hF.trans (if_pos k57_0)
        refine lv_tableIn (off := 27) (tgt := 84) hx hb dX11_runOnce_57 (by omega) (by omega) (by rw [show x12.toInt = 0 from k57_0]; decide) (by decide) ?_
        refine lv_aload_n hx hb dX11_runOnce_84 rfl (lv_at hl 0 rfl) ?_
        refine lv_aload_n hx hb dX11_runOnce_85 rfl (lv_at hl 0 rfl) ?_
        refine th_getK hC cf_X11 hB.1 h0 ro_42 rfl (j := 8) (by decide) mm10 kf_X11_58 dX11_runOnce_86 ?_
        replace hF := hF.trans (dv_bn (dv_getR h0 ro_42 (j := 8) rfl mm10 (by decide)))
        refine th_getO (j := 2) (r2 := 26) hC cf_X6 hB.1 hb1 ro_23 rfl rfl kf_X11_384 dX11_runOnce_89 (fun b18 mb18 hb18 => ?_)
        have sb18 := (th_F_o hB.2.2 hb1 ro_23 (j := 2) (by decide) (by decide)).symm.trans mb18
        refine lv_iconst (v := 0) hx hb dX11_runOnce_92 (by decide) ?_
        refine th_ialdF hC hB.1 hb18 ro_26 rfl tk_0 (by omega) (by omega) rfl dX11_runOnce_93 (fun x19 mx19 lx19 ux19 => ?_)
        replace hF := hF.trans (dv_bn (dv_aldI hB.1 hU hb18 ow_26 (z := 0) mx19 (by omega)))
        refine lv_aload_n hx hb dX11_runOnce_94 rfl (lv_at hl 0 rfl) ?_
        refine th_getK hC cf_X11 hB.1 h0 ro_42 rfl (j := 8) (by decide) mm10 kf_X11_58 dX11_runOnce_95 ?_
        replace hF := hF.trans (dv_bn (dv_getR h0 ro_42 (j := 8) rfl mm10 (by decide)))
        refine th_getK hC cf_X6 hB.1 hb1 ro_23 rfl (j := 2) (by decide) mb18 kf_X11_384 dX11_runOnce_98 ?_
        refine lv_iconst (v := 1) hx hb dX11_runOnce_101 (by decide) ?_
        refine th_ialdF hC hB.1 hb18 ro_26 rfl tk_1 (by omega) (by omega) rfl dX11_runOnce_102 (fun x20 mx20 lx20 ux20 => ?_)
        replace hF := hF.trans (dv_bn (dv_aldI hB.1 hU hb18 ow_26 (z := 1) mx20 (by omega)))
        refine lv_aload_n hx hb dX11_runOnce_103 rfl (lv_at hl 0 rfl) ?_
        refine th_getK hC cf_X11 hB.1 h0 ro_42 rfl (j := 8) (by decide) mm10 kf_X11_58 dX11_runOnce_104 ?_
        replace hF := hF.trans (dv_bn (dv_getR h0 ro_42 (j := 8) rfl mm10 (by decide)))
        refine th_getK hC cf_X6 hB.1 hb1 ro_23 rfl (j := 2) (by decide) mb18 kf_X11_384 dX11_runOnce_107 ?_
        refine lv_iconst (v := 2) hx hb dX11_runOnce_110 (by decide) ?_
        refine th_ialdF hC hB.1 hb18 ro_26 rfl tk_2 (by omega) (by omega) rfl dX11_runOnce_111 (fun x21 mx21 lx21 ux21 => ?_)
        replace hF := hF.trans (dv_bn (dv_aldI hB.1 hU hb18 ow_26 (z := 2) mx21 (by omega)))
        refine th_call (th_runV (As := [.int x19, .int x20, .int x21]) (rest := []) hC mf_X11_doLay km_X11_233 im_X11_doLay se_X11_doLay (c_X11_doLay l G Γ H40 hB.1 hR hU a0 h0 x19 x20 x21) rfl rfl ⟨Nat.le_of_ble_eq_true rfl, Nat.le_of_ble_eq_true rfl⟩ hB.1 h0 ro_42 rfl rfl hl.1 rfl (Nat.le_of_ble_eq_true rfl) dX11_runOnce_112 ⟨Nat.le_refl _, Nat.le_refl _⟩) hB.2.1 (fun v112 H112 locs hp hz hS => ?_)
        obtain ⟨x22, rfl, hI1, hf, hR, z112_0⟩ := hp
        have hB := th_B_c hB hI1 hS hf (by decide)
        have mm23 := (th_F_o hf h0 ro_42 (j := 8) (by decide) (by decide)).trans mm10
        have mm24 := (th_F_o hf h0 ro_42 (j := 7) (by decide) (by decide)).trans mm11
        have mm25 := (th_F_o hf hb1 ro_23 (j := 2) (by decide) (by decide)).trans mb18
        replace hF := hF.trans (dv_bn2 (z112_0))
        refine W.eq (g2 := F0 m 115 ls [.int x22]) rfl ?_
        refine lv_istore_n (lv' := [(2, .int x22), (0, .ref a0), (1, .int p1)]) hx hb dX11_runOnce_115 rfl hl (by decide) rfl (fun ls hl => ?_)
        refine lv_aload_n hx hb dX11_runOnce_116 rfl (lv_at hl 1 rfl) ?_
        refine th_getK hC cf_X11 hB.1 h0 ro_42 rfl (j := 8) (by decide) mm23 kf_X11_58 dX11_runOnce_117 ?_
        replace hF := hF.trans (dv_bn (dv_getR h0 ro_42 (j := 8) rfl mm23 (by decide)))
        refine th_getO (j := 1) (r2 := 25) hC cf_X6 hB.1 hb1 ro_23 rfl rfl kf_X11_211 dX11_runOnce_120 (fun b26 mb26 hb26 => ?_)
        have sb26 := (th_F_o hB.2.2 hb1 ro_23 (j := 1) (by decide) (by decide)).symm.trans mb26
        refine lv_iconst (v := 2) hx hb dX11_runOnce_123 (by decide) ?_
        refine lv_iload_n hx hb dX11_runOnce_124 rfl (lv_at hl 0 rfl) ?_
        have hIo := hB.1
        refine th_iastF hC hB hb26 (Or.inl hb26) ro_25 rfl (by decide) tk_2 (by omega) (by omega) th_sIa dX11_runOnce_125 (fun H125 locs hB hf125 hst125 => ?_)
        have hf := hf125
        have mm27 := (th_F_o hf h0 ro_42 (j := 8) (by decide) (by decide)).trans mm23
        have mm28 := (th_F_o hf h0 ro_42 (j := 7) (by decide) (by decide)).trans mm24
        have mm29 := (th_F_o hf hb1 ro_23 (j := 2) (by decide) (by decide)).trans mm25
        have mm30 := (th_F_o hf hb1 ro_23 (j := 1) (by decide) (by decide)).trans mb26
        have hR := th_RC_F hB.1 hR hf (th_T_s hb26 ro_25 hst125) (by decide)
        replace hF := hF.trans (dv_bn (dv_stoI hIo hB.1 hU hb26 ow_25 (i := 2) hst125 (Eq.refl _) (by omega)))
        refine lv_goto (tgt := 159) hx hb dX11_runOnce_126 (by decide) ?_
        exact jn159 H125 locs ls x22 hB hR (lv_sub hl [1, 0] rfl) hF
      replace hF := hF.trans (if_neg k57_0)
      by_cases k57_1 : x12.toInt = 1
      · replace hF := hF.trans (if_pos k57_1)
        refine lv_tableIn (off := 72) (tgt := 129) hx hb dX11_runOnce_57 (by omega) (by omega) (by rw [show x12.toInt = 1 from k57_1]; decide) (by decide) ?_
        refine lv_aload_n hx hb dX11_runOnce_129 rfl (lv_at hl 0 rfl) ?_
        refine lv_aload_n hx hb dX11_runOnce_130 rfl (lv_at hl 0 rfl) ?_
        refine th_getK hC cf_X11 hB.1 h0 ro_42 rfl (j := 8) (by decide) mm10 kf_X11_58 dX11_runOnce_131 ?_
        replace hF := hF.trans (dv_bn (dv_getR h0 ro_42 (j := 8) rfl mm10 (by decide)))
        refine th_getO (j := 2) (r2 := 26) hC cf_X6 hB.1 hb1 ro_23 rfl rfl kf_X11_384 dX11_runOnce_134 (fun b31 mb31 hb31 => ?_)
        refine lv_iconst (v := 0) hx hb dX11_runOnce_137 (by decide) ?_
        refine th_ialdF hC hB.1 hb31 ro_26 rfl tk_0 (by omega) (by omega) rfl dX11_runOnce_138 (fun x32 mx32 lx32 ux32 => ?_)
        replace hF := hF.trans (dv_bn (dv_aldI hB.1 hU hb31 ow_26 (z := 0) mx32 (by omega)))
        refine th_call (th_runV (As := [.int x32]) (rest := []) hC mf_X11_doRoll km_X11_236 im_X11_doRoll se_X11_doRoll (c_X11_doRoll l G Γ H40 hB.1 hR hU a0 h0 x32) rfl rfl ⟨Nat.le_of_ble_eq_true rfl, Nat.le_of_ble_eq_true rfl⟩ hB.1 h0 ro_42 rfl rfl hl.1 rfl (Nat.le_of_ble_eq_true rfl) dX11_runOnce_139 ⟨Nat.le_refl _, Nat.le_refl _⟩) hB.2.1 (fun v139 H139 locs hp hz hS => ?_)
        obtain ⟨x33, rfl, hI1, hf, hR, z139_0⟩ := hp
        have hB := th_B_c hB hI1 hS hf (by decide)
        have mm34 := (th_F_o hf h0 ro_42 (j := 8) (by decide) (by decide)).trans mm10
        have mm35 := (th_F_o hf h0 ro_42 (j := 7) (by decide) (by decide)).trans mm11
        replace hF := hF.trans (dv_bn2 (z139_0))
        refine W.eq (g2 := F0 m 142 ls [.int x33]) rfl ?_
        refine lv_istore_n (lv' := [(2, .int x33), (0, .ref a0), (1, .int p1)]) hx hb dX11_runOnce_142 rfl hl (by decide) rfl (fun ls hl => ?_)
        refine lv_goto (tgt := 159) hx hb dX11_runOnce_143 (by decide) ?_
        exact jn159 H139 locs ls x33 hB hR (lv_sub hl [1, 0] rfl) hF
      replace hF := hF.trans (if_neg k57_1)
      by_cases k57_2 : x12.toInt = 2
      · replace hF := hF.trans (if_pos k57_2)
        refine lv_tableIn (off := 89) (tgt := 146) hx hb dX11_runOnce_57 (by omega) (by omega) (by rw [show x12.toInt = 2 from k57_2]; decide) (by decide) ?_
        refine lv_aload_n hx hb dX11_runOnce_146 rfl (lv_at hl 0 rfl) ?_
        refine th_call (th_runV (As := []) (rest := []) hC mf_X11_doMirror km_X11_239 im_X11_doMirror se_X11_doMirror (c_X11_doMirror l G Γ H40 hB.1 hR hU a0 h0) rfl rfl ⟨Nat.le_of_ble_eq_true rfl, Nat.le_of_ble_eq_true rfl⟩ hB.1 h0 ro_42 rfl rfl hl.1 rfl (Nat.le_of_ble_eq_true rfl) dX11_runOnce_147 ⟨Nat.le_refl _, Nat.le_refl _⟩) hB.2.1 (fun v147 H147 locs hp hz hS => ?_)
        obtain ⟨x36, rfl, hI1, hf, hR, z147_0⟩ := hp
        have hB := th_B_c hB hI1 hS hf (by decide)
        have mm37 := (th_F_o hf h0 ro_42 (j := 8) (by decide) (by decide)).trans mm10
        have mm38 := (th_F_o hf h0 ro_42 (j := 7) (by decide) (by decide)).trans mm11
        replace hF := hF.trans (dv_bn2 (z147_0))
        refine W.eq (g2 := F0 m 150 ls [.int x36]) rfl ?_
        refine lv_istore_n (lv' := [(2, .int x36), (0, .ref a0), (1, .int p1)]) hx hb dX11_runOnce_150 rfl hl (by decide) rfl (fun ls hl => ?_)
        refine lv_goto (tgt := 159) hx hb dX11_runOnce_151 (by decide) ?_
        exact jn159 H147 locs ls x36 hB hR (lv_sub hl [1, 0] rfl) hF
      replace hF := hF.trans (if_neg k57_2)
      refine lv_tableOut (tgt := 154) hx hb dX11_runOnce_57 (by omega) (by decide) ?_
      refine lv_aload_n hx hb dX11_runOnce_154 rfl (lv_at hl 0 rfl) ?_
      refine th_call (th_runV (As := []) (rest := []) hC mf_X11_doPass km_X11_242 im_X11_doPass se_X11_doPass (c_X11_doPass l G Γ H40 hB.1 hR hU a0 h0) rfl rfl ⟨Nat.le_of_ble_eq_true rfl, Nat.le_of_ble_eq_true rfl⟩ hB.1 h0 ro_42 rfl rfl hl.1 rfl (Nat.le_of_ble_eq_true rfl) dX11_runOnce_155 ⟨Nat.le_refl _, Nat.le_refl _⟩) hB.2.1 (fun v155 H155 locs hp hz hS => ?_)
      obtain ⟨x39, rfl, hI1, hf, hR, z155_0⟩ := hp
      have hB := th_B_c hB hI1 hS hf (by decide)
      have mm40 := (th_F_o hf h0 ro_42 (j := 8) (by decide) (by decide)).trans mm10
      have mm41 := (th_F_o hf h0 ro_42 (j := 7) (by decide) (by decide)).trans mm11
      replace hF := hF.trans (dv_bn2 (z155_0))
      refine W.eq (g2 := F0 m 158 ls [.int x39]) rfl ?_
      refine lv_istore_n (lv' := [(2, .int x39), (0, .ref a0), (1, .int p1)]) hx hb dX11_runOnce_158 rfl hl (by decide) rfl (fun ls hl => ?_)
      exact jn159 H155 locs ls x39 hB hR (lv_sub hl [1, 0] rfl) hF
    · replace hF := hF.trans (if_neg (not_not_intro c43))
      refine lv_iconst (v := 0) hx hb dX11_runOnce_46 (by decide) ?_
      exact th_iret hC hH hr hlocks narrow_b0 hB.2.1 ⟨_, rfl, by decide, by decide, hB.1, hB.2.2, hR, (hF0.symm.trans (hF.trans (by rw [tk_0])))⟩ dX11_runOnce_47
  · replace hF := hF.trans (if_neg (not_not_intro c26))
    refine lv_iconst (v := 1) hx hb dX11_runOnce_29 (by decide) ?_
    exact th_iret hC hH hr hlocks narrow_b1 hB.2.1 ⟨_, rfl, by decide, by decide, hB.1, hB.2.2, hR, (hF0.symm.trans (hF.trans (by rw [tk_1])))⟩ dX11_runOnce_30
