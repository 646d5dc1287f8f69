set_option maxHeartbeats 4000000 in
set_option maxRecDepth 100000 in
theorem c_J6_bitCount_0f7a4 (l : Launch) (G : th_G) (Γ : th_Ga) (H0 : Heap) (hI : th_I G Γ H0) (hU : dv_U Γ) (p1 : Int32) : Met l yJ6_bitCount_0f7a4 (.code yJ6_bitCount_0f7a4 cJ6_bitCount_0f7a4 1 (some FieldType.int) :: th_tb) ({ frames := 0, cells := 0, slots := 0, locals := 0 } : Room) (th_P [.int p1] G H0) (th_Q (fun (v : Option Value) (H1 : Heap) => ∃ r : Int32, v = some (.int r) ∧ (f_J6_bitCount_0f7a4 (dv G Γ H0) p1.toInt = (r.toInt, ())) ∧ H0 = H1) G) 0 0 (fun q => G.2.2 ≤ q) := by
  refine th_met RJ6 (by decide) rfl (Nat.le_of_ble_eq_true rfl) ?_
  intro p e s m below meth c hC hH hr hlocks hnm ls hl
  have hx := hC.1
  have hb := hC.2.1
  have hB : th_B G Γ Γ [] H0 H0 [] := ⟨hI, va_S.rf, th_F_rf⟩
  have hl : lv_has ls 1 [(0, .int p1)] := hl
  have lp1 := ti_lo p1; have up1 := ti_hi p1
  obtain ⟨F, hF0⟩ : ∃ F, F = f_J6_bitCount_0f7a4 (dv G Γ H0) (p1.toInt) := ⟨_, rfl⟩
  have hF := hF0.trans (f_J6_bitCount_0f7a4.eq_1 (dv G Γ H0) (p1.toInt))
  refine lv_iload_n hx hb dJ6_bitCount_0f7a4_0 rfl (lv_at hl 0 rfl) ?_
  refine lv_iload_n hx hb dJ6_bitCount_0f7a4_1 rfl (lv_at hl 0 rfl) ?_
  refine lv_iconst (v := 1) hx hb dJ6_bitCount_0f7a4_2 (by decide) ?_
  refine lv_iushr hx hb dJ6_bitCount_0f7a4_3 rfl ?_
  refine lv_topi (fun x1 ex1 => ?_)
  have lx1 := ti_lo x1; have ux1 := ti_hi x1
  replace hF := hF.trans (dv_bn (dv_ushr_e (Eq.refl _) tk_1 ex1))
  refine lv_ldcw (v := 1431655765) hx hb hC.2.2.2.1 (hC.2.2.2.2.1 _ kw_1032) dJ6_bitCount_0f7a4_4 ?_
  refine lv_iand hx hb dJ6_bitCount_0f7a4_7 ?_
  refine lv_topi (fun x2 ex2 => ?_)
  have lx2 := ti_lo x2; have ux2 := ti_hi x2
  replace hF := hF.trans (dv_bn (dv_and_e (Eq.refl _) tk_1431655765 ex2))
  refine lv_isub hx hb dJ6_bitCount_0f7a4_8 ?_
  refine lv_topi (fun x3 ex3 => ?_)
  have lx3 := ti_lo x3; have ux3 := ti_hi x3
  replace hF := hF.trans (dv_bn (dv_sub_e (Eq.refl _) (Eq.refl _) ex3))
  refine lv_istore_n (lv' := [(0, .int x3)]) hx hb dJ6_bitCount_0f7a4_9 rfl hl (by decide) rfl (fun ls hl => ?_)
  refine lv_iload_n hx hb dJ6_bitCount_0f7a4_10 rfl (lv_at hl 0 rfl) ?_
  refine lv_ldcw (v := 858993459) hx hb hC.2.2.2.1 (hC.2.2.2.2.1 _ kw_1033) dJ6_bitCount_0f7a4_11 ?_
  refine lv_iand hx hb dJ6_bitCount_0f7a4_14 ?_
  refine lv_topi (fun x4 ex4 => ?_)
  have lx4 := ti_lo x4; have ux4 := ti_hi x4
  replace hF := hF.trans (dv_bn (dv_and_e (Eq.refl _) tk_858993459 ex4))
  refine lv_iload_n hx hb dJ6_bitCount_0f7a4_15 rfl (lv_at hl 0 rfl) ?_
  refine lv_iconst (v := 2) hx hb dJ6_bitCount_0f7a4_16 (by decide) ?_
  refine lv_iushr hx hb dJ6_bitCount_0f7a4_17 rfl ?_
  refine lv_topi (fun x5 ex5 => ?_)
  have lx5 := ti_lo x5; have ux5 := ti_hi x5
  replace hF := hF.trans (dv_bn (dv_ushr_e (Eq.refl _) tk_2 ex5))
  refine lv_ldcw (v := 858993459) hx hb hC.2.2.2.1 (hC.2.2.2.2.1 _ kw_1033) dJ6_bitCount_0f7a4_18 ?_
  refine lv_iand hx hb dJ6_bitCount_0f7a4_21 ?_
  refine lv_topi (fun x6 ex6 => ?_)
  have lx6 := ti_lo x6; have ux6 := ti_hi x6
  replace hF := hF.trans (dv_bn (dv_and_e (Eq.refl _) tk_858993459 ex6))
  refine lv_iadd hx hb dJ6_bitCount_0f7a4_22 ?_
  refine lv_topi (fun x7 ex7 => ?_)
  have lx7 := ti_lo x7; have ux7 := ti_hi x7
  replace hF := hF.trans (dv_bn (dv_add_e (Eq.refl _) (Eq.refl _) ex7))
  refine lv_istore_n (lv' := [(0, .int x7)]) hx hb dJ6_bitCount_0f7a4_23 rfl hl (by decide) rfl (fun ls hl => ?_)
  refine lv_iload_n hx hb dJ6_bitCount_0f7a4_24 rfl (lv_at hl 0 rfl) ?_
  refine lv_iload_n hx hb dJ6_bitCount_0f7a4_25 rfl (lv_at hl 0 rfl) ?_
  refine lv_iconst (v := 4) hx hb dJ6_bitCount_0f7a4_26 (by decide) ?_
  refine lv_iushr hx hb dJ6_bitCount_0f7a4_27 rfl ?_
  refine lv_topi (fun x8 ex8 => ?_)
  have lx8 := ti_lo x8; have ux8 := ti_hi x8
  replace hF := hF.trans (dv_bn (dv_ushr_e (Eq.refl _) tk_4 ex8))
  refine lv_iadd hx hb dJ6_bitCount_0f7a4_28 ?_
  refine lv_topi (fun x9 ex9 => ?_)
  have lx9 := ti_lo x9; have ux9 := ti_hi x9
  replace hF := hF.trans (dv_bn (dv_add_e (Eq.refl _) (Eq.refl _) ex9))
  refine lv_ldcw (v := 252645135) hx hb hC.2.2.2.1 (hC.2.2.2.2.1 _ kw_1034) dJ6_bitCount_0f7a4_29 ?_
  refine lv_iand hx hb dJ6_bitCount_0f7a4_32 ?_
  refine lv_topi (fun x10 ex10 => ?_)
  have lx10 := ti_lo x10; have ux10 := ti_hi x10
  replace hF := hF.trans (dv_bn (dv_and_e (Eq.refl _) tk_252645135 ex10))
  refine lv_istore_n (lv' := [(0, .int x10)]) hx hb dJ6_bitCount_0f7a4_33 rfl hl (by decide) rfl (fun ls hl => ?_)
  refine lv_iload_n hx hb dJ6_bitCount_0f7a4_34 rfl (lv_at hl 0 rfl) ?_
  refine lv_iload_n hx hb dJ6_bitCount_0f7a4_35 rfl (lv_at hl 0 rfl) ?_
  refine lv_bipush (v := 8) hx hb dJ6_bitCount_0f7a4_36 (by decide) ?_
  refine lv_iushr hx hb dJ6_bitCount_0f7a4_38 rfl ?_
  refine lv_topi (fun x11 ex11 => ?_)
  have lx11 := ti_lo x11; have ux11 := ti_hi x11
  replace hF := hF.trans (dv_bn (dv_ushr_e (Eq.refl _) tk_8 ex11))
  refine lv_iadd hx hb dJ6_bitCount_0f7a4_39 ?_
  refine lv_topi (fun x12 ex12 => ?_)
  have lx12 := ti_lo x12; have ux12 := ti_hi x12
  replace hF := hF.trans (dv_bn (dv_add_e (Eq.refl _) (Eq.refl _) ex12))
  refine lv_istore_n (lv' := [(0, .int x12)]) hx hb dJ6_bitCount_0f7a4_40 rfl hl (by decide) rfl (fun ls hl => ?_)
  refine lv_iload_n hx hb dJ6_bitCount_0f7a4_41 rfl (lv_at hl 0 rfl) ?_
  refine lv_iload_n hx hb dJ6_bitCount_0f7a4_42 rfl (lv_at hl 0 rfl) ?_
  refine lv_bipush (v := 16) hx hb dJ6_bitCount_0f7a4_43 (by decide) ?_
  refine lv_iushr hx hb dJ6_bitCount_0f7a4_45 rfl ?_
  refine lv_topi (fun x13 ex13 => ?_)
  have lx13 := ti_lo x13; have ux13 := ti_hi x13
  replace hF := hF.trans (dv_bn (dv_ushr_e (Eq.refl _) tk_16 ex13))
  refine lv_iadd hx hb dJ6_bitCount_0f7a4_46 ?_
  refine lv_topi (fun x14 ex14 => ?_)
  have lx14 := ti_lo x14; have ux14 := ti_hi x14
  replace hF := hF.trans (dv_bn (dv_add_e (Eq.refl _) (Eq.refl _) ex14))
  refine lv_istore_n (lv' := [(0, .int x14)]) hx hb dJ6_bitCount_0f7a4_47 rfl hl (by decide) rfl (fun ls hl => ?_)
  refine lv_iload_n hx hb dJ6_bitCount_0f7a4_48 rfl (lv_at hl 0 rfl) ?_
  refine lv_bipush (v := 63) hx hb dJ6_bitCount_0f7a4_49 (by decide) ?_
  refine lv_iand hx hb dJ6_bitCount_0f7a4_51 ?_
  refine lv_topi (fun x15 ex15 => ?_)
  have lx15 := ti_lo x15; have ux15 := ti_hi x15
  replace hF := hF.trans (dv_bn (dv_and_e (Eq.refl _) tk_63 ex15))
  have fx15 := ti_and x14 6 (m := 63) (by decide) (by decide)
  rw [← ex15] at fx15
  exact th_iret hC hH hr hlocks rfl hB.2.1 ⟨_, rfl, (hF0.symm.trans hF), rfl⟩ dJ6_bitCount_0f7a4_52

set_option maxHeartbeats 4000000 in
set_option maxRecDepth 100000 in
theorem c_J7_fill_53178_Frows (l : Launch) (G : th_G) (Γ : th_Ga) (H0 : Heap) (hI : th_I G Γ H0) (hR : th_RC G Γ H0) (hU : dv_U Γ) (p1 o1 : Nat) (h1 : Γ p1 = (10, o1)) (p2 : Int32) : Met l yJ7_fill_53178 (.code yJ7_fill_53178 cJ7_fill_53178 4 (none) :: th_tb) ({ frames := 0, cells := 0, slots := 0, locals := 0 } : Room) (th_P [.ref p1, .int p2] G H0) (th_Q (fun (v : Option Value) (H1 : Heap) => v = none ∧ th_I G Γ H1 ∧ th_F G Γ [(10, 0)] H0 H1 ∧ th_RC G Γ H1 ∧ (f_J7_fill_53178_Frows (dv G Γ H0) (o1 : Int) p2.toInt = (dv G Γ H1, 0))) G) 0 0 (fun q => G.2.2 ≤ q) := by
  refine th_met RJ7 (by decide) rfl (Nat.le_of_ble_eq_true rfl) ?_
  intro p e s m below meth c hC hH hr hlocks hnm ls hl
  have hx := hC.1
  have hb := hC.2.1
  have hB : th_B G Γ Γ [(10, 0)] H0 H0 [] := ⟨hI, va_S.rf, th_F_rf⟩
  have hl : lv_has ls 4 [(0, .ref p1), (1, .int p2)] := hl
  have lp2 := ti_lo p2; have up2 := ti_hi p2
  obtain ⟨F, hF0⟩ : ∃ F, F = f_J7_fill_53178_Frows (dv G Γ H0) ((o1 : Int)) (p2.toInt) := ⟨_, rfl⟩
  have hF := hF0.trans (f_J7_fill_53178_Frows.eq_1 (dv G Γ H0) ((o1 : Int)) (p2.toInt))
  refine lv_iconst (v := 0) hx hb dJ7_fill_53178_0 (by decide) ?_
  refine lv_istore_n (lv' := [(2, .int 0), (0, .ref p1), (1, .int p2)]) hx hb dJ7_fill_53178_1 rfl hl (by decide) rfl (fun ls hl => ?_)
  refine lv_aload_n hx hb dJ7_fill_53178_2 rfl (lv_at hl 1 rfl) ?_
  refine th_alen hC hB.1 h1 ro_10 rfl (by decide) dJ7_fill_53178_3 (fun x1 ex1 lx1 ux1 => ?_)
  replace hF := hF.trans (dv_bn ((show (12 : Int) = x1.toInt from by omega)))
  refine lv_istore_n (lv' := [(3, .int x1), (2, .int 0), (0, .ref p1), (1, .int p2)]) hx hb dJ7_fill_53178_4 rfl hl (by decide) rfl (fun ls hl => ?_)
  have lp5 : ∀ (n5 : Nat) (H5 : Heap) (locs : List Loc) (ls : Array Slot) (j5_2 : Int32), th_B G Γ Γ [(10, 0)] H0 H5 locs → th_RC G Γ H5 → lv_has ls 4 [(3, .int x1), (0, .ref p1), (1, .int p2), (2, .int j5_2)] → F = dv_lp f_J7_fill_53178_Frows_5b (dv G Γ H5, x1.toInt, (o1 : Int), p2.toInt, j5_2.toInt) → 0 ≤ j5_2.toInt → j5_2.toInt ≤ 12 → (2147483648 : Int) - j5_2.toInt ≤ (n5 : Int) → W p l e ({ frames := 0, cells := 0, slots := 0, locals := 0 } : Room) s m ([.ref p1, .int p2] : List Value).toArray below meth c H5 locs 0 0 (MQ below (th_Q (fun (v : Option Value) (H1 : Heap) => v = none ∧ th_I G Γ H1 ∧ th_F G Γ [(10, 0)] H0 H1 ∧ th_RC G Γ H1 ∧ (f_J7_fill_53178_Frows (dv G Γ H0) (o1 : Int) p2.toInt = (dv G Γ H1, 0))) G) ([.ref p1, .int p2] : List Value).toArray s 0 0 (fun q => G.2.2 ≤ q)) (F0 m 5 ls []) := by
    intro n5
    induction n5 with
    | zero => intro H5 locs ls j5_2 hB hR hl hF g5_0 g5_1 hm5; exact absurd hm5 (by have := ti_hi j5_2; omega)
    | succ n5 ih5 =>
      intro H5 locs ls j5_2 hB hR hl hF g5_0 g5_1 hm5
      have lj5_2 := ti_lo j5_2; have uj5_2 := ti_hi j5_2
      have hm5 : (2147483648 : Int) - j5_2.toInt ≤ (n5 : Int) + 1 := by omega
      replace hF := hF.trans (dv_lp_eq)
      replace hF := hF.trans (congrArg (dv_k f_J7_fill_53178_Frows_5b) (f_J7_fill_53178_Frows_5c.eq_1 (dv G Γ H5) (x1.toInt) ((o1 : Int)) (p2.toInt) (j5_2.toInt)))
      refine lv_iload_n hx hb dJ7_fill_53178_5 rfl (lv_at hl 3 rfl) ?_
      refine lv_iload_n hx hb dJ7_fill_53178_6 rfl (lv_at hl 0 rfl) ?_
      refine tr_icmp_ge (tgt := 20) hx hb dJ7_fill_53178_7 (by decide) (Eq.refl _) (Eq.refl _) (fun c7 => ?_) (fun c7 => ?_)
      · replace hF := hF.trans (congrArg (dv_k f_J7_fill_53178_Frows_5b) (if_pos c7))
        replace hF := hF.trans (dv_kr)
        exact th_vret hC hH hr hlocks hB.2.1 ⟨rfl, hB.1, hB.2.2, hR, (hF0.symm.trans hF)⟩ dJ7_fill_53178_20
      · replace hF := hF.trans (congrArg (dv_k f_J7_fill_53178_Frows_5b) (if_neg (Int.not_le.mpr c7)))
        refine lv_aload_n hx hb dJ7_fill_53178_10 rfl (lv_at hl 1 rfl) ?_
        refine lv_iload_n hx hb dJ7_fill_53178_11 rfl (lv_at hl 3 rfl) ?_
        refine lv_iload_n hx hb dJ7_fill_53178_12 rfl (lv_at hl 2 rfl) ?_
        have hIo := hB.1
        refine th_iastF hC hB h1 (Or.inl h1) ro_10 rfl (by decide) (Eq.refl _) (by omega) (by omega) th_sIa dJ7_fill_53178_13 (fun H13 locs hB hf13 hst13 => ?_)
        have hf := hf13
        have hR := th_RC_F hB.1 hR hf (th_T_s h1 ro_10 hst13) (by decide)
        replace hF := hF.trans (congrArg (dv_k f_J7_fill_53178_Frows_5b) (dv_bn (dv_stoI hIo hB.1 hU h1 ow_10 (i := j5_2.toInt) hst13 (Eq.refl _) (by omega))))
        refine tr_iinc (fun x2 => [(2, .int x2), (3, .int x1), (0, .ref p1), (1, .int p2)]) hx hb dJ7_fill_53178_14 hl (k := 3) rfl (Eq.refl _) tk_1 (by omega) (by omega) (by decide) (fun _ => rfl) (fun x2 ls ex2 hl => ?_)
        replace hF := hF.trans (congrArg (dv_k f_J7_fill_53178_Frows_5b) (dv_bn (ex2.symm)))
        refine lv_goto (tgt := 5) hx hb dJ7_fill_53178_17 (by decide) ?_
        replace hF := hF.trans (dv_kl)
        exact ih5 H13 locs ls x2 hB hR (lv_sub hl [1, 2, 3, 0] rfl) hF (by omega) (by omega) (by omega)
  exact lp5 ((2147483648 : Int) - (0)).toNat H0 [] ls 0 hB hR (lv_sub hl [0, 2, 3, 1] rfl) (by rw [tk_0]; exact hF) (by decide) (by decide) (by have w0 := tk_0; omega)

set_option maxHeartbeats 4000000 in
set_option maxRecDepth 100000 in
theorem c_J7_fill_53178_Stally (l : Launch) (G : th_G) (Γ : th_Ga) (H0 : Heap) (hI : th_I G Γ H0) (hR : th_RC G Γ H0) (hU : dv_U Γ) (p1 o1 : Nat) (h1 : Γ p1 = (30, o1)) (p2 : Int32) : Met l yJ7_fill_53178 (.code yJ7_fill_53178 cJ7_fill_53178 4 (none) :: th_tb) ({ frames := 0, cells := 0, slots := 0, locals := 0 } : Room) (th_P [.ref p1, .int p2] G H0) (th_Q (fun (v : Option Value) (H1 : Heap) => v = none ∧ th_I G Γ H1 ∧ th_F G Γ [(30, 0)] H0 H1 ∧ th_RC G Γ H1) G) 0 0 (fun q => G.2.2 ≤ q) := by
  refine th_met RJ7 (by decide) rfl (Nat.le_of_ble_eq_true rfl) ?_
  intro p e s m below meth c hC hH hr hlocks hnm ls hl
  have hx := hC.1
  have hb := hC.2.1
  have hB : th_B G Γ Γ [(30, 0)] H0 H0 [] := ⟨hI, va_S.rf, th_F_rf⟩
  have hl : lv_has ls 4 [(0, .ref p1), (1, .int p2)] := hl
  have lp2 := ti_lo p2; have up2 := ti_hi p2
  refine lv_iconst (v := 0) hx hb dJ7_fill_53178_0 (by decide) ?_
  refine lv_istore_n (lv' := [(2, .int 0), (0, .ref p1), (1, .int p2)]) hx hb dJ7_fill_53178_1 rfl hl (by decide) rfl (fun ls hl => ?_)
  refine lv_aload_n hx hb dJ7_fill_53178_2 rfl (lv_at hl 1 rfl) ?_
  refine th_alen hC hB.1 h1 ro_30 rfl (by decide) dJ7_fill_53178_3 (fun x1 ex1 lx1 ux1 => ?_)
  refine lv_istore_n (lv' := [(3, .int x1), (2, .int 0), (0, .ref p1), (1, .int p2)]) hx hb dJ7_fill_53178_4 rfl hl (by decide) rfl (fun ls hl => ?_)
  have lp5 : ∀ (n5 : Nat) (H5 : Heap) (locs : List Loc) (ls : Array Slot) (j5_2 : Int32), th_B G Γ Γ [(30, 0)] H0 H5 locs → th_RC G Γ H5 → lv_has ls 4 [(3, .int x1), (0, .ref p1), (1, .int p2), (2, .int j5_2)] → 0 ≤ j5_2.toInt → j5_2.toInt ≤ 1296 → (2147483648 : Int) - j5_2.toInt ≤ (n5 : Int) → W p l e ({ frames := 0, cells := 0, slots := 0, locals := 0 } : Room) s m ([.ref p1, .int p2] : List Value).toArray below meth c H5 locs 0 0 (MQ below (th_Q (fun (v : Option Value) (H1 : Heap) => v = none ∧ th_I G Γ H1 ∧ th_F G Γ [(30, 0)] H0 H1 ∧ th_RC G Γ H1) G) ([.ref p1, .int p2] : List Value).toArray s 0 0 (fun q => G.2.2 ≤ q)) (F0 m 5 ls []) := by
    intro n5
    induction n5 with
    | zero => intro H5 locs ls j5_2 hB hR hl g5_0 g5_1 hm5; exact absurd hm5 (by have := ti_hi j5_2; omega)
    | succ n5 ih5 =>
      intro H5 locs ls j5_2 hB hR hl g5_0 g5_1 hm5
      have lj5_2 := ti_lo j5_2; have uj5_2 := ti_hi j5_2
      have hm5 : (2147483648 : Int) - j5_2.toInt ≤ (n5 : Int) + 1 := by omega
      refine lv_iload_n hx hb dJ7_fill_53178_5 rfl (lv_at hl 3 rfl) ?_
      refine lv_iload_n hx hb dJ7_fill_53178_6 rfl (lv_at hl 0 rfl) ?_
      refine tr_icmp_ge (tgt := 20) hx hb dJ7_fill_53178_7 (by decide) (Eq.refl _) (Eq.refl _) (fun c7 => ?_) (fun c7 => ?_)
      · exact th_vret hC hH hr hlocks hB.2.1 ⟨rfl, hB.1, hB.2.2, hR⟩ dJ7_fill_53178_20
      · refine lv_aload_n hx hb dJ7_fill_53178_10 rfl (lv_at hl 1 rfl) ?_
        refine lv_iload_n hx hb dJ7_fill_53178_11 rfl (lv_at hl 3 rfl) ?_
        refine lv_iload_n hx hb dJ7_fill_53178_12 rfl (lv_at hl 2 rfl) ?_
        refine th_iastF hC hB h1 (Or.inl h1) ro_30 rfl (by decide) (Eq.refl _) (by omega) (by omega) th_sIa dJ7_fill_53178_13 (fun H13 locs hB hf13 hst13 => ?_)
        have hf := hf13
        have hR := th_RC_F hB.1 hR hf (th_T_s h1 ro_30 hst13) (by decide)
        refine tr_iinc (fun x2 => [(2, .int x2), (3, .int x1), (0, .ref p1), (1, .int p2)]) hx hb dJ7_fill_53178_14 hl (k := 3) rfl (Eq.refl _) tk_1 (by omega) (by omega) (by decide) (fun _ => rfl) (fun x2 ls ex2 hl => ?_)
        refine lv_goto (tgt := 5) hx hb dJ7_fill_53178_17 (by decide) ?_
        exact ih5 H13 locs ls x2 hB hR (lv_sub hl [1, 2, 3, 0] rfl) (by omega) (by omega) (by omega)
  exact lp5 ((2147483648 : Int) - (0)).toNat H0 [] ls 0 hB hR (lv_sub hl [0, 2, 3, 1] rfl) (by decide) (by decide) (by have w0 := tk_0; omega)

set_option maxHeartbeats 4000000 in
set_option maxRecDepth 100000 in
theorem c_J7_fill_d0a16_Climbs (l : Launch) (G : th_G) (Γ : th_Ga) (H0 : Heap) (hI : th_I G Γ H0) (hR : th_RC G Γ H0) (hU : dv_U Γ) (p1 o1 : Nat) (h1 : Γ p1 = (2, o1)) (p2 : Int64) : Met l yJ7_fill_d0a16 (.code yJ7_fill_d0a16 cJ7_fill_d0a16 5 (none) :: th_tb) ({ frames := 0, cells := 0, slots := 0, locals := 0 } : Room) (th_P [.ref p1, .long p2] G H0) (th_Q (fun (v : Option Value) (H1 : Heap) => v = none ∧ th_I G Γ H1 ∧ th_F G Γ [(2, 0)] H0 H1 ∧ th_RC G Γ H1) G) 0 0 (fun q => G.2.2 ≤ q) := by
  refine th_met RJ7 (by decide) rfl (Nat.le_of_ble_eq_true rfl) ?_
  intro p e s m below meth c hC hH hr hlocks hnm ls hl
  have hx := hC.1
  have hb := hC.2.1
  have hB : th_B G Γ Γ [(2, 0)] H0 H0 [] := ⟨hI, va_S.rf, th_F_rf⟩
  have hl : lv_has ls 5 [(0, .ref p1), (1, .long p2)] := hl
  refine lv_iconst (v := 0) hx hb dJ7_fill_d0a16_0 (by decide) ?_
  refine lv_istore_n (lv' := [(3, .int 0), (0, .ref p1), (1, .long p2)]) hx hb dJ7_fill_d0a16_1 rfl hl (by decide) rfl (fun ls hl => ?_)
  refine lv_aload_n hx hb dJ7_fill_d0a16_2 rfl (lv_at hl 1 rfl) ?_
  refine th_alen hC hB.1 h1 ro_2 rfl (by decide) dJ7_fill_d0a16_3 (fun x1 ex1 lx1 ux1 => ?_)
  refine lv_istore (lv' := [(4, .int x1), (3, .int 0), (0, .ref p1), (1, .long p2)]) hx hb dJ7_fill_d0a16_4 hl (by decide) rfl (fun ls hl => ?_)
  have lp6 : ∀ (n6 : Nat) (H6 : Heap) (locs : List Loc) (ls : Array Slot) (j6_3 : Int32), th_B G Γ Γ [(2, 0)] H0 H6 locs → th_RC G Γ H6 → lv_has ls 5 [(4, .int x1), (0, .ref p1), (1, .long p2), (3, .int j6_3)] → 0 ≤ j6_3.toInt → j6_3.toInt ≤ 255 → (2147483648 : Int) - j6_3.toInt ≤ (n6 : Int) → W p l e ({ frames := 0, cells := 0, slots := 0, locals := 0 } : Room) s m ([.ref p1, .long p2] : List Value).toArray below meth c H6 locs 0 0 (MQ below (th_Q (fun (v : Option Value) (H1 : Heap) => v = none ∧ th_I G Γ H1 ∧ th_F G Γ [(2, 0)] H0 H1 ∧ th_RC G Γ H1) G) ([.ref p1, .long p2] : List Value).toArray s 0 0 (fun q => G.2.2 ≤ q)) (F0 m 6 ls []) := by
    intro n6
    induction n6 with
    | zero => intro H6 locs ls j6_3 hB hR hl g6_0 g6_1 hm6; exact absurd hm6 (by have := ti_hi j6_3; omega)
    | succ n6 ih6 =>
      intro H6 locs ls j6_3 hB hR hl g6_0 g6_1 hm6
      have lj6_3 := ti_lo j6_3; have uj6_3 := ti_hi j6_3
      have hm6 : (2147483648 : Int) - j6_3.toInt ≤ (n6 : Int) + 1 := by omega
      refine lv_iload_n hx hb dJ7_fill_d0a16_6 rfl (lv_at hl 3 rfl) ?_
      refine lv_iload hx hb dJ7_fill_d0a16_7 (lv_at hl 0 rfl) ?_
      refine tr_icmp_ge (tgt := 22) hx hb dJ7_fill_d0a16_9 (by decide) (Eq.refl _) (Eq.refl _) (fun c9 => ?_) (fun c9 => ?_)
      · exact th_vret hC hH hr hlocks hB.2.1 ⟨rfl, hB.1, hB.2.2, hR⟩ dJ7_fill_d0a16_22
      · refine lv_aload_n hx hb dJ7_fill_d0a16_12 rfl (lv_at hl 1 rfl) ?_
        refine lv_iload_n hx hb dJ7_fill_d0a16_13 rfl (lv_at hl 3 rfl) ?_
        refine lv_lload_n hx hb dJ7_fill_d0a16_14 rfl (lv_at hl 2 rfl) ?_
        refine th_lastF hC hB h1 (Or.inl h1) ro_2 rfl (by decide) (Eq.refl _) (by omega) (by omega) th_sLa dJ7_fill_d0a16_15 (fun H15 locs hB hf15 hst15 => ?_)
        have hf := hf15
        have hR := th_RC_F hB.1 hR hf (th_T_s h1 ro_2 hst15) (by decide)
        refine tr_iinc (fun x2 => [(3, .int x2), (4, .int x1), (0, .ref p1), (1, .long p2)]) hx hb dJ7_fill_d0a16_16 hl (k := 3) rfl (Eq.refl _) tk_1 (by omega) (by omega) (by decide) (fun _ => rfl) (fun x2 ls ex2 hl => ?_)
        refine lv_goto (tgt := 6) hx hb dJ7_fill_d0a16_19 (by decide) ?_
        exact ih6 H15 locs ls x2 hB hR (lv_sub hl [1, 2, 3, 0] rfl) (by omega) (by omega) (by omega)
  exact lp6 ((2147483648 : Int) - (0)).toNat H0 [] ls 0 hB hR (lv_sub hl [0, 2, 3, 1] rfl) (by decide) (by decide) (by have w0 := tk_0; omega)
