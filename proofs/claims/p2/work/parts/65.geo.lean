set_option maxHeartbeats 4000000 in
set_option maxRecDepth 100000 in
theorem c_X12_keeps (l : Launch) (G : th_G) (Γ : th_Ga) (H0 : Heap) (hI : th_I G Γ H0) (hU : dv_U Γ) (a0 : Nat) (h0 : Γ a0 = (46, 0)) (hR : th_RK a0 G Γ H0) (p1 : Int32) : Met l yX12_keeps (.code yX12_keeps cX12_keeps 4 (none) :: th_tb) ({ frames := 0, cells := 0, slots := 0, locals := 0 } : Room) (th_P [.ref a0, .int p1] G H0) (th_Q (fun (v : Option Value) (H1 : Heap) => v = none ∧ th_I G Γ H1 ∧ th_F G Γ [(61, 0), (46, 33)] H0 H1 ∧ th_RK a0 G Γ H1 ∧ (mo_kp (mo_v G H0 a0 2) (mo_v G H0 a0 31) (mo_v G H1 a0 31) (mo_f G H0 a0 33) (mo_f G H1 a0 33)) ∧ (f_X12_keeps (dv G Γ H0) (a0 : Int) p1.toInt = (dv G Γ H1, 0))) G) 0 0 (fun q => G.2.2 ≤ q) := by
  refine th_met RX12 (by decide) rfl (Nat.le_of_ble_eq_true rfl) ?_
  intro p e s m below meth c hC hH hr hlocks hnm ls hl
  have hx := hC.1
  have hb := hC.2.1
  have hB : th_B G Γ Γ [(61, 0), (46, 33)] H0 H0 [] := ⟨hI, va_S.rf, th_F_rf⟩
  have hl : lv_has ls 4 [(0, .ref a0), (1, .int p1)] := hl
  have lp1 := ti_lo p1; have up1 := ti_hi p1
  obtain ⟨F, hF0⟩ : ∃ F, F = f_X12_keeps (dv G Γ H0) ((a0 : Int)) (p1.toInt) := ⟨_, rfl⟩
  have hF := hF0.trans (f_X12_keeps.eq_1 (dv G Γ H0) ((a0 : Int)) (p1.toInt))
  refine lv_bipush (v := 30) hx hb dX12_keeps_0 (by decide) ?_
  refine lv_istore_n (lv' := [(2, .int 30), (0, .ref a0), (1, .int p1)]) hx hb dX12_keeps_2 rfl hl (by decide) rfl (fun ls hl => ?_)
  refine lv_aload_n hx hb dX12_keeps_3 rfl (lv_at hl 1 rfl) ?_
  refine th_getI (j := 33) hC cf_X12 hB.1 h0 ro_46 rfl rfl kf_X12_11 dX12_keeps_4 (fun x1 mx1 lx1 ux1 => ?_)
  replace hF := hF.trans (dv_bn (dv_getI h0 ro_46 (j := 33) rfl mx1 (by decide)))
  have fg2 : mo_f G H0 a0 33 = x1.toInt := mo_fat mx1
  refine lv_bipush (v := 16) hx hb dX12_keeps_7 (by decide) ?_
  have jn52 : ∀ (H52 : Heap) (locs : List Loc) (ls : Array Slot) , th_B G Γ Γ [(61, 0), (46, 33)] H0 H52 locs → th_RK a0 G Γ H52 → lv_has ls 4 [(2, .int 30), (0, .ref a0), (1, .int p1)] → F = f_X12_keeps_52 (dv G Γ H52) ((a0 : Int)) (p1.toInt) → (∃ sh : Int, (sh = 0 ∨ sh = 1) ∧ mo_f G H52 a0 33 + sh = mo_f G H0 a0 33 ∧ mo_f G H52 a0 33 ≤ 15 ∧ ∀ z : Int, 0 ≤ z → z < 30 * mo_f G H52 a0 33 → mo_v G H52 a0 31 z = mo_v G H0 a0 31 (z + 30 * sh)) → W p l e ({ frames := 0, cells := 0, slots := 0, locals := 0 } : Room) s m ([.ref a0, .int p1] : List Value).toArray below meth c H52 locs 0 0 (MQ below (th_Q (fun (v : Option Value) (H1 : Heap) => v = none ∧ th_I G Γ H1 ∧ th_F G Γ [(61, 0), (46, 33)] H0 H1 ∧ th_RK a0 G Γ H1 ∧ (mo_kp (mo_v G H0 a0 2) (mo_v G H0 a0 31) (mo_v G H1 a0 31) (mo_f G H0 a0 33) (mo_f G H1 a0 33)) ∧ (f_X12_keeps (dv G Γ H0) (a0 : Int) p1.toInt = (dv G Γ H1, 0))) G) ([.ref a0, .int p1] : List Value).toArray s 0 0 (fun q => G.2.2 ≤ q)) (F0 m 52 ls []) := by
    intro H52 locs ls hB hR hl hF g52_0
    have vw_H52_2 : mo_v G H52 a0 2 = mo_v G H0 a0 2 := mo_v_F (r := 48) hB.1 hB.2.2 h0 rfl ro_48 (by decide) (by decide)
    replace hF := hF.trans (f_X12_keeps_52.eq_1 (dv G Γ H52) ((a0 : Int)) (p1.toInt))
    refine lv_iconst (v := 0) hx hb dX12_keeps_52 (by decide) ?_
    obtain ⟨sh, s0, s1, s2, sz⟩ := g52_0
    refine lv_istore_n (lv' := [(3, .int 0), (2, .int 30), (0, .ref a0), (1, .int p1)]) hx hb dX12_keeps_53 rfl hl (by decide) rfl (fun ls hl => ?_)
    have lp54 : ∀ (n54 : Nat) (H54 : Heap) (locs : List Loc) (ls : Array Slot) (j54_3 : Int32), th_B G Γ Γ [(61, 0), (46, 33)] H0 H54 locs → th_RK a0 G Γ H54 → lv_has ls 4 [(2, .int 30), (0, .ref a0), (1, .int p1), (3, .int j54_3)] → F = dv_lp f_X12_keeps_54b (dv G Γ H54, (a0 : Int), p1.toInt, j54_3.toInt) → 0 ≤ j54_3.toInt → j54_3.toInt ≤ 29 → (∀ z : Int, 0 ≤ z → z < 30 * mo_f G H52 a0 33 → mo_v G H54 a0 31 z = mo_v G H0 a0 31 (z + 30 * sh)) → (∀ i : Int, 0 ≤ i → i < j54_3.toInt → mo_v G H54 a0 31 (30 * mo_f G H52 a0 33 + i) = mo_v G H0 a0 2 i) → mo_f G H54 a0 33 = mo_f G H52 a0 33 → (2147483648 : Int) - j54_3.toInt ≤ (n54 : Int) → W p l e ({ frames := 0, cells := 0, slots := 0, locals := 0 } : Room) s m ([.ref a0, .int p1] : List Value).toArray below meth c H54 locs 0 0 (MQ below (th_Q (fun (v : Option Value) (H1 : Heap) => v = none ∧ th_I G Γ H1 ∧ th_F G Γ [(61, 0), (46, 33)] H0 H1 ∧ th_RK a0 G Γ H1 ∧ (mo_kp (mo_v G H0 a0 2) (mo_v G H0 a0 31) (mo_v G H1 a0 31) (mo_f G H0 a0 33) (mo_f G H1 a0 33)) ∧ (f_X12_keeps (dv G Γ H0) (a0 : Int) p1.toInt = (dv G Γ H1, 0))) G) ([.ref a0, .int p1] : List Value).toArray s 0 0 (fun q => G.2.2 ≤ q)) (F0 m 54 ls []) := by
      intro n54
      induction n54 with
      | zero => intro H54 locs ls j54_3 hB hR hl hF g54_0 g54_1 g54_2 g54_3 g54_4 hm54; exact absurd hm54 (by have := ti_hi j54_3; omega)
      | succ n54 ih54 =>
        intro H54 locs ls j54_3 hB hR hl hF g54_0 g54_1 g54_2 g54_3 g54_4 hm54
        have lj54_3 := ti_lo j54_3; have uj54_3 := ti_hi j54_3
        have vw_H54_2 : mo_v G H54 a0 2 = mo_v G H0 a0 2 := mo_v_F (r := 48) hB.1 hB.2.2 h0 rfl ro_48 (by decide) (by decide)
        have hm54 : (2147483648 : Int) - j54_3.toInt ≤ (n54 : Int) + 1 := by omega
        replace hF := hF.trans (dv_lp_eq)
        replace hF := hF.trans (congrArg (dv_k f_X12_keeps_54b) (f_X12_keeps_54c.eq_1 (dv G Γ H54) ((a0 : Int)) (p1.toInt) (j54_3.toInt)))
        refine lv_iload_n hx hb dX12_keeps_54 rfl (lv_at hl 3 rfl) ?_
        refine lv_bipush (v := 29) hx hb dX12_keeps_55 (by decide) ?_
        refine tr_icmp_ge (tgt := 85) hx hb dX12_keeps_57 (by decide) (Eq.refl _) tk_29 (fun c57 => ?_) (fun c57 => ?_)
        · replace hF := hF.trans (congrArg (dv_k f_X12_keeps_54b) (if_pos c57))
          refine lv_aload_n hx hb dX12_keeps_85 rfl (lv_at hl 1 rfl) ?_
          refine th_getO (j := 31) (r2 := 61) hC cf_X12 hB.1 h0 ro_46 rfl rfl kf_X12_72 dX12_keeps_86 (fun b3 mb3 hb3 => ?_)
          refine lv_iload_n hx hb dX12_keeps_89 rfl (lv_at hl 0 rfl) ?_
          refine lv_aload_n hx hb dX12_keeps_90 rfl (lv_at hl 1 rfl) ?_
          refine th_getI (j := 33) hC cf_X12 hB.1 h0 ro_46 rfl rfl kf_X12_11 dX12_keeps_91 (fun x4 mx4 lx4 ux4 => ?_)
          replace hF := hF.trans (congrArg (dv_k f_X12_keeps_54b) (dv_bn (dv_getI h0 ro_46 (j := 33) rfl mx4 (by decide))))
          have fg5 : mo_f G H54 a0 33 = x4.toInt := mo_fat mx4
          refine tr_imul hx hb dX12_keeps_94 tk_30 (Eq.refl _) (by omega) (by omega) (fun x6 ex6 => ?_)
          replace hF := hF.trans (congrArg (dv_k f_X12_keeps_54b) (dv_bn (ex6.symm)))
          refine lv_bipush (v := 29) hx hb dX12_keeps_95 (by decide) ?_
          refine tr_iadd hx hb dX12_keeps_97 (Eq.refl _) tk_29 (by omega) (by omega) (fun x7 ex7 => ?_)
          replace hF := hF.trans (congrArg (dv_k f_X12_keeps_54b) (dv_bn (ex7.symm)))
          refine lv_iload_n hx hb dX12_keeps_98 rfl (lv_at hl 2 rfl) ?_
          have hIo := hB.1
          refine th_iastF hC hB hb3 (Or.inl hb3) ro_61 rfl (by decide) (Eq.refl _) (by omega) (by omega) th_sIa dX12_keeps_99 (fun H99 locs hB hf99 hst99 => ?_)
          have hf := hf99
          have mm8 := (th_F_o hf h0 ro_46 (j := 33) (by decide) (by decide)).trans mx4
          have hR := th_RK_F hB.1 hR h0 hf (th_T_s hb3 ro_61 hst99) (by decide)
          have fv_H99_33 : mo_f G H99 a0 33 = mo_f G H54 a0 33 := mo_f_F hf h0 (by decide) (by decide)
          have vv_H99_2 : mo_v G H99 a0 2 = mo_v G H54 a0 2 := mo_v_F (r := 48) hB.1 hf h0 rfl ro_48 (by decide) (by decide)
          replace hF := hF.trans (congrArg (dv_k f_X12_keeps_54b) (dv_bn (dv_stoI hIo hB.1 hU hb3 ow_61 (i := x7.toInt) hst99 (Eq.refl _) (by omega))))
          have vs99 : mo_v G H99 a0 31 = mo_u (mo_v G H54 a0 31) ((30 * x4.toInt) + 29) p1.toInt := by rw [show (((30 * x4.toInt) + 29) : Int) = x7.toInt by omega]; exact mo_v_st h0 hb3 (by decide) mb3 hst99 (by omega)
          refine lv_aload_n hx hb dX12_keeps_100 rfl (lv_at hl 1 rfl) ?_
          refine lv_dup hx hb dX12_keeps_101 rfl ?_
          refine th_getK hC cf_X12 hB.1 h0 ro_46 rfl (j := 33) (by decide) mm8 kf_X12_11 dX12_keeps_102 ?_
          replace hF := hF.trans (congrArg (dv_k f_X12_keeps_54b) (dv_bn (dv_getI h0 ro_46 (j := 33) rfl mm8 (by decide))))
          have fg9 : mo_f G H99 a0 33 = x4.toInt := mo_fat mm8
          refine lv_iconst (v := 1) hx hb dX12_keeps_105 (by decide) ?_
          refine tr_iadd hx hb dX12_keeps_106 (Eq.refl _) tk_1 (by omega) (by omega) (fun x10 ex10 => ?_)
          replace hF := hF.trans (congrArg (dv_k f_X12_keeps_54b) (dv_bn (ex10.symm)))
          refine th_put hC cf_X12 hB h0 (Or.inl h0) ro_46 rfl (j := 33) rfl (th_sI (by omega) (by omega)) (by decide) rfl rfl rfl kf_X12_11 dX12_keeps_107 (fun H107 locs hB hf hst107 => ?_)
          have hR := th_RK_F hB.1 hR h0 hf (th_T_s h0 ro_46 hst107) (by decide)
          have vv_H107_2 : mo_v G H107 a0 2 = mo_v G H99 a0 2 := mo_v_F (r := 48) hB.1 hf h0 rfl ro_48 (by decide) (by decide)
          have vv_H107_31 : mo_v G H107 a0 31 = mo_v G H99 a0 31 := mo_v_F (r := 61) hB.1 hf h0 rfl ro_61 (by decide) (by decide)
          replace hF := hF.trans (congrArg (dv_k f_X12_keeps_54b) (dv_bn (dv_putI hB.1 h0 ro_46 (j := 33) rfl (th_apart hC cf_X12) hst107 (Eq.refl _) (by decide))))
          have fp107 : mo_f G H107 a0 33 = x10.toInt := mo_f_St hst107
          replace hF := hF.trans (dv_kr)
          exact th_vret hC hH hr hlocks hB.2.1 ⟨rfl, hB.1, hB.2.2, hR, ⟨by omega, fun r r0 r1 => by rcases Int.lt_or_le r (mo_f G H52 a0 33) with q9 | q9; exact Or.inl ⟨r + sh, by omega, by omega, fun i i0 i1 => by rw [vv_H107_31, vs99, mo_un (by omega), g54_2 _ (by omega) (by omega)]; congr 1; omega⟩; exact Or.inr (fun i i0 i1 => by rw [vv_H107_31, vs99, mo_un (by omega), show r = mo_f G H52 a0 33 by omega]; exact g54_3 i i0 (by omega))⟩, (hF0.symm.trans hF)⟩ dX12_keeps_110
        · replace hF := hF.trans (congrArg (dv_k f_X12_keeps_54b) (if_neg (Int.not_le.mpr c57)))
          refine lv_aload_n hx hb dX12_keeps_60 rfl (lv_at hl 1 rfl) ?_
          refine th_getO (j := 31) (r2 := 61) hC cf_X12 hB.1 h0 ro_46 rfl rfl kf_X12_72 dX12_keeps_61 (fun b11 mb11 hb11 => ?_)
          have sb11 := (th_F_o hB.2.2 h0 ro_46 (j := 31) (by decide) (by decide)).symm.trans mb11
          refine lv_iload_n hx hb dX12_keeps_64 rfl (lv_at hl 0 rfl) ?_
          refine lv_aload_n hx hb dX12_keeps_65 rfl (lv_at hl 1 rfl) ?_
          refine th_getI (j := 33) hC cf_X12 hB.1 h0 ro_46 rfl rfl kf_X12_11 dX12_keeps_66 (fun x12 mx12 lx12 ux12 => ?_)
          replace hF := hF.trans (congrArg (dv_k f_X12_keeps_54b) (dv_bn (dv_getI h0 ro_46 (j := 33) rfl mx12 (by decide))))
          have fg13 : mo_f G H54 a0 33 = x12.toInt := mo_fat mx12
          refine tr_imul hx hb dX12_keeps_69 tk_30 (Eq.refl _) (by omega) (by omega) (fun x14 ex14 => ?_)
          replace hF := hF.trans (congrArg (dv_k f_X12_keeps_54b) (dv_bn (ex14.symm)))
          refine lv_iload_n hx hb dX12_keeps_70 rfl (lv_at hl 3 rfl) ?_
          refine tr_iadd hx hb dX12_keeps_71 (Eq.refl _) (Eq.refl _) (by omega) (by omega) (fun x15 ex15 => ?_)
          replace hF := hF.trans (congrArg (dv_k f_X12_keeps_54b) (dv_bn (ex15.symm)))
          refine lv_aload_n hx hb dX12_keeps_72 rfl (lv_at hl 1 rfl) ?_
          refine th_getO (j := 2) (r2 := 48) hC cf_X12 hB.1 h0 ro_46 rfl rfl kf_X12_28 dX12_keeps_73 (fun b16 mb16 hb16 => ?_)
          have sb16 := (th_F_o hB.2.2 h0 ro_46 (j := 2) (by decide) (by decide)).symm.trans mb16
          refine lv_iload_n hx hb dX12_keeps_76 rfl (lv_at hl 3 rfl) ?_
          refine th_ialdF hC hB.1 hb16 ro_48 rfl (Eq.refl _) (by omega) (by omega) (ek_a (by omega) (by omega)) dX12_keeps_77 (fun x17 mx17 lx17 ux17 => ?_)
          replace hF := hF.trans (congrArg (dv_k f_X12_keeps_54b) (dv_bn (dv_aldI hB.1 hU hb16 ow_48 (z := j54_3.toInt) mx17 (by omega))))
          have vgx17 : mo_v G H0 a0 2 j54_3.toInt = x17.toInt := by rw [← (mo_v_F (r := 48) hB.1 hB.2.2 h0 rfl ro_48 (by decide) (by decide) : mo_v G H54 a0 2 = _)]; rw [show (j54_3.toInt : Int) = j54_3.toInt by omega]; exact mo_vat mb16 mx17 (by omega)
          have hIo := hB.1
          refine th_iastF hC hB hb11 (Or.inl hb11) ro_61 rfl (by decide) (Eq.refl _) (by omega) (by omega) th_sIa dX12_keeps_78 (fun H78 locs hB hf78 hst78 => ?_)
          have hf := hf78
          have mm18 := (th_F_o hf h0 ro_46 (j := 31) (by decide) (by decide)).trans mb11
          have mm19 := (th_F_o hf h0 ro_46 (j := 33) (by decide) (by decide)).trans mx12
          have mm20 := (th_F_o hf h0 ro_46 (j := 2) (by decide) (by decide)).trans mb16
          have hR := th_RK_F hB.1 hR h0 hf (th_T_s hb11 ro_61 hst78) (by decide)
          have fv_H78_33 : mo_f G H78 a0 33 = mo_f G H54 a0 33 := mo_f_F hf h0 (by decide) (by decide)
          have vv_H78_2 : mo_v G H78 a0 2 = mo_v G H54 a0 2 := mo_v_F (r := 48) hB.1 hf h0 rfl ro_48 (by decide) (by decide)
          replace hF := hF.trans (congrArg (dv_k f_X12_keeps_54b) (dv_bn (dv_stoI hIo hB.1 hU hb11 ow_61 (i := x15.toInt) hst78 (Eq.refl _) (by omega))))
          have vs78 : mo_v G H78 a0 31 = mo_u (mo_v G H54 a0 31) ((30 * x12.toInt) + j54_3.toInt) x17.toInt := by rw [show (((30 * x12.toInt) + j54_3.toInt) : Int) = x15.toInt by omega]; exact mo_v_st h0 hb11 (by decide) mb11 hst78 (by omega)
          refine tr_iinc (fun x21 => [(3, .int x21), (2, .int 30), (0, .ref a0), (1, .int p1)]) hx hb dX12_keeps_79 hl (k := 3) rfl (Eq.refl _) tk_1 (by omega) (by omega) (by decide) (fun _ => rfl) (fun x21 ls ex21 hl => ?_)
          replace hF := hF.trans (congrArg (dv_k f_X12_keeps_54b) (dv_bn (ex21.symm)))
          refine lv_goto (tgt := 54) hx hb dX12_keeps_82 (by decide) ?_
          replace hF := hF.trans (dv_kl)
          exact ih54 H78 locs ls x21 hB hR (lv_sub hl [1, 2, 3, 0] rfl) hF (by omega) (by omega) (fun z a9 b9 => by rw [vs78, mo_un (by omega)]; exact g54_2 z a9 b9) (fun i a9 b9 => by rw [vs78]; by_cases q9 : i = j54_3.toInt; rw [mo_us (by omega), q9, ← vgx17]; rw [mo_un (by omega)]; exact g54_3 i a9 (by omega)) (by omega) (by omega)
    exact lp54 ((2147483648 : Int) - (0)).toNat H52 locs ls 0 hB hR (lv_sub hl [1, 2, 3, 0] rfl) (by rw [tk_0]; exact hF) (by decide) (by decide) sz (fun i a9 b9 => by have w0 := tk_0; omega) (by have w0 := tk_0; omega) (by have w0 := tk_0; omega)
  refine tr_icmp_ne (tgt := 52) hx hb dX12_keeps_9 (by decide) (Eq.refl _) tk_16 (fun c9 => ?_) (fun c9 => ?_)
  · replace hF := hF.trans (if_pos c9)
    exact jn52 H0 [] ls hB hR (lv_sub hl [0, 1, 2] rfl) hF ⟨0, Or.inl rfl, by omega, by omega, fun z a9 b9 => by congr 1; omega⟩
  · replace hF := hF.trans (if_neg (not_not_intro c9))
    refine lv_iconst (v := 0) hx hb dX12_keeps_12 (by decide) ?_
    refine lv_istore_n (lv' := [(3, .int 0), (2, .int 30), (0, .ref a0), (1, .int p1)]) hx hb dX12_keeps_13 rfl hl (by decide) rfl (fun ls hl => ?_)
    have lp14 : ∀ (n14 : Nat) (H14 : Heap) (locs : List Loc) (ls : Array Slot) (j14_3 : Int32), th_B G Γ Γ [(61, 0), (46, 33)] H0 H14 locs → th_RK a0 G Γ H14 → lv_has ls 4 [(2, .int 30), (0, .ref a0), (1, .int p1), (3, .int j14_3)] → F = dv_lp f_X12_keeps_14b (dv G Γ H14, (a0 : Int), p1.toInt, j14_3.toInt) → 0 ≤ j14_3.toInt → j14_3.toInt ≤ 450 → (∀ z : Int, 0 ≤ z → mo_v G H14 a0 31 z = if z < j14_3.toInt then mo_v G H0 a0 31 (z + 30) else mo_v G H0 a0 31 z) → mo_f G H14 a0 33 = mo_f G H0 a0 33 → th_sl H14 a0 (G.1.2 12 33) = .int x1 → (2147483648 : Int) - j14_3.toInt ≤ (n14 : Int) → W p l e ({ frames := 0, cells := 0, slots := 0, locals := 0 } : Room) s m ([.ref a0, .int p1] : List Value).toArray below meth c H14 locs 0 0 (MQ below (th_Q (fun (v : Option Value) (H1 : Heap) => v = none ∧ th_I G Γ H1 ∧ th_F G Γ [(61, 0), (46, 33)] H0 H1 ∧ th_RK a0 G Γ H1 ∧ (mo_kp (mo_v G H0 a0 2) (mo_v G H0 a0 31) (mo_v G H1 a0 31) (mo_f G H0 a0 33) (mo_f G H1 a0 33)) ∧ (f_X12_keeps (dv G Γ H0) (a0 : Int) p1.toInt = (dv G Γ H1, 0))) G) ([.ref a0, .int p1] : List Value).toArray s 0 0 (fun q => G.2.2 ≤ q)) (F0 m 14 ls []) := by
      intro n14
      induction n14 with
      | zero => intro H14 locs ls j14_3 hB hR hl hF g14_0 g14_1 g14_2 g14_3 g14_4 hm14; exact absurd hm14 (by have := ti_hi j14_3; omega)
      | succ n14 ih14 =>
        intro H14 locs ls j14_3 hB hR hl hF g14_0 g14_1 g14_2 g14_3 g14_4 hm14
        have lj14_3 := ti_lo j14_3; have uj14_3 := ti_hi j14_3
        have vw_H14_2 : mo_v G H14 a0 2 = mo_v G H0 a0 2 := mo_v_F (r := 48) hB.1 hB.2.2 h0 rfl ro_48 (by decide) (by decide)
        have hm14 : (2147483648 : Int) - j14_3.toInt ≤ (n14 : Int) + 1 := by omega
        replace hF := hF.trans (dv_lp_eq)
        replace hF := hF.trans (congrArg (dv_k f_X12_keeps_14b) (f_X12_keeps_14c.eq_1 (dv G Γ H14) ((a0 : Int)) (p1.toInt) (j14_3.toInt)))
        refine lv_iload_n hx hb dX12_keeps_14 rfl (lv_at hl 3 rfl) ?_
        refine lv_bipush (v := 15) hx hb dX12_keeps_15 (by decide) ?_
        refine lv_iload_n hx hb dX12_keeps_17 rfl (lv_at hl 0 rfl) ?_
        refine tr_imul hx hb dX12_keeps_18 tk_15 tk_30 (by omega) (by omega) (fun x22 ex22 => ?_)
        replace hF := hF.trans (congrArg (dv_k f_X12_keeps_14b) (dv_bn (ex22.symm)))
        refine tr_icmp_ge (tgt := 42) hx hb dX12_keeps_19 (by decide) (Eq.refl _) (Eq.refl _) (fun c19 => ?_) (fun c19 => ?_)
        · replace hF := hF.trans (congrArg (dv_k f_X12_keeps_14b) (if_pos c19))
          refine lv_aload_n hx hb dX12_keeps_42 rfl (lv_at hl 1 rfl) ?_
          refine lv_dup hx hb dX12_keeps_43 rfl ?_
          refine th_getK hC cf_X12 hB.1 h0 ro_46 rfl (j := 33) (by decide) g14_4 kf_X12_11 dX12_keeps_44 ?_
          replace hF := hF.trans (congrArg (dv_k f_X12_keeps_14b) (dv_bn (dv_getI h0 ro_46 (j := 33) rfl g14_4 (by decide))))
          have fg23 : mo_f G H14 a0 33 = x1.toInt := mo_fat g14_4
          refine lv_iconst (v := 1) hx hb dX12_keeps_47 (by decide) ?_
          refine tr_isub hx hb dX12_keeps_48 (Eq.refl _) tk_1 (by omega) (by omega) (fun x24 ex24 => ?_)
          replace hF := hF.trans (congrArg (dv_k f_X12_keeps_14b) (dv_bn (ex24.symm)))
          refine th_put hC cf_X12 hB h0 (Or.inl h0) ro_46 rfl (j := 33) rfl (th_sI (by omega) (by omega)) (by decide) rfl rfl rfl kf_X12_11 dX12_keeps_49 (fun H49 locs hB hf hst49 => ?_)
          have hR := th_RK_F hB.1 hR h0 hf (th_T_s h0 ro_46 hst49) (by decide)
          have vv_H49_2 : mo_v G H49 a0 2 = mo_v G H14 a0 2 := mo_v_F (r := 48) hB.1 hf h0 rfl ro_48 (by decide) (by decide)
          have vv_H49_31 : mo_v G H49 a0 31 = mo_v G H14 a0 31 := mo_v_F (r := 61) hB.1 hf h0 rfl ro_61 (by decide) (by decide)
          replace hF := hF.trans (congrArg (dv_k f_X12_keeps_14b) (dv_bn (dv_putI hB.1 h0 ro_46 (j := 33) rfl (th_apart hC cf_X12) hst49 (Eq.refl _) (by decide))))
          have fp49 : mo_f G H49 a0 33 = x24.toInt := mo_f_St hst49
          have mm25 := hst49.2.1
          replace hF := hF.trans (dv_kr)
          exact jn52 H49 locs ls hB hR (lv_sub hl [0, 1, 2] rfl) hF ⟨1, Or.inr rfl, by omega, by omega, fun z a9 b9 => by rw [vv_H49_31, g14_2 z a9, if_pos (by omega)]; congr 1⟩
        · replace hF := hF.trans (congrArg (dv_k f_X12_keeps_14b) (if_neg (Int.not_le.mpr c19)))
          refine lv_aload_n hx hb dX12_keeps_22 rfl (lv_at hl 1 rfl) ?_
          refine th_getO (j := 31) (r2 := 61) hC cf_X12 hB.1 h0 ro_46 rfl rfl kf_X12_72 dX12_keeps_23 (fun b26 mb26 hb26 => ?_)
          have sb26 := (th_F_o hB.2.2 h0 ro_46 (j := 31) (by decide) (by decide)).symm.trans mb26
          refine lv_iload_n hx hb dX12_keeps_26 rfl (lv_at hl 3 rfl) ?_
          refine lv_aload_n hx hb dX12_keeps_27 rfl (lv_at hl 1 rfl) ?_
          refine th_getK hC cf_X12 hB.1 h0 ro_46 rfl (j := 31) (by decide) mb26 kf_X12_72 dX12_keeps_28 ?_
          refine lv_iload_n hx hb dX12_keeps_31 rfl (lv_at hl 3 rfl) ?_
          refine lv_iload_n hx hb dX12_keeps_32 rfl (lv_at hl 0 rfl) ?_
          refine tr_iadd hx hb dX12_keeps_33 (Eq.refl _) tk_30 (by omega) (by omega) (fun x27 ex27 => ?_)
          replace hF := hF.trans (congrArg (dv_k f_X12_keeps_14b) (dv_bn (ex27.symm)))
          refine th_ialdF hC hB.1 hb26 ro_61 rfl (Eq.refl _) (by omega) (by omega) rfl dX12_keeps_34 (fun x28 mx28 lx28 ux28 => ?_)
          replace hF := hF.trans (congrArg (dv_k f_X12_keeps_14b) (dv_bn (dv_aldI hB.1 hU hb26 ow_61 (z := x27.toInt) mx28 (by omega))))
          have vgx28 : mo_v G H14 a0 31 (j14_3.toInt + 30) = x28.toInt := by rw [show ((j14_3.toInt + 30) : Int) = x27.toInt by omega]; exact mo_vat mb26 mx28 (by omega)
          have hIo := hB.1
          refine th_iastF hC hB hb26 (Or.inl hb26) ro_61 rfl (by decide) (Eq.refl _) (by omega) (by omega) th_sIa dX12_keeps_35 (fun H35 locs hB hf35 hst35 => ?_)
          have hf := hf35
          have mm29 := (th_F_o hf h0 ro_46 (j := 33) (by decide) (by decide)).trans g14_4
          have mm30 := (th_F_o hf h0 ro_46 (j := 31) (by decide) (by decide)).trans mb26
          have hR := th_RK_F hB.1 hR h0 hf (th_T_s hb26 ro_61 hst35) (by decide)
          have fv_H35_33 : mo_f G H35 a0 33 = mo_f G H14 a0 33 := mo_f_F hf h0 (by decide) (by decide)
          have vv_H35_2 : mo_v G H35 a0 2 = mo_v G H14 a0 2 := mo_v_F (r := 48) hB.1 hf h0 rfl ro_48 (by decide) (by decide)
          replace hF := hF.trans (congrArg (dv_k f_X12_keeps_14b) (dv_bn (dv_stoI hIo hB.1 hU hb26 ow_61 (i := j14_3.toInt) hst35 (Eq.refl _) (by omega))))
          have vs35 : mo_v G H35 a0 31 = mo_u (mo_v G H14 a0 31) j14_3.toInt x28.toInt := by rw [show (j14_3.toInt : Int) = j14_3.toInt by omega]; exact mo_v_st h0 hb26 (by decide) mb26 hst35 (by omega)
          refine tr_iinc (fun x31 => [(3, .int x31), (2, .int 30), (0, .ref a0), (1, .int p1)]) hx hb dX12_keeps_36 hl (k := 3) rfl (Eq.refl _) tk_1 (by omega) (by omega) (by decide) (fun _ => rfl) (fun x31 ls ex31 hl => ?_)
          replace hF := hF.trans (congrArg (dv_k f_X12_keeps_14b) (dv_bn (ex31.symm)))
          refine lv_goto (tgt := 14) hx hb dX12_keeps_39 (by decide) ?_
          replace hF := hF.trans (dv_kl)
          exact ih14 H35 locs ls x31 hB hR (lv_sub hl [1, 2, 3, 0] rfl) hF (by omega) (by omega) (fun z a9 => by rw [vs35]; by_cases q9 : z = j14_3.toInt; rw [mo_us q9, if_pos (by omega), q9]; have q8 := vgx28; rw [g14_2 _ (by omega), if_neg (by omega)] at q8; rw [← q8]; rw [mo_un q9, g14_2 z a9]; by_cases q8 : z < j14_3.toInt; rw [if_pos q8, if_pos (by omega)]; rw [if_neg q8, if_neg (by omega)]) (by omega) mm29 (by omega)
    exact lp14 ((2147483648 : Int) - (0)).toNat H0 [] ls 0 hB hR (lv_sub hl [1, 2, 3, 0] rfl) (by rw [tk_0]; exact hF) (by decide) (by decide) (fun z a9 => by rw [if_neg (by have w0 := tk_0; omega)]) (by have w0 := tk_0; omega) mx1 (by have w0 := tk_0; omega)

set_option maxHeartbeats 4000000 in
set_option maxRecDepth 100000 in
theorem c_X12_undo (l : Launch) (G : th_G) (Γ : th_Ga) (H0 : Heap) (hI : th_I G Γ H0) (hU : dv_U Γ) (a0 : Nat) (h0 : Γ a0 = (46, 0)) (hR : th_RN a0 G Γ H0) : Met l yX12_undo (.code yX12_undo cX12_undo 3 (some FieldType.int) :: th_tb) ({ frames := 1, cells := 0, slots := 0, locals := 21 } : Room) (th_P [.ref a0] G H0) (th_Q (fun (v : Option Value) (H1 : Heap) => ∃ r : Int32, v = some (.int r) ∧ th_I G Γ H1 ∧ th_F G Γ [(47, 0), (46, 0), (48, 0), (46, 33)] H0 H1 ∧ th_RN a0 G Γ H1 ∧ (f_X12_undo (dv G Γ H0) (a0 : Int) = (dv G Γ H1, r.toInt))) G) 0 0 (fun q => G.2.2 ≤ q) := by
  refine th_met RX12 (by decide) rfl (Nat.le_of_ble_eq_true rfl) ?_
  intro p e s m below meth c hC hH hr hlocks hnm ls hl
  have hx := hC.1
  have hb := hC.2.1
  have hB : th_B G Γ Γ [(47, 0), (46, 0), (48, 0), (46, 33)] H0 H0 [] := ⟨hI, va_S.rf, th_F_rf⟩
  have hl : lv_has ls 3 [(0, .ref a0)] := hl
  obtain ⟨F, hF0⟩ : ∃ F, F = f_X12_undo (dv G Γ H0) ((a0 : Int)) := ⟨_, rfl⟩
  have hF := hF0.trans (f_X12_undo.eq_1 (dv G Γ H0) ((a0 : Int)))
  refine lv_aload_n hx hb dX12_undo_0 rfl (lv_at hl 0 rfl) ?_
  refine th_getI (j := 33) hC cf_X12 hB.1 h0 ro_46 rfl rfl kf_X12_11 dX12_undo_1 (fun x1 mx1 lx1 ux1 => ?_)
  replace hF := hF.trans (dv_bn (dv_getI h0 ro_46 (j := 33) rfl mx1 (by decide)))
  have fg2 : mo_f G H0 a0 33 = x1.toInt := mo_fat mx1
  refine tr_if_ne (tgt := 14) hx hb dX12_undo_4 (by decide) (Eq.refl _) (fun c4 => ?_) (fun c4 => ?_)
  · replace hF := hF.trans (if_pos c4)
    refine lv_aload_n hx hb dX12_undo_14 rfl (lv_at hl 0 rfl) ?_
    have hR0 := hR
    have hR := hR.1
    refine lv_dup hx hb dX12_undo_15 rfl ?_
    refine th_getK hC cf_X12 hB.1 h0 ro_46 rfl (j := 33) (by decide) mx1 kf_X12_11 dX12_undo_16 ?_
    replace hF := hF.trans (dv_bn (dv_getI h0 ro_46 (j := 33) rfl mx1 (by decide)))
    have fg3 : mo_f G H0 a0 33 = x1.toInt := mo_fat mx1
    refine lv_iconst (v := 1) hx hb dX12_undo_19 (by decide) ?_
    refine tr_isub hx hb dX12_undo_20 (Eq.refl _) tk_1 (by omega) (by omega) (fun x4 ex4 => ?_)
    replace hF := hF.trans (dv_bn (ex4.symm))
    refine th_put hC cf_X12 hB h0 (Or.inl h0) ro_46 rfl (j := 33) rfl (th_sI (by omega) (by omega)) (by decide) rfl rfl rfl kf_X12_11 dX12_undo_21 (fun H21 locs hB hf hst21 => ?_)
    have hR := th_RC_F hB.1 hR hf (th_T_s h0 ro_46 hst21) (by decide)
    have vv_H21_2 : mo_v G H21 a0 2 = mo_v G H0 a0 2 := mo_v_F (r := 48) hB.1 hf h0 rfl ro_48 (by decide) (by decide)
    have vv_H21_3 : mo_v G H21 a0 3 = mo_v G H0 a0 3 := mo_v_F (r := 49) hB.1 hf h0 rfl ro_49 (by decide) (by decide)
    have vv_H21_4 : mo_v G H21 a0 4 = mo_v G H0 a0 4 := mo_v_F (r := 50) hB.1 hf h0 rfl ro_50 (by decide) (by decide)
    have vv_H21_31 : mo_v G H21 a0 31 = mo_v G H0 a0 31 := mo_v_F (r := 61) hB.1 hf h0 rfl ro_61 (by decide) (by decide)
    replace hF := hF.trans (dv_bn (dv_putI hB.1 h0 ro_46 (j := 33) rfl (th_apart hC cf_X12) hst21 (Eq.refl _) (by decide)))
    have fp21 : mo_f G H21 a0 33 = x4.toInt := mo_f_St hst21
    have mm5 := hst21.2.1
    refine lv_bipush (v := 30) hx hb dX12_undo_24 (by decide) ?_
    refine lv_aload_n hx hb dX12_undo_26 rfl (lv_at hl 0 rfl) ?_
    refine th_getK hC cf_X12 hB.1 h0 ro_46 rfl (j := 33) (by decide) mm5 kf_X12_11 dX12_undo_27 ?_
    replace hF := hF.trans (dv_bn (dv_getI h0 ro_46 (j := 33) rfl mm5 (by decide)))
    have fg6 : mo_f G H21 a0 33 = x4.toInt := mo_fat mm5
    refine tr_imul hx hb dX12_undo_30 tk_30 (Eq.refl _) (by omega) (by omega) (fun x7 ex7 => ?_)
    replace hF := hF.trans (dv_bn (ex7.symm))
    refine lv_istore_n (lv' := [(1, .int x7), (0, .ref a0)]) hx hb dX12_undo_31 rfl hl (by decide) rfl (fun ls hl => ?_)
    refine lv_iconst (v := 0) hx hb dX12_undo_32 (by decide) ?_
    refine lv_istore_n (lv' := [(2, .int 0), (1, .int x7), (0, .ref a0)]) hx hb dX12_undo_33 rfl hl (by decide) rfl (fun ls hl => ?_)
    have lp34 : ∀ (n34 : Nat) (H34 : Heap) (locs : List Loc) (ls : Array Slot) (j34_2 : Int32), th_B G Γ Γ [(47, 0), (46, 0), (48, 0), (46, 33)] H0 H34 locs → th_RC G Γ H34 → lv_has ls 3 [(1, .int x7), (0, .ref a0), (2, .int j34_2)] → F = dv_lp f_X12_undo_34b (dv G Γ H34, x7.toInt, (a0 : Int), j34_2.toInt) → 0 ≤ j34_2.toInt → j34_2.toInt ≤ 29 → (∀ i : Int, mo_v G H34 a0 2 i = if 0 ≤ i ∧ i < j34_2.toInt then mo_v G H0 a0 31 (30 * (mo_f G H0 a0 33 - 1) + i) else mo_v G H0 a0 2 i) → mo_f G H34 a0 33 = mo_f G H0 a0 33 - 1 → (2147483648 : Int) - j34_2.toInt ≤ (n34 : Int) → W p l e ({ frames := 1, cells := 0, slots := 0, locals := 21 } : Room) s m ([.ref a0] : List Value).toArray below meth c H34 locs 0 0 (MQ below (th_Q (fun (v : Option Value) (H1 : Heap) => ∃ r : Int32, v = some (.int r) ∧ th_I G Γ H1 ∧ th_F G Γ [(47, 0), (46, 0), (48, 0), (46, 33)] H0 H1 ∧ th_RN a0 G Γ H1 ∧ (f_X12_undo (dv G Γ H0) (a0 : Int) = (dv G Γ H1, r.toInt))) G) ([.ref a0] : List Value).toArray s 0 0 (fun q => G.2.2 ≤ q)) (F0 m 34 ls []) := by
      intro n34
      induction n34 with
      | zero => intro H34 locs ls j34_2 hB hR hl hF g34_0 g34_1 g34_2 g34_3 hm34; exact absurd hm34 (by have := ti_hi j34_2; omega)
      | succ n34 ih34 =>
        intro H34 locs ls j34_2 hB hR hl hF g34_0 g34_1 g34_2 g34_3 hm34
        have lj34_2 := ti_lo j34_2; have uj34_2 := ti_hi j34_2
        have vw_H34_3 : mo_v G H34 a0 3 = mo_v G H0 a0 3 := mo_v_F (r := 49) hB.1 hB.2.2 h0 rfl ro_49 (by decide) (by decide)
        have vw_H34_4 : mo_v G H34 a0 4 = mo_v G H0 a0 4 := mo_v_F (r := 50) hB.1 hB.2.2 h0 rfl ro_50 (by decide) (by decide)
        have vw_H34_31 : mo_v G H34 a0 31 = mo_v G H0 a0 31 := mo_v_F (r := 61) hB.1 hB.2.2 h0 rfl ro_61 (by decide) (by decide)
        have hm34 : (2147483648 : Int) - j34_2.toInt ≤ (n34 : Int) + 1 := by omega
        replace hF := hF.trans (dv_lp_eq)
        replace hF := hF.trans (congrArg (dv_k f_X12_undo_34b) (f_X12_undo_34c.eq_1 (dv G Γ H34) (x7.toInt) ((a0 : Int)) (j34_2.toInt)))
        refine lv_iload_n hx hb dX12_undo_34 rfl (lv_at hl 2 rfl) ?_
        refine lv_bipush (v := 29) hx hb dX12_undo_35 (by decide) ?_
        refine tr_icmp_ge (tgt := 60) hx hb dX12_undo_37 (by decide) (Eq.refl _) tk_29 (fun c37 => ?_) (fun c37 => ?_)
        · replace hF := hF.trans (congrArg (dv_k f_X12_undo_34b) (if_pos c37))
          refine lv_aload_n hx hb dX12_undo_60 rfl (lv_at hl 1 rfl) ?_
          have hR : th_RN a0 G Γ H34 := ⟨hR, by rw [mo_v_F (j := 3) (r := 49) hB.1 hB.2.2 h0 rfl ro_49 (by decide) (by decide), mo_v_F (j := 4) (r := 50) hB.1 hB.2.2 h0 rfl ro_50 (by decide) (by decide), mo_v_F (j := 31) (r := 61) hB.1 hB.2.2 h0 rfl ro_61 (by decide) (by decide), show mo_f G H34 a0 33 = mo_f G H0 a0 33 - 1 by omega]; exact mo_ok_un hR0.2 (by omega) (fun i a9 b9 => by rw [g34_2 i, if_pos (by omega)]) (fun i a9 => by rw [g34_2 i, if_neg (by omega)])⟩
          refine lv_aload_n hx hb dX12_undo_61 rfl (lv_at hl 1 rfl) ?_
          refine th_getO (j := 31) (r2 := 61) hC cf_X12 hB.1 h0 ro_46 rfl rfl kf_X12_72 dX12_undo_62 (fun b8 mb8 hb8 => ?_)
          refine lv_iload_n hx hb dX12_undo_65 rfl (lv_at hl 0 rfl) ?_
          refine lv_bipush (v := 29) hx hb dX12_undo_66 (by decide) ?_
          refine tr_iadd hx hb dX12_undo_68 (Eq.refl _) tk_29 (by omega) (by omega) (fun x9 ex9 => ?_)
          replace hF := hF.trans (congrArg (dv_k f_X12_undo_34b) (dv_bn (ex9.symm)))
          refine th_ialdF hC hB.1 hb8 ro_61 rfl (Eq.refl _) (by omega) (by omega) rfl dX12_undo_69 (fun x10 mx10 lx10 ux10 => ?_)
          replace hF := hF.trans (congrArg (dv_k f_X12_undo_34b) (dv_bn (dv_aldI hB.1 hU hb8 ow_61 (z := x9.toInt) mx10 (by omega))))
          have vgx10 : mo_v G H0 a0 31 ((30 * (x1.toInt - 1)) + 29) = x10.toInt := by rw [← (mo_v_F (r := 61) hB.1 hB.2.2 h0 rfl ro_61 (by decide) (by decide) : mo_v G H34 a0 31 = _)]; rw [show (((30 * (x1.toInt - 1)) + 29) : Int) = x9.toInt by omega]; exact mo_vat mb8 mx10 (by omega)
          refine th_call (th_runV (As := [.int x10]) (rest := []) hC mf_X12_good km_X12_14 im_X12_good se_X12_good (c_X12_good l G Γ H34 hB.1 hR.1 hU a0 h0 x10) rfl rfl ⟨Nat.le_of_ble_eq_true rfl, Nat.le_of_ble_eq_true rfl⟩ hB.1 h0 ro_46 rfl rfl hl.1 rfl (Nat.le_of_ble_eq_true rfl) dX12_undo_70 ⟨Nat.le_refl _, Nat.le_refl _⟩) hB.2.1 (fun v70 H70 locs hp hz hS => ?_)
          have hRD := hR
          obtain ⟨x11, rfl, q70_0, hI1, hf, hR, z70_0⟩ := hp
          have hR := th_RN_c hR hRD hI1 h0 hf (by decide)
          have hB := th_B_c hB hI1 hS hf (by decide)
          have fv_H70_33 : mo_f G H70 a0 33 = mo_f G H34 a0 33 := mo_f_F hf h0 (by decide) (by decide)
          have vv_H70_2 : mo_v G H70 a0 2 = mo_v G H34 a0 2 := mo_v_F (r := 48) hB.1 hf h0 rfl ro_48 (by decide) (by decide)
          have vv_H70_3 : mo_v G H70 a0 3 = mo_v G H34 a0 3 := mo_v_F (r := 49) hB.1 hf h0 rfl ro_49 (by decide) (by decide)
          have vv_H70_4 : mo_v G H70 a0 4 = mo_v G H34 a0 4 := mo_v_F (r := 50) hB.1 hf h0 rfl ro_50 (by decide) (by decide)
          have vv_H70_31 : mo_v G H70 a0 31 = mo_v G H34 a0 31 := mo_v_F (r := 61) hB.1 hf h0 rfl ro_61 (by decide) (by decide)
          replace hF := hF.trans (congrArg (dv_k f_X12_undo_34b) (dv_bn2 (z70_0)))
          refine W.eq (g2 := F0 m 73 ls [.int x11]) rfl ?_
          replace hF := hF.trans (dv_kr)
          exact th_iret hC hH hr hlocks rfl hB.2.1 ⟨_, rfl, hB.1, hB.2.2, hR, (hF0.symm.trans hF)⟩ dX12_undo_73
        · replace hF := hF.trans (congrArg (dv_k f_X12_undo_34b) (if_neg (Int.not_le.mpr c37)))
          refine lv_aload_n hx hb dX12_undo_40 rfl (lv_at hl 1 rfl) ?_
          refine th_getO (j := 2) (r2 := 48) hC cf_X12 hB.1 h0 ro_46 rfl rfl kf_X12_28 dX12_undo_41 (fun b12 mb12 hb12 => ?_)
          have sb12 := (th_F_o hB.2.2 h0 ro_46 (j := 2) (by decide) (by decide)).symm.trans mb12
          refine lv_iload_n hx hb dX12_undo_44 rfl (lv_at hl 2 rfl) ?_
          refine lv_aload_n hx hb dX12_undo_45 rfl (lv_at hl 1 rfl) ?_
          refine th_getO (j := 31) (r2 := 61) hC cf_X12 hB.1 h0 ro_46 rfl rfl kf_X12_72 dX12_undo_46 (fun b13 mb13 hb13 => ?_)
          have sb13 := (th_F_o hB.2.2 h0 ro_46 (j := 31) (by decide) (by decide)).symm.trans mb13
          refine lv_iload_n hx hb dX12_undo_49 rfl (lv_at hl 0 rfl) ?_
          refine lv_iload_n hx hb dX12_undo_50 rfl (lv_at hl 2 rfl) ?_
          refine tr_iadd hx hb dX12_undo_51 (Eq.refl _) (Eq.refl _) (by omega) (by omega) (fun x14 ex14 => ?_)
          replace hF := hF.trans (congrArg (dv_k f_X12_undo_34b) (dv_bn (ex14.symm)))
          refine th_ialdF hC hB.1 hb13 ro_61 rfl (Eq.refl _) (by omega) (by omega) rfl dX12_undo_52 (fun x15 mx15 lx15 ux15 => ?_)
          replace hF := hF.trans (congrArg (dv_k f_X12_undo_34b) (dv_bn (dv_aldI hB.1 hU hb13 ow_61 (z := x14.toInt) mx15 (by omega))))
          have vgx15 : mo_v G H0 a0 31 ((30 * (x1.toInt - 1)) + j34_2.toInt) = x15.toInt := by rw [← (mo_v_F (r := 61) hB.1 hB.2.2 h0 rfl ro_61 (by decide) (by decide) : mo_v G H34 a0 31 = _)]; rw [show (((30 * (x1.toInt - 1)) + j34_2.toInt) : Int) = x14.toInt by omega]; exact mo_vat mb13 mx15 (by omega)
          have hIo := hB.1
          refine th_iastF hC hB hb12 (Or.inl hb12) ro_48 rfl (by decide) (Eq.refl _) (by omega) (by omega) (by rw [(ek_a (by omega) (by omega))]; exact th_sIa) dX12_undo_53 (fun H53 locs hB hf53 hst53 => ?_)
          have hf := hf53
          have mm16 := (th_F_o hf h0 ro_46 (j := 2) (by decide) (by decide)).trans mb12
          have mm17 := (th_F_o hf h0 ro_46 (j := 31) (by decide) (by decide)).trans mb13
          have hR := th_RC_F hB.1 hR hf (th_T_s hb12 ro_48 hst53) (by decide)
          have fv_H53_33 : mo_f G H53 a0 33 = mo_f G H34 a0 33 := mo_f_F hf h0 (by decide) (by decide)
          have vv_H53_3 : mo_v G H53 a0 3 = mo_v G H34 a0 3 := mo_v_F (r := 49) hB.1 hf h0 rfl ro_49 (by decide) (by decide)
          have vv_H53_4 : mo_v G H53 a0 4 = mo_v G H34 a0 4 := mo_v_F (r := 50) hB.1 hf h0 rfl ro_50 (by decide) (by decide)
          have vv_H53_31 : mo_v G H53 a0 31 = mo_v G H34 a0 31 := mo_v_F (r := 61) hB.1 hf h0 rfl ro_61 (by decide) (by decide)
          replace hF := hF.trans (congrArg (dv_k f_X12_undo_34b) (dv_bn (dv_stoI hIo hB.1 hU hb12 ow_48 (i := j34_2.toInt) hst53 (Eq.refl _) (by omega))))
          have vs53 : mo_v G H53 a0 2 = mo_u (mo_v G H34 a0 2) j34_2.toInt x15.toInt := by rw [show (j34_2.toInt : Int) = j34_2.toInt by omega]; exact mo_v_st h0 hb12 (by decide) mb12 hst53 (by omega)
          refine tr_iinc (fun x18 => [(2, .int x18), (1, .int x7), (0, .ref a0)]) hx hb dX12_undo_54 hl (k := 2) rfl (Eq.refl _) tk_1 (by omega) (by omega) (by decide) (fun _ => rfl) (fun x18 ls ex18 hl => ?_)
          replace hF := hF.trans (congrArg (dv_k f_X12_undo_34b) (dv_bn (ex18.symm)))
          refine lv_goto (tgt := 34) hx hb dX12_undo_57 (by decide) ?_
          replace hF := hF.trans (dv_kl)
          exact ih34 H53 locs ls x18 hB hR (lv_sub hl [1, 2, 0] rfl) hF (by omega) (by omega) (fun i => by rw [vs53]; by_cases q9 : i = j34_2.toInt; rw [mo_us q9, if_pos (by omega), q9, ← vgx15]; congr 1; omega; rw [mo_un q9, g34_2]; by_cases q8 : 0 ≤ i ∧ i < j34_2.toInt; rw [if_pos q8, if_pos (by omega)]; rw [if_neg q8, if_neg (by omega)]) (by omega) (by omega)
    exact lp34 ((2147483648 : Int) - (0)).toNat H21 locs ls 0 hB hR (lv_sub hl [1, 2, 0] rfl) (by rw [tk_0]; exact hF) (by decide) (by decide) (fun i => by rw [vv_H21_2, if_neg (by have w0 := tk_0; omega)]) (by have w0 := tk_0; omega) (by have w0 := tk_0; omega)
  · replace hF := hF.trans (if_neg (not_not_intro c4))
    refine lv_aload_n hx hb dX12_undo_7 rfl (lv_at hl 0 rfl) ?_
    refine lv_bipush (v := (-3)) hx hb dX12_undo_8 (by decide) ?_
    refine th_call (th_runV (As := [.int (-3)]) (rest := []) hC mf_X12_refuses km_X12_109 im_X12_refuses se_X12_refuses (c_X12_refuses l G Γ H0 hB.1 hR.1 hU a0 h0 (-3) (by decide) (by decide)) rfl rfl ⟨Nat.le_of_ble_eq_true rfl, Nat.le_of_ble_eq_true rfl⟩ hB.1 h0 ro_46 rfl rfl hl.1 rfl (Nat.le_of_ble_eq_true rfl) dX12_undo_10 ⟨Nat.le_refl _, Nat.le_refl _⟩) hB.2.1 (fun v10 H10 locs hp hz hS => ?_)
    have hRD := hR
    obtain ⟨x19, rfl, q10_0, hI1, hf, hR, z10_0⟩ := hp
    have hR := th_RN_c hR hRD hI1 h0 hf (by decide)
    have hB := th_B_c hB hI1 hS hf (by decide)
    have mm20 := (th_F_o hf h0 ro_46 (j := 33) (by decide) (by decide)).trans mx1
    have fv_H10_33 : mo_f G H10 a0 33 = mo_f G H0 a0 33 := mo_f_F hf h0 (by decide) (by decide)
    have vv_H10_2 : mo_v G H10 a0 2 = mo_v G H0 a0 2 := mo_v_F (r := 48) hB.1 hf h0 rfl ro_48 (by decide) (by decide)
    have vv_H10_3 : mo_v G H10 a0 3 = mo_v G H0 a0 3 := mo_v_F (r := 49) hB.1 hf h0 rfl ro_49 (by decide) (by decide)
    have vv_H10_4 : mo_v G H10 a0 4 = mo_v G H0 a0 4 := mo_v_F (r := 50) hB.1 hf h0 rfl ro_50 (by decide) (by decide)
    have vv_H10_31 : mo_v G H10 a0 31 = mo_v G H0 a0 31 := mo_v_F (r := 61) hB.1 hf h0 rfl ro_61 (by decide) (by decide)
    have w10_0 := tk_m3
    have zf10 := z10_0
    rw [tk_m3] at zf10
    replace hF := hF.trans (dv_bn2 (zf10))
    refine W.eq (g2 := F0 m 13 ls [.int x19]) rfl ?_
    exact th_iret hC hH hr hlocks rfl hB.2.1 ⟨_, rfl, hB.1, hB.2.2, hR, (hF0.symm.trans hF)⟩ dX12_undo_13

set_option maxHeartbeats 4000000 in
set_option maxRecDepth 100000 in
theorem c_X12_laysKept (l : Launch) (G : th_G) (Γ : th_Ga) (H0 : Heap) (hI : th_I G Γ H0) (hU : dv_U Γ) (a0 : Nat) (h0 : Γ a0 = (46, 0)) (hR : th_RN a0 G Γ H0) (p1 : Int32) (p2 : Int32) (p3 : Int32) : Met l yX12_laysKept (.code yX12_laysKept cX12_laysKept 4 (some FieldType.int) :: th_tb) ({ frames := 53, cells := 0, slots := 0, locals := 1674 } : Room) (th_P [.ref a0, .int p1, .int p2, .int p3] G H0) (th_Q (fun (v : Option Value) (H1 : Heap) => ∃ r : Int32, v = some (.int r) ∧ (-3) ≤ r.toInt ∧ r.toInt ≤ 99 ∧ th_I G Γ H1 ∧ th_F G Γ [(48, 0), (61, 0), (46, 33), (46, 22), (46, 24), (58, 0), (46, 23), (46, 25), (59, 0)] H0 H1 ∧ th_RN a0 G Γ H1 ∧ (∀ z : Int, 29 ≤ z → mo_v G H1 a0 2 z = mo_v G H0 a0 2 z) ∧ (f_X12_laysKept (dv G Γ H0) (a0 : Int) p1.toInt p2.toInt p3.toInt = (dv G Γ H1, r.toInt))) G) 0 0 (fun q => G.2.2 ≤ q) := by
  refine th_met RX12 (by decide) rfl (Nat.le_of_ble_eq_true rfl) ?_
  intro p e s m below meth c hC hH hr hlocks hnm ls hl
  have hx := hC.1
  have hb := hC.2.1
  have hB : th_B G Γ Γ [(48, 0), (61, 0), (46, 33), (46, 22), (46, 24), (58, 0), (46, 23), (46, 25), (59, 0)] H0 H0 [] := ⟨hI, va_S.rf, th_F_rf⟩
  have hl : lv_has ls 4 [(0, .ref a0), (1, .int p1), (2, .int p2), (3, .int p3)] := hl
  have lp1 := ti_lo p1; have up1 := ti_hi p1
  have lp2 := ti_lo p2; have up2 := ti_hi p2
  have lp3 := ti_lo p3; have up3 := ti_hi p3
  obtain ⟨F, hF0⟩ : ∃ F, F = f_X12_laysKept (dv G Γ H0) ((a0 : Int)) (p1.toInt) (p2.toInt) (p3.toInt) := ⟨_, rfl⟩
  have hF := hF0.trans (f_X12_laysKept.eq_1 (dv G Γ H0) ((a0 : Int)) (p1.toInt) (p2.toInt) (p3.toInt))
  refine lv_iload_n hx hb dX12_laysKept_0 rfl (lv_at hl 2 rfl) ?_
  refine th_call (th_runS (As := [.int p2]) (rest := []) hC mf_X12_isAlong km_X12_149 st_X12_isAlong (c_X12_isAlong l G Γ H0 hB.1 hU p2) rfl rfl ⟨Nat.le_of_ble_eq_true rfl, Nat.le_of_ble_eq_true rfl⟩ rfl hl.1 rfl (Nat.le_of_ble_eq_true rfl) dX12_laysKept_1 ⟨Nat.le_refl _, Nat.le_refl _⟩) hB.2.1 (fun v1 H1 locs hp hz hS => ?_)
  obtain ⟨x1, rfl, lx1, ux1, q1_0, q1_1, rfl⟩ := hp
  have hB := th_B_s hB hS
  replace hF := hF.trans (dv_bn2 (q1_1))
  refine W.eq (g2 := F0 m 4 ls [.int x1]) rfl ?_
  refine tr_if_eq (tgt := 14) hx hb dX12_laysKept_4 (by decide) (Eq.refl _) (fun c4 => ?_) (fun c4 => ?_)
  · replace hF := hF.trans (if_pos c4)
    refine lv_iconst (v := (-1)) hx hb dX12_laysKept_14 (by decide) ?_
    exact th_iret hC hH hr hlocks rfl hB.2.1 ⟨_, rfl, by decide, by decide, hB.1, hB.2.2, hR, fun z a9 => rfl, (hF0.symm.trans (hF.trans (by rw [tk_m1])))⟩ dX12_laysKept_15
  · replace hF := hF.trans (if_neg c4)
    refine lv_iload_n hx hb dX12_laysKept_7 rfl (lv_at hl 3 rfl) ?_
    refine th_call (th_runS (As := [.int p3]) (rest := []) hC mf_X12_isAlong km_X12_149 st_X12_isAlong (c_X12_isAlong l G Γ H0 hB.1 hU p3) rfl rfl ⟨Nat.le_of_ble_eq_true rfl, Nat.le_of_ble_eq_true rfl⟩ rfl hl.1 rfl (Nat.le_of_ble_eq_true rfl) dX12_laysKept_8 ⟨Nat.le_refl _, Nat.le_refl _⟩) hB.2.1 (fun v8 H8 locs hp hz hS => ?_)
    obtain ⟨x2, rfl, lx2, ux2, q8_0, q8_1, rfl⟩ := hp
    have hB := th_B_s hB hS
    replace hF := hF.trans (dv_bn2 (q8_1))
    refine W.eq (g2 := F0 m 11 ls [.int x2]) rfl ?_
    refine tr_if_ne (tgt := 16) hx hb dX12_laysKept_11 (by decide) (Eq.refl _) (fun c11 => ?_) (fun c11 => ?_)
    · replace hF := hF.trans (if_pos c11)
      refine lv_aload_n hx hb dX12_laysKept_16 rfl (lv_at hl 0 rfl) ?_
      refine lv_iload_n hx hb dX12_laysKept_17 rfl (lv_at hl 1 rfl) ?_
      refine th_call (th_runV (As := [.int p1]) (rest := []) hC mf_X12_isCarpet km_X12_134 im_X12_isCarpet se_X12_isCarpet (c_X12_isCarpet l G Γ H0 hB.1 hU a0 h0 p1) rfl rfl ⟨Nat.le_of_ble_eq_true rfl, Nat.le_of_ble_eq_true rfl⟩ hB.1 h0 ro_46 rfl rfl hl.1 rfl (Nat.le_of_ble_eq_true rfl) dX12_laysKept_18 ⟨Nat.le_refl _, Nat.le_refl _⟩) hB.2.1 (fun v18 H18 locs hp hz hS => ?_)
      obtain ⟨x3, rfl, lx3, ux3, q18_0, q18_1, rfl⟩ := hp
      have hB := th_B_s hB hS
      replace hF := hF.trans (dv_bn2 (q18_1))
      refine W.eq (g2 := F0 m 21 ls [.int x3]) rfl ?_
      refine tr_if_ne (tgt := 27) hx hb dX12_laysKept_21 (by decide) (Eq.refl _) (fun c21 => ?_) (fun c21 => ?_)
      · replace hF := hF.trans (if_pos c21)
        refine lv_aload_n hx hb dX12_laysKept_27 rfl (lv_at hl 0 rfl) ?_
        refine lv_iload_n hx hb dX12_laysKept_28 rfl (lv_at hl 1 rfl) ?_
        refine lv_iload_n hx hb dX12_laysKept_29 rfl (lv_at hl 2 rfl) ?_
        refine lv_iload_n hx hb dX12_laysKept_30 rfl (lv_at hl 3 rfl) ?_
        refine th_call (th_runV (As := [.int p1, .int p2, .int p3]) (rest := []) hC mf_X12_canLay km_X12_159 im_X12_canLay se_X12_canLay (c_X12_canLay l G Γ H0 hB.1 hU a0 h0 (th_NK hR) p1 (by omega) (by omega) p2 (by omega) (by omega) p3 (by omega) (by omega) (by omega)) rfl rfl ⟨Nat.le_of_ble_eq_true rfl, Nat.le_of_ble_eq_true rfl⟩ hB.1 h0 ro_46 rfl rfl hl.1 rfl (Nat.le_of_ble_eq_true rfl) dX12_laysKept_31 ⟨Nat.le_refl _, Nat.le_refl _⟩) hB.2.1 (fun v31 H31 locs hp hz hS => ?_)
        have hRD := hR
        obtain ⟨x4, rfl, lx4, ux4, q31_0, hI1, hf, hR, z31_0⟩ := hp
        have hR := th_RN_c hR.1 hRD hI1 h0 hf (by decide)
        have hB := th_B_c hB hI1 hS hf (by decide)
        have fv_H31_33 : mo_f G H31 a0 33 = mo_f G H0 a0 33 := mo_f_F hf h0 (by decide) (by decide)
        have vv_H31_2 : mo_v G H31 a0 2 = mo_v G H0 a0 2 := mo_v_F (r := 48) hB.1 hf h0 rfl ro_48 (by decide) (by decide)
        have vv_H31_3 : mo_v G H31 a0 3 = mo_v G H0 a0 3 := mo_v_F (r := 49) hB.1 hf h0 rfl ro_49 (by decide) (by decide)
        have vv_H31_4 : mo_v G H31 a0 4 = mo_v G H0 a0 4 := mo_v_F (r := 50) hB.1 hf h0 rfl ro_50 (by decide) (by decide)
        have vv_H31_31 : mo_v G H31 a0 31 = mo_v G H0 a0 31 := mo_v_F (r := 61) hB.1 hf h0 rfl ro_61 (by decide) (by decide)
        replace hF := hF.trans (dv_bn2 (z31_0))
        refine W.eq (g2 := F0 m 34 ls [.int x4]) rfl ?_
        refine tr_if_ne (tgt := 40) hx hb dX12_laysKept_34 (by decide) (Eq.refl _) (fun c34 => ?_) (fun c34 => ?_)
        · replace hF := hF.trans (if_pos c34)
          refine lv_aload_n hx hb dX12_laysKept_40 rfl (lv_at hl 0 rfl) ?_
          refine lv_iconst (v := 0) hx hb dX12_laysKept_41 (by decide) ?_
          refine th_call (th_runV (As := [.int 0]) (rest := []) hC mf_X12_keeps km_X12_370 im_X12_keeps se_X12_keeps (c_X12_keeps l G Γ H31 hB.1 hU a0 h0 (th_NK hR) 0) rfl rfl ⟨Nat.le_of_ble_eq_true rfl, Nat.le_of_ble_eq_true rfl⟩ hB.1 h0 ro_46 rfl rfl hl.1 rfl (Nat.le_of_ble_eq_true rfl) dX12_laysKept_42 ⟨Nat.le_refl _, Nat.le_refl _⟩) hB.2.1 (fun v42 H42 locs hp hz hS => ?_)
          have hRD := hR
          obtain ⟨rfl, hI1, hf, hR, z42_0, z42_1⟩ := hp
          have hRc42 := hR
          have hR := hRD
          have hRC := hRc42.1
          have hB := th_B_c hB hI1 hS hf (by decide)
          have vv_H42_2 : mo_v G H42 a0 2 = mo_v G H31 a0 2 := mo_v_F (r := 48) hB.1 hf h0 rfl ro_48 (by decide) (by decide)
          have vv_H42_3 : mo_v G H42 a0 3 = mo_v G H31 a0 3 := mo_v_F (r := 49) hB.1 hf h0 rfl ro_49 (by decide) (by decide)
          have vv_H42_4 : mo_v G H42 a0 4 = mo_v G H31 a0 4 := mo_v_F (r := 50) hB.1 hf h0 rfl ro_50 (by decide) (by decide)
          have zf42 := z42_1
          rw [tk_0] at zf42
          replace hF := hF.trans (dv_bn2 (zf42))
          refine W.eq (g2 := F0 m 45 ls []) rfl ?_
          have hR : th_RN a0 G Γ H42 := ⟨hRC, by rw [vv_H42_2, vv_H42_3, vv_H42_4]; exact mo_ok_kp hR.2 z42_0⟩
          refine lv_aload_n hx hb dX12_laysKept_45 rfl (lv_at hl 0 rfl) ?_
          refine lv_iload_n hx hb dX12_laysKept_46 rfl (lv_at hl 1 rfl) ?_
          refine lv_iload_n hx hb dX12_laysKept_47 rfl (lv_at hl 2 rfl) ?_
          refine lv_iload_n hx hb dX12_laysKept_48 rfl (lv_at hl 3 rfl) ?_
          refine th_call (th_runV (As := [.int p1, .int p2, .int p3]) (rest := []) hC mf_X12_laysAt km_X12_373 im_X12_laysAt se_X12_laysAt (c_X12_laysAt l G Γ H42 hB.1 hU a0 h0 (th_NE hR) p1 (by omega) (by omega) p2 p3) rfl rfl ⟨Nat.le_of_ble_eq_true rfl, Nat.le_of_ble_eq_true rfl⟩ hB.1 h0 ro_46 rfl rfl hl.1 rfl (Nat.le_of_ble_eq_true rfl) dX12_laysKept_49 ⟨Nat.le_refl _, Nat.le_refl _⟩) hB.2.1 (fun v49 H49 locs hp hz hS => ?_)
          have hRD := hR
          obtain ⟨x5, rfl, lx5, ux5, hI1, hf, hR, z49_0, z49_1⟩ := hp
          have hRc49 := hR
          have hR := hRD
          have hRC := hRc49.1
          have hB := th_B_c hB hI1 hS hf (by decide)
          have fv_H49_33 : mo_f G H49 a0 33 = mo_f G H42 a0 33 := mo_f_F hf h0 (by decide) (by decide)
          have vv_H49_3 : mo_v G H49 a0 3 = mo_v G H42 a0 3 := mo_v_F (r := 49) hB.1 hf h0 rfl ro_49 (by decide) (by decide)
          have vv_H49_4 : mo_v G H49 a0 4 = mo_v G H42 a0 4 := mo_v_F (r := 50) hB.1 hf h0 rfl ro_50 (by decide) (by decide)
          have vv_H49_31 : mo_v G H49 a0 31 = mo_v G H42 a0 31 := mo_v_F (r := 61) hB.1 hf h0 rfl ro_61 (by decide) (by decide)
          replace hF := hF.trans (dv_bn2 (z49_1))
          refine W.eq (g2 := F0 m 52 ls [.int x5]) rfl ?_
          have fr := q31_0 (by omega)
          rw [← vv_H31_2, ← vv_H42_2] at fr
          have m42 : p1.toInt < mo_v G H42 a0 2 69 := by rw [vv_H42_2, vv_H31_2]; omega
          have hR : th_RN a0 G Γ H49 := ⟨hRC, by rw [vv_H49_3, vv_H49_4, vv_H49_31, fv_H49_33]; exact mo_ok_29 hR.2 (fun i hi => by rw [z49_0 i (by omega), mo_un (by omega), mo_un (by omega)]) (mo_geo_lay hR.2.1.2.1 (by omega) m42 (hR.2.1.2.2.2.2 p1.toInt (by omega) m42) fr.1 (by omega) (by omega) fr.2 z49_0)⟩
          exact th_iret hC hH hr hlocks rfl hB.2.1 ⟨_, rfl, by omega, by omega, hB.1, hB.2.2, hR, fun z a9 => by rw [z49_0 z (by omega), mo_un (by omega), mo_un (by omega), vv_H42_2, vv_H31_2], (hF0.symm.trans hF)⟩ dX12_laysKept_52
        · replace hF := hF.trans (if_neg (not_not_intro c34))
          refine lv_bipush (v := (-3)) hx hb dX12_laysKept_37 (by decide) ?_
          exact th_iret hC hH hr hlocks rfl hB.2.1 ⟨_, rfl, by decide, by decide, hB.1, hB.2.2, hR, fun z a9 => by rw [vv_H31_2], (hF0.symm.trans (hF.trans (by rw [tk_m3])))⟩ dX12_laysKept_39
      · replace hF := hF.trans (if_neg (not_not_intro c21))
        refine lv_bipush (v := (-2)) hx hb dX12_laysKept_24 (by decide) ?_
        exact th_iret hC hH hr hlocks rfl hB.2.1 ⟨_, rfl, by decide, by decide, hB.1, hB.2.2, hR, fun z a9 => rfl, (hF0.symm.trans (hF.trans (by rw [tk_m2])))⟩ dX12_laysKept_26
    · replace hF := hF.trans (if_neg (not_not_intro c11))
      refine lv_iconst (v := (-1)) hx hb dX12_laysKept_14 (by decide) ?_
      exact th_iret hC hH hr hlocks rfl hB.2.1 ⟨_, rfl, by decide, by decide, hB.1, hB.2.2, hR, fun z a9 => rfl, (hF0.symm.trans (hF.trans (by rw [tk_m1])))⟩ dX12_laysKept_15

set_option maxHeartbeats 4000000 in
set_option maxRecDepth 100000 in
theorem c_X12_rollsKept (l : Launch) (G : th_G) (Γ : th_Ga) (H0 : Heap) (hI : th_I G Γ H0) (hU : dv_U Γ) (a0 : Nat) (h0 : Γ a0 = (46, 0)) (hR : th_RN a0 G Γ H0) (p1 : Int32) : Met l yX12_rollsKept (.code yX12_rollsKept cX12_rollsKept 2 (some FieldType.int) :: th_tb) ({ frames := 2, cells := 0, slots := 0, locals := 43 } : Room) (th_P [.ref a0, .int p1] G H0) (th_Q (fun (v : Option Value) (H1 : Heap) => ∃ r : Int32, v = some (.int r) ∧ (-3) ≤ r.toInt ∧ r.toInt ≤ 144 ∧ th_I G Γ H1 ∧ th_F G Γ [(48, 0), (61, 0), (46, 33)] H0 H1 ∧ th_RN a0 G Γ H1 ∧ (∀ z : Int, 29 ≤ z → mo_v G H1 a0 2 z = mo_v G H0 a0 2 z) ∧ (f_X12_rollsKept (dv G Γ H0) (a0 : Int) p1.toInt = (dv G Γ H1, r.toInt))) G) 0 0 (fun q => G.2.2 ≤ q) := by
  refine th_met RX12 (by decide) rfl (Nat.le_of_ble_eq_true rfl) ?_
  intro p e s m below meth c hC hH hr hlocks hnm ls hl
  have hx := hC.1
  have hb := hC.2.1
  have hB : th_B G Γ Γ [(48, 0), (61, 0), (46, 33)] H0 H0 [] := ⟨hI, va_S.rf, th_F_rf⟩
  have hl : lv_has ls 2 [(0, .ref a0), (1, .int p1)] := hl
  have lp1 := ti_lo p1; have up1 := ti_hi p1
  obtain ⟨F, hF0⟩ : ∃ F, F = f_X12_rollsKept (dv G Γ H0) ((a0 : Int)) (p1.toInt) := ⟨_, rfl⟩
  have hF := hF0.trans (f_X12_rollsKept.eq_1 (dv G Γ H0) ((a0 : Int)) (p1.toInt))
  refine lv_aload_n hx hb dX12_rollsKept_0 rfl (lv_at hl 0 rfl) ?_
  refine lv_iload_n hx hb dX12_rollsKept_1 rfl (lv_at hl 1 rfl) ?_
  refine th_call (th_runV (As := [.int p1]) (rest := []) hC mf_X12_isCarpet km_X12_134 im_X12_isCarpet se_X12_isCarpet (c_X12_isCarpet l G Γ H0 hB.1 hU a0 h0 p1) rfl rfl ⟨Nat.le_of_ble_eq_true rfl, Nat.le_of_ble_eq_true rfl⟩ hB.1 h0 ro_46 rfl rfl hl.1 rfl (Nat.le_of_ble_eq_true rfl) dX12_rollsKept_2 ⟨Nat.le_refl _, Nat.le_refl _⟩) hB.2.1 (fun v2 H2 locs hp hz hS => ?_)
  obtain ⟨x1, rfl, lx1, ux1, q2_0, q2_1, rfl⟩ := hp
  have hB := th_B_s hB hS
  replace hF := hF.trans (dv_bn2 (q2_1))
  refine W.eq (g2 := F0 m 5 ls [.int x1]) rfl ?_
  refine tr_if_ne (tgt := 11) hx hb dX12_rollsKept_5 (by decide) (Eq.refl _) (fun c5 => ?_) (fun c5 => ?_)
  · replace hF := hF.trans (if_pos c5)
    refine lv_aload_n hx hb dX12_rollsKept_11 rfl (lv_at hl 0 rfl) ?_
    refine lv_iload_n hx hb dX12_rollsKept_12 rfl (lv_at hl 1 rfl) ?_
    refine th_call (th_runV (As := [.int p1]) (rest := []) hC mf_X12_isLaid km_X12_137 im_X12_isLaid se_X12_isLaid (c_X12_isLaid l G Γ H0 hB.1 hU a0 h0 p1 (by omega) (by omega)) rfl rfl ⟨Nat.le_of_ble_eq_true rfl, Nat.le_of_ble_eq_true rfl⟩ hB.1 h0 ro_46 rfl rfl hl.1 rfl (Nat.le_of_ble_eq_true rfl) dX12_rollsKept_13 ⟨Nat.le_refl _, Nat.le_refl _⟩) hB.2.1 (fun v13 H13 locs hp hz hS => ?_)
    obtain ⟨x2, rfl, lx2, ux2, q13_0, q13_1, q13_2, rfl⟩ := hp
    have hB := th_B_s hB hS
    replace hF := hF.trans (dv_bn2 (q13_2))
    refine W.eq (g2 := F0 m 16 ls [.int x2]) rfl ?_
    refine tr_if_ne (tgt := 22) hx hb dX12_rollsKept_16 (by decide) (Eq.refl _) (fun c16 => ?_) (fun c16 => ?_)
    · replace hF := hF.trans (if_pos c16)
      refine lv_aload_n hx hb dX12_rollsKept_22 rfl (lv_at hl 0 rfl) ?_
      refine lv_iconst (v := 1) hx hb dX12_rollsKept_23 (by decide) ?_
      refine th_call (th_runV (As := [.int 1]) (rest := []) hC mf_X12_keeps km_X12_370 im_X12_keeps se_X12_keeps (c_X12_keeps l G Γ H0 hB.1 hU a0 h0 (th_NK hR) 1) rfl rfl ⟨Nat.le_of_ble_eq_true rfl, Nat.le_of_ble_eq_true rfl⟩ hB.1 h0 ro_46 rfl rfl hl.1 rfl (Nat.le_of_ble_eq_true rfl) dX12_rollsKept_24 ⟨Nat.le_refl _, Nat.le_refl _⟩) hB.2.1 (fun v24 H24 locs hp hz hS => ?_)
      have hRD := hR
      obtain ⟨rfl, hI1, hf, hR, z24_0, z24_1⟩ := hp
      have hRc24 := hR
      have hR := hRD
      have hRC := hRc24.1
      have hB := th_B_c hB hI1 hS hf (by decide)
      have vv_H24_2 : mo_v G H24 a0 2 = mo_v G H0 a0 2 := mo_v_F (r := 48) hB.1 hf h0 rfl ro_48 (by decide) (by decide)
      have vv_H24_3 : mo_v G H24 a0 3 = mo_v G H0 a0 3 := mo_v_F (r := 49) hB.1 hf h0 rfl ro_49 (by decide) (by decide)
      have vv_H24_4 : mo_v G H24 a0 4 = mo_v G H0 a0 4 := mo_v_F (r := 50) hB.1 hf h0 rfl ro_50 (by decide) (by decide)
      have zf24 := z24_1
      rw [tk_1] at zf24
      replace hF := hF.trans (dv_bn2 (zf24))
      refine W.eq (g2 := F0 m 27 ls []) rfl ?_
      have hR : th_RN a0 G Γ H24 := ⟨hRC, by rw [vv_H24_2, vv_H24_3, vv_H24_4]; exact mo_ok_kp hR.2 z24_0⟩
      refine lv_aload_n hx hb dX12_rollsKept_27 rfl (lv_at hl 0 rfl) ?_
      refine lv_iload_n hx hb dX12_rollsKept_28 rfl (lv_at hl 1 rfl) ?_
      refine th_call (th_runV (As := [.int p1]) (rest := []) hC mf_X12_rolls km_X12_123 im_X12_rolls se_X12_rolls (c_X12_rolls l G Γ H24 hB.1 hU a0 h0 (th_NE hR) p1 (by omega) (by omega)) rfl rfl ⟨Nat.le_of_ble_eq_true rfl, Nat.le_of_ble_eq_true rfl⟩ hB.1 h0 ro_46 rfl rfl hl.1 rfl (Nat.le_of_ble_eq_true rfl) dX12_rollsKept_29 ⟨Nat.le_refl _, Nat.le_refl _⟩) hB.2.1 (fun v29 H29 locs hp hz hS => ?_)
      have hRD := hR
      obtain ⟨rfl, hI1, hf, hR, z29_0, z29_1⟩ := hp
      have hRc29 := hR
      have hR := hRD
      have hRC := hRc29.1
      have hB := th_B_c hB hI1 hS hf (by decide)
      have fv_H29_33 : mo_f G H29 a0 33 = mo_f G H24 a0 33 := mo_f_F hf h0 (by decide) (by decide)
      have vv_H29_3 : mo_v G H29 a0 3 = mo_v G H24 a0 3 := mo_v_F (r := 49) hB.1 hf h0 rfl ro_49 (by decide) (by decide)
      have vv_H29_4 : mo_v G H29 a0 4 = mo_v G H24 a0 4 := mo_v_F (r := 50) hB.1 hf h0 rfl ro_50 (by decide) (by decide)
      have vv_H29_31 : mo_v G H29 a0 31 = mo_v G H24 a0 31 := mo_v_F (r := 61) hB.1 hf h0 rfl ro_61 (by decide) (by decide)
      replace hF := hF.trans (dv_bn2 (z29_1))
      refine W.eq (g2 := F0 m 32 ls []) rfl ?_
      have hR : th_RN a0 G Γ H29 := ⟨hRC, by rw [z29_0, vv_H29_3, vv_H29_4, vv_H29_31, fv_H29_33]; exact mo_ok_sb hR.2 (mo_sb_ro mo_sb_rf (by omega) (by omega))⟩
      refine lv_aload_n hx hb dX12_rollsKept_32 rfl (lv_at hl 0 rfl) ?_
      refine th_call (th_runV (As := []) (rest := []) hC mf_X12_bareMany km_X12_323 im_X12_bareMany se_X12_bareMany (c_X12_bareMany l G Γ H29 hB.1 hU a0 h0) rfl rfl ⟨Nat.le_of_ble_eq_true rfl, Nat.le_of_ble_eq_true rfl⟩ hB.1 h0 ro_46 rfl rfl hl.1 rfl (Nat.le_of_ble_eq_true rfl) dX12_rollsKept_33 ⟨Nat.le_refl _, Nat.le_refl _⟩) hB.2.1 (fun v33 H33 locs hp hz hS => ?_)
      obtain ⟨x3, rfl, lx3, ux3, q33_0, q33_1, rfl⟩ := hp
      have hB := th_B_s hB hS
      replace hF := hF.trans (dv_bn2 (q33_1))
      refine W.eq (g2 := F0 m 36 ls [.int x3]) rfl ?_
      have b0 := mo_bare hR.2.1 (mo_many hB.1 h0).1 q33_0
      exact th_iret hC hH hr hlocks rfl hB.2.1 ⟨_, rfl, by omega, by omega, hB.1, hB.2.2, hR, fun z a9 => by rw [z29_0, mo_un (by omega), mo_un (by omega), vv_H24_2], (hF0.symm.trans hF)⟩ dX12_rollsKept_36
    · replace hF := hF.trans (if_neg (not_not_intro c16))
      refine lv_bipush (v := (-3)) hx hb dX12_rollsKept_19 (by decide) ?_
      exact th_iret hC hH hr hlocks rfl hB.2.1 ⟨_, rfl, by decide, by decide, hB.1, hB.2.2, hR, fun z a9 => rfl, (hF0.symm.trans (hF.trans (by rw [tk_m3])))⟩ dX12_rollsKept_21
  · replace hF := hF.trans (if_neg (not_not_intro c5))
    refine lv_bipush (v := (-2)) hx hb dX12_rollsKept_8 (by decide) ?_
    exact th_iret hC hH hr hlocks rfl hB.2.1 ⟨_, rfl, by decide, by decide, hB.1, hB.2.2, hR, fun z a9 => rfl, (hF0.symm.trans (hF.trans (by rw [tk_m2])))⟩ dX12_rollsKept_10

set_option maxHeartbeats 4000000 in
set_option maxRecDepth 100000 in
theorem c_X12_mirrorsKept (l : Launch) (G : th_G) (Γ : th_Ga) (H0 : Heap) (hI : th_I G Γ H0) (hU : dv_U Γ) (a0 : Nat) (h0 : Γ a0 = (46, 0)) (hR : th_RN a0 G Γ H0) : Met l yX12_mirrorsKept (.code yX12_mirrorsKept cX12_mirrorsKept 2 (some FieldType.int) :: th_tb) ({ frames := 2, cells := 0, slots := 0, locals := 43 } : Room) (th_P [.ref a0] G H0) (th_Q (fun (v : Option Value) (H1 : Heap) => ∃ r : Int32, v = some (.int r) ∧ 0 ≤ r.toInt ∧ r.toInt ≤ 9 ∧ th_I G Γ H1 ∧ th_F G Γ [(48, 0), (61, 0), (46, 33)] H0 H1 ∧ th_RN a0 G Γ H1 ∧ (∀ z : Int, 29 ≤ z → mo_v G H1 a0 2 z = mo_v G H0 a0 2 z) ∧ (f_X12_mirrorsKept (dv G Γ H0) (a0 : Int) = (dv G Γ H1, r.toInt))) G) 0 0 (fun q => G.2.2 ≤ q) := by
  refine th_met RX12 (by decide) rfl (Nat.le_of_ble_eq_true rfl) ?_
  intro p e s m below meth c hC hH hr hlocks hnm ls hl
  have hx := hC.1
  have hb := hC.2.1
  have hB : th_B G Γ Γ [(48, 0), (61, 0), (46, 33)] H0 H0 [] := ⟨hI, va_S.rf, th_F_rf⟩
  have hl : lv_has ls 2 [(0, .ref a0)] := hl
  obtain ⟨F, hF0⟩ : ∃ F, F = f_X12_mirrorsKept (dv G Γ H0) ((a0 : Int)) := ⟨_, rfl⟩
  have hF := hF0.trans (f_X12_mirrorsKept.eq_1 (dv G Γ H0) ((a0 : Int)))
  refine lv_aload_n hx hb dX12_mirrorsKept_0 rfl (lv_at hl 0 rfl) ?_
  refine lv_iconst (v := 2) hx hb dX12_mirrorsKept_1 (by decide) ?_
  refine th_call (th_runV (As := [.int 2]) (rest := []) hC mf_X12_keeps km_X12_370 im_X12_keeps se_X12_keeps (c_X12_keeps l G Γ H0 hB.1 hU a0 h0 (th_NK hR) 2) rfl rfl ⟨Nat.le_of_ble_eq_true rfl, Nat.le_of_ble_eq_true rfl⟩ hB.1 h0 ro_46 rfl rfl hl.1 rfl (Nat.le_of_ble_eq_true rfl) dX12_mirrorsKept_2 ⟨Nat.le_refl _, Nat.le_refl _⟩) hB.2.1 (fun v2 H2 locs hp hz hS => ?_)
  have hRD := hR
  obtain ⟨rfl, hI1, hf, hR, z2_0, z2_1⟩ := hp
  have hRc2 := hR
  have hR := hRD
  have hRC := hRc2.1
  have hB := th_B_c hB hI1 hS hf (by decide)
  have vv_H2_2 : mo_v G H2 a0 2 = mo_v G H0 a0 2 := mo_v_F (r := 48) hB.1 hf h0 rfl ro_48 (by decide) (by decide)
  have vv_H2_3 : mo_v G H2 a0 3 = mo_v G H0 a0 3 := mo_v_F (r := 49) hB.1 hf h0 rfl ro_49 (by decide) (by decide)
  have vv_H2_4 : mo_v G H2 a0 4 = mo_v G H0 a0 4 := mo_v_F (r := 50) hB.1 hf h0 rfl ro_50 (by decide) (by decide)
  have zf2 := z2_1
  rw [tk_2] at zf2
  replace hF := hF.trans (dv_bn2 (zf2))
  refine W.eq (g2 := F0 m 5 ls []) rfl ?_
  have hR : th_RN a0 G Γ H2 := ⟨hRC, by rw [vv_H2_2, vv_H2_3, vv_H2_4]; exact mo_ok_kp hR.2 z2_0⟩
  have hR2 := hR
  have hR := th_NE hR
  have r69 := mo_many hB.1 h0
  have hB2 := hB
  refine lv_iconst (v := 0) hx hb dX12_mirrorsKept_5 (by decide) ?_
  refine lv_istore_n (lv' := [(1, .int 0), (0, .ref a0)]) hx hb dX12_mirrorsKept_6 rfl hl (by decide) rfl (fun ls hl => ?_)
  have lp7 : ∀ (n7 : Nat) (H7 : Heap) (locs : List Loc) (ls : Array Slot) (j7_1 : Int32), th_B G Γ Γ [(48, 0), (61, 0), (46, 33)] H0 H7 locs → th_RE a0 G Γ H7 → lv_has ls 2 [(0, .ref a0), (1, .int j7_1)] → F = dv_lp f_X12_mirrorsKept_7b (dv G Γ H7, (a0 : Int), j7_1.toInt) → 0 ≤ j7_1.toInt → j7_1.toInt ≤ 9 → (∀ i : Int, mo_v G H7 a0 2 i = if 9 ≤ i ∧ i < 9 + j7_1.toInt then (if mo_v G H2 a0 2 i = -1 then -1 else mo_v G H2 a0 2 67 - mo_v G H2 a0 2 i - mo_v G H2 a0 2 (i + 20)) else mo_v G H2 a0 2 i) → mo_v G H7 a0 31 = mo_v G H2 a0 31 → mo_f G H7 a0 33 = mo_f G H2 a0 33 → j7_1.toInt ≤ mo_v G H2 a0 2 69 → (2147483648 : Int) - j7_1.toInt ≤ (n7 : Int) → W p l e ({ frames := 2, cells := 0, slots := 0, locals := 43 } : Room) s m ([.ref a0] : List Value).toArray below meth c H7 locs 0 0 (MQ below (th_Q (fun (v : Option Value) (H1 : Heap) => ∃ r : Int32, v = some (.int r) ∧ 0 ≤ r.toInt ∧ r.toInt ≤ 9 ∧ th_I G Γ H1 ∧ th_F G Γ [(48, 0), (61, 0), (46, 33)] H0 H1 ∧ th_RN a0 G Γ H1 ∧ (∀ z : Int, 29 ≤ z → mo_v G H1 a0 2 z = mo_v G H0 a0 2 z) ∧ (f_X12_mirrorsKept (dv G Γ H0) (a0 : Int) = (dv G Γ H1, r.toInt))) G) ([.ref a0] : List Value).toArray s 0 0 (fun q => G.2.2 ≤ q)) (F0 m 7 ls []) := by
    intro n7
    induction n7 with
    | zero => intro H7 locs ls j7_1 hB hR hl hF g7_0 g7_1 g7_2 g7_3 g7_4 g7_5 hm7; exact absurd hm7 (by have := ti_hi j7_1; omega)
    | succ n7 ih7 =>
      intro H7 locs ls j7_1 hB hR hl hF g7_0 g7_1 g7_2 g7_3 g7_4 g7_5 hm7
      have lj7_1 := ti_lo j7_1; have uj7_1 := ti_hi j7_1
      have vw_H7_3 : mo_v G H7 a0 3 = mo_v G H0 a0 3 := mo_v_F (r := 49) hB.1 hB.2.2 h0 rfl ro_49 (by decide) (by decide)
      have vw_H7_4 : mo_v G H7 a0 4 = mo_v G H0 a0 4 := mo_v_F (r := 50) hB.1 hB.2.2 h0 rfl ro_50 (by decide) (by decide)
      have hm7 : (2147483648 : Int) - j7_1.toInt ≤ (n7 : Int) + 1 := by omega
      replace hF := hF.trans (dv_lp_eq)
      replace hF := hF.trans (congrArg (dv_k f_X12_mirrorsKept_7b) (f_X12_mirrorsKept_7c.eq_1 (dv G Γ H7) ((a0 : Int)) (j7_1.toInt)))
      refine lv_iload_n hx hb dX12_mirrorsKept_7 rfl (lv_at hl 1 rfl) ?_
      refine lv_aload_n hx hb dX12_mirrorsKept_8 rfl (lv_at hl 0 rfl) ?_
      refine th_call (th_runV (As := []) (rest := [.int j7_1]) hC mf_X12_many km_X12_115 im_X12_many se_X12_many (c_X12_many l G Γ H7 hB.1 hU a0 h0) rfl rfl ⟨Nat.le_of_ble_eq_true rfl, Nat.le_of_ble_eq_true rfl⟩ hB.1 h0 ro_46 rfl rfl hl.1 rfl (Nat.le_of_ble_eq_true rfl) dX12_mirrorsKept_9 ⟨Nat.le_refl _, Nat.le_refl _⟩) hB.2.1 (fun v9 H9 locs hp hz hS => ?_)
      obtain ⟨x1, rfl, lx1, ux1, q9_0, q9_1, rfl⟩ := hp
      have hB := th_B_s hB hS
      replace hF := hF.trans (congrArg (dv_k f_X12_mirrorsKept_7b) (dv_bn2 (q9_1)))
      refine W.eq (g2 := F0 m 12 ls [.int x1, .int j7_1]) rfl ?_
      have e9 : x1.toInt = mo_v G H2 a0 2 69 := by rw [q9_0, g7_2, if_neg (by omega)]
      refine tr_icmp_ge (tgt := 69) hx hb dX12_mirrorsKept_12 (by decide) (Eq.refl _) (Eq.refl _) (fun c12 => ?_) (fun c12 => ?_)
      · replace hF := hF.trans (congrArg (dv_k f_X12_mirrorsKept_7b) (if_pos c12))
        refine lv_aload_n hx hb dX12_mirrorsKept_69 rfl (lv_at hl 0 rfl) ?_
        have hR : th_RN a0 G Γ H7 := ⟨hR.1, by rw [(mo_v_F (j := 3) (r := 49) hB.1 hB.2.2 h0 rfl ro_49 (by decide) (by decide) : mo_v G H7 a0 3 = _), ← (mo_v_F (j := 3) (r := 49) hB2.1 hB2.2.2 h0 rfl ro_49 (by decide) (by decide) : mo_v G H2 a0 3 = _), (mo_v_F (j := 4) (r := 50) hB.1 hB.2.2 h0 rfl ro_50 (by decide) (by decide) : mo_v G H7 a0 4 = _), ← (mo_v_F (j := 4) (r := 50) hB2.1 hB2.2.2 h0 rfl ro_50 (by decide) (by decide) : mo_v G H2 a0 4 = _), g7_3, g7_4]; exact mo_ok_29 hR2.2 (fun i hi => by rw [g7_2 i, if_neg (by omega)]) (mo_geo_mi hR2.2.1.2.1 (fun i hi => by rw [g7_2 i, if_neg (by omega)]) (fun c c0 c1 => by rw [g7_2 (9 + c), if_pos (by omega), show 9 + c + 20 = 29 + c by omega]))⟩
        refine th_call (th_runV (As := []) (rest := []) hC mf_X12_laidMany km_X12_143 im_X12_laidMany se_X12_laidMany (c_X12_laidMany l G Γ H7 hB.1 hU a0 h0) rfl rfl ⟨Nat.le_of_ble_eq_true rfl, Nat.le_of_ble_eq_true rfl⟩ hB.1 h0 ro_46 rfl rfl hl.1 rfl (Nat.le_of_ble_eq_true rfl) dX12_mirrorsKept_70 ⟨Nat.le_refl _, Nat.le_refl _⟩) hB.2.1 (fun v70 H70 locs hp hz hS => ?_)
        obtain ⟨x2, rfl, lx2, ux2, q70_0, q70_1, rfl⟩ := hp
        have hB := th_B_s hB hS
        replace hF := hF.trans (congrArg (dv_k f_X12_mirrorsKept_7b) (dv_bn2 (q70_1)))
        refine W.eq (g2 := F0 m 73 ls [.int x2]) rfl ?_
        replace hF := hF.trans (dv_kr)
        exact th_iret hC hH hr hlocks rfl hB.2.1 ⟨_, rfl, by omega, by omega, hB.1, hB.2.2, hR, fun z a9 => by rw [g7_2 z, if_neg (by omega), vv_H2_2], (hF0.symm.trans hF)⟩ dX12_mirrorsKept_73
      · replace hF := hF.trans (congrArg (dv_k f_X12_mirrorsKept_7b) (if_neg (Int.not_le.mpr c12)))
        refine lv_aload_n hx hb dX12_mirrorsKept_15 rfl (lv_at hl 0 rfl) ?_
        refine th_getO (j := 2) (r2 := 48) hC cf_X12 hB.1 h0 ro_46 rfl rfl kf_X12_28 dX12_mirrorsKept_16 (fun b3 mb3 hb3 => ?_)
        have sb3 := (th_F_o hB.2.2 h0 ro_46 (j := 2) (by decide) (by decide)).symm.trans mb3
        refine lv_bipush (v := 9) hx hb dX12_mirrorsKept_19 (by decide) ?_
        refine lv_iload_n hx hb dX12_mirrorsKept_21 rfl (lv_at hl 1 rfl) ?_
        refine tr_iadd hx hb dX12_mirrorsKept_22 tk_9 (Eq.refl _) (by omega) (by omega) (fun x4 ex4 => ?_)
        replace hF := hF.trans (congrArg (dv_k f_X12_mirrorsKept_7b) (dv_bn (ex4.symm)))
        refine lv_aload_n hx hb dX12_mirrorsKept_23 rfl (lv_at hl 0 rfl) ?_
        refine lv_iload_n hx hb dX12_mirrorsKept_24 rfl (lv_at hl 1 rfl) ?_
        refine th_call (th_runV (As := [.int j7_1]) (rest := [.int x4, .ref b3]) hC mf_X12_isLaid km_X12_137 im_X12_isLaid se_X12_isLaid (c_X12_isLaid l G Γ H7 hB.1 hU a0 h0 j7_1 (by omega) (by omega)) rfl rfl ⟨Nat.le_of_ble_eq_true rfl, Nat.le_of_ble_eq_true rfl⟩ hB.1 h0 ro_46 rfl rfl hl.1 rfl (Nat.le_of_ble_eq_true rfl) dX12_mirrorsKept_25 ⟨Nat.le_refl _, Nat.le_refl _⟩) hB.2.1 (fun v25 H25 locs hp hz hS => ?_)
        obtain ⟨x5, rfl, lx5, ux5, q25_0, q25_1, q25_2, rfl⟩ := hp
        have hB := th_B_s hB hS
        replace hF := hF.trans (congrArg (dv_k f_X12_mirrorsKept_7b) (dv_bn2 (q25_2)))
        refine W.eq (g2 := F0 m 28 ls [.int x5, .int x4, .ref b3]) rfl ?_
        refine tr_if_eq (tgt := 61) hx hb dX12_mirrorsKept_28 (by decide) (Eq.refl _) (fun c28 => ?_) (fun c28 => ?_)
        · replace hF := hF.trans (congrArg (dv_k f_X12_mirrorsKept_7b) (if_pos c28))
          refine lv_iconst (v := (-1)) hx hb dX12_mirrorsKept_61 (by decide) ?_
          have hIo := hB.1
          refine th_iastF hC hB hb3 (Or.inl hb3) ro_48 rfl (by decide) (Eq.refl _) (by omega) (by omega) (by rw [(ek_a (by omega) (by omega))]; exact th_sIa) dX12_mirrorsKept_62 (fun H62 locs hB hf62 hst62 => ?_)
          have hf := hf62
          have mm6 := (th_F_o hf h0 ro_46 (j := 2) (by decide) (by decide)).trans mb3
          have hRC := th_RC_F hB.1 hR.1 hf (th_T_s hb3 ro_48 hst62) (by decide)
          have fv_H62_33 : mo_f G H62 a0 33 = mo_f G H7 a0 33 := mo_f_F hf h0 (by decide) (by decide)
          have vv_H62_3 : mo_v G H62 a0 3 = mo_v G H7 a0 3 := mo_v_F (r := 49) hB.1 hf h0 rfl ro_49 (by decide) (by decide)
          have vv_H62_4 : mo_v G H62 a0 4 = mo_v G H7 a0 4 := mo_v_F (r := 50) hB.1 hf h0 rfl ro_50 (by decide) (by decide)
          have vv_H62_31 : mo_v G H62 a0 31 = mo_v G H7 a0 31 := mo_v_F (r := 61) hB.1 hf h0 rfl ro_61 (by decide) (by decide)
          replace hF := hF.trans (congrArg (dv_k f_X12_mirrorsKept_7b) (dv_bn (dv_stoI hIo hB.1 hU hb3 ow_48 (i := x4.toInt) hst62 tk_m1 (by omega))))
          have vs62 : mo_v G H62 a0 2 = mo_u (mo_v G H7 a0 2) (9 + j7_1.toInt) (-1) := by rw [show ((9 + j7_1.toInt) : Int) = x4.toInt by omega]; exact mo_v_st h0 hb3 (by decide) mb3 hst62 (by omega)
          have hR := th_RE_st hB.1 hR h0 hb3 mb3 hf62 hst62 (by omega) (by omega)
          refine tr_iinc (fun x7 => [(1, .int x7), (0, .ref a0)]) hx hb dX12_mirrorsKept_63 hl (k := 1) rfl (Eq.refl _) tk_1 (by omega) (by omega) (by decide) (fun _ => rfl) (fun x7 ls ex7 hl => ?_)
          replace hF := hF.trans (congrArg (dv_k f_X12_mirrorsKept_7b) (dv_bn (ex7.symm)))
          refine lv_goto (tgt := 7) hx hb dX12_mirrorsKept_66 (by decide) ?_
          replace hF := hF.trans (dv_kl)
          exact ih7 H62 locs ls x7 hB hR (lv_sub hl [1, 0] rfl) hF (by omega) (by omega) (fun i => by rw [vs62]; by_cases q9 : i = (9 + j7_1.toInt); rw [mo_us q9, if_pos (by omega), q9]; have w1 : mo_v G H2 a0 2 (9 + j7_1.toInt) = -1 := (by have q7 := q25_1 (by omega); rw [g7_2, if_neg (by omega)] at q7; exact q7); rw [if_pos w1]; rw [mo_un q9, g7_2 i]; by_cases q8 : 9 ≤ i ∧ i < 9 + j7_1.toInt; rw [if_pos q8, if_pos (show 9 ≤ i ∧ i < 9 + x7.toInt by omega)]; rw [if_neg q8, if_neg (show ¬ (9 ≤ i ∧ i < 9 + x7.toInt) by omega)]) (vv_H62_31.trans g7_3) (by omega) (by omega) (by omega)
        · replace hF := hF.trans (congrArg (dv_k f_X12_mirrorsKept_7b) (if_neg c28))
          refine lv_aload_n hx hb dX12_mirrorsKept_31 rfl (lv_at hl 0 rfl) ?_
          have l31 : mo_v G H2 a0 2 (9 + j7_1.toInt) ≠ -1 := (by have q7 := q25_0 (by omega); rw [g7_2, if_neg (by omega)] at q7; exact q7)
          have ge31 := hR2.2.1.2.1.2.1 j7_1.toInt (by omega) (by omega) l31
          have w31 := mo_wide hB2.1 h0
          refine th_getK hC cf_X12 hB.1 h0 ro_46 rfl (j := 2) (by decide) mb3 kf_X12_28 dX12_mirrorsKept_32 ?_
          refine lv_bipush (v := 67) hx hb dX12_mirrorsKept_35 (by decide) ?_
          refine th_ialdF hC hB.1 hb3 ro_48 rfl tk_67 (by omega) (by omega) (ek_hall (by omega) (by omega)) dX12_mirrorsKept_37 (fun x8 mx8 lx8 ux8 => ?_)
          replace hF := hF.trans (congrArg (dv_k f_X12_mirrorsKept_7b) (dv_bn (dv_aldI hB.1 hU hb3 ow_48 (z := 67) mx8 (by omega))))
          have vgx8 : mo_v G H7 a0 2 67 = x8.toInt := by rw [show (67 : Int) = 67 by omega]; exact mo_vat mb3 mx8 (by omega)
          refine lv_aload_n hx hb dX12_mirrorsKept_38 rfl (lv_at hl 0 rfl) ?_
          refine th_getK hC cf_X12 hB.1 h0 ro_46 rfl (j := 2) (by decide) mb3 kf_X12_28 dX12_mirrorsKept_39 ?_
          refine lv_bipush (v := 9) hx hb dX12_mirrorsKept_42 (by decide) ?_
          refine lv_iload_n hx hb dX12_mirrorsKept_44 rfl (lv_at hl 1 rfl) ?_
          refine tr_iadd hx hb dX12_mirrorsKept_45 tk_9 (Eq.refl _) (by omega) (by omega) (fun x9 ex9 => ?_)
          replace hF := hF.trans (congrArg (dv_k f_X12_mirrorsKept_7b) (dv_bn (ex9.symm)))
          refine th_ialdF hC hB.1 hb3 ro_48 rfl (Eq.refl _) (by omega) (by omega) (ek_a (by omega) (by omega)) dX12_mirrorsKept_46 (fun x10 mx10 lx10 ux10 => ?_)
          replace hF := hF.trans (congrArg (dv_k f_X12_mirrorsKept_7b) (dv_bn (dv_aldI hB.1 hU hb3 ow_48 (z := x9.toInt) mx10 (by omega))))
          have vgx10 : mo_v G H7 a0 2 (9 + j7_1.toInt) = x10.toInt := by rw [show ((9 + j7_1.toInt) : Int) = x9.toInt by omega]; exact mo_vat mb3 mx10 (by omega)
          have x46 : mo_v G H2 a0 2 (9 + j7_1.toInt) = x10.toInt := (by have q7 := vgx10; rw [g7_2, if_neg (by omega)] at q7; exact q7)
          refine tr_isub hx hb dX12_mirrorsKept_47 (Eq.refl _) (Eq.refl _) (by omega) (by omega) (fun x11 ex11 => ?_)
          replace hF := hF.trans (congrArg (dv_k f_X12_mirrorsKept_7b) (dv_bn (ex11.symm)))
          refine lv_aload_n hx hb dX12_mirrorsKept_48 rfl (lv_at hl 0 rfl) ?_
          refine th_getK hC cf_X12 hB.1 h0 ro_46 rfl (j := 2) (by decide) mb3 kf_X12_28 dX12_mirrorsKept_49 ?_
          refine lv_bipush (v := 29) hx hb dX12_mirrorsKept_52 (by decide) ?_
          refine lv_iload_n hx hb dX12_mirrorsKept_54 rfl (lv_at hl 1 rfl) ?_
          refine tr_iadd hx hb dX12_mirrorsKept_55 tk_29 (Eq.refl _) (by omega) (by omega) (fun x12 ex12 => ?_)
          replace hF := hF.trans (congrArg (dv_k f_X12_mirrorsKept_7b) (dv_bn (ex12.symm)))
          refine th_ialdF hC hB.1 hb3 ro_48 rfl (Eq.refl _) (by omega) (by omega) (ek_side (by omega) (by omega)) dX12_mirrorsKept_56 (fun x13 mx13 lx13 ux13 => ?_)
          replace hF := hF.trans (congrArg (dv_k f_X12_mirrorsKept_7b) (dv_bn (dv_aldI hB.1 hU hb3 ow_48 (z := x12.toInt) mx13 (by omega))))
          have vgx13 : mo_v G H7 a0 2 (29 + j7_1.toInt) = x13.toInt := by rw [show ((29 + j7_1.toInt) : Int) = x12.toInt by omega]; exact mo_vat mb3 mx13 (by omega)
          refine tr_isub hx hb dX12_mirrorsKept_57 (Eq.refl _) (Eq.refl _) (by omega) (by omega) (fun x14 ex14 => ?_)
          replace hF := hF.trans (congrArg (dv_k f_X12_mirrorsKept_7b) (dv_bn (ex14.symm)))
          refine lv_goto (tgt := 62) hx hb dX12_mirrorsKept_58 (by decide) ?_
          have hIo := hB.1
          refine th_iastF hC hB hb3 (Or.inl hb3) ro_48 rfl (by decide) (Eq.refl _) (by omega) (by omega) (by rw [(ek_a (by omega) (by omega))]; exact th_sIa) dX12_mirrorsKept_62 (fun H62 locs hB hf62 hst62 => ?_)
          have hf := hf62
          have mm15 := (th_F_o hf h0 ro_46 (j := 2) (by decide) (by decide)).trans mb3
          have hRC := th_RC_F hB.1 hR.1 hf (th_T_s hb3 ro_48 hst62) (by decide)
          have fv_H62_33 : mo_f G H62 a0 33 = mo_f G H7 a0 33 := mo_f_F hf h0 (by decide) (by decide)
          have vv_H62_3 : mo_v G H62 a0 3 = mo_v G H7 a0 3 := mo_v_F (r := 49) hB.1 hf h0 rfl ro_49 (by decide) (by decide)
          have vv_H62_4 : mo_v G H62 a0 4 = mo_v G H7 a0 4 := mo_v_F (r := 50) hB.1 hf h0 rfl ro_50 (by decide) (by decide)
          have vv_H62_31 : mo_v G H62 a0 31 = mo_v G H7 a0 31 := mo_v_F (r := 61) hB.1 hf h0 rfl ro_61 (by decide) (by decide)
          replace hF := hF.trans (congrArg (dv_k f_X12_mirrorsKept_7b) (dv_bn (dv_stoI hIo hB.1 hU hb3 ow_48 (i := x4.toInt) hst62 (Eq.refl _) (by omega))))
          have vs62 : mo_v G H62 a0 2 = mo_u (mo_v G H7 a0 2) (9 + j7_1.toInt) x14.toInt := by rw [show ((9 + j7_1.toInt) : Int) = x4.toInt by omega]; exact mo_v_st h0 hb3 (by decide) mb3 hst62 (by omega)
          have hR := th_RE_st hB.1 hR h0 hb3 mb3 hf62 hst62 (by omega) (by omega)
          refine tr_iinc (fun x16 => [(1, .int x16), (0, .ref a0)]) hx hb dX12_mirrorsKept_63 hl (k := 1) rfl (Eq.refl _) tk_1 (by omega) (by omega) (by decide) (fun _ => rfl) (fun x16 ls ex16 hl => ?_)
          replace hF := hF.trans (congrArg (dv_k f_X12_mirrorsKept_7b) (dv_bn (ex16.symm)))
          refine lv_goto (tgt := 7) hx hb dX12_mirrorsKept_66 (by decide) ?_
          replace hF := hF.trans (dv_kl)
          exact ih7 H62 locs ls x16 hB hR (lv_sub hl [1, 0] rfl) hF (by omega) (by omega) (fun i => by rw [vs62]; by_cases q9 : i = (9 + j7_1.toInt); rw [mo_us q9, if_pos (by omega), q9]; have w1 : mo_v G H2 a0 2 (9 + j7_1.toInt) ≠ -1 := (by have q7 := q25_0 (by omega); rw [g7_2, if_neg (by omega)] at q7; exact q7); have w2 := vgx8; rw [g7_2, if_neg (by omega)] at w2; have w3 := vgx10; rw [g7_2, if_neg (by omega)] at w3; have w4 := vgx13; rw [g7_2, if_neg (by omega)] at w4; rw [if_neg w1, show 9 + j7_1.toInt + 20 = 29 + j7_1.toInt by omega]; omega; rw [mo_un q9, g7_2 i]; by_cases q8 : 9 ≤ i ∧ i < 9 + j7_1.toInt; rw [if_pos q8, if_pos (show 9 ≤ i ∧ i < 9 + x16.toInt by omega)]; rw [if_neg q8, if_neg (show ¬ (9 ≤ i ∧ i < 9 + x16.toInt) by omega)]) (vv_H62_31.trans g7_3) (by omega) (by omega) (by omega)
  exact lp7 ((2147483648 : Int) - (0)).toNat H2 locs ls 0 hB hR (lv_sub hl [1, 0] rfl) (by rw [tk_0]; exact hF) (by decide) (by decide) (fun i => by rw [if_neg (by have w0 := tk_0; omega)]) rfl (by have w0 := tk_0; omega) (by have w0 := tk_0; omega) (by have w0 := tk_0; omega)

set_option maxHeartbeats 4000000 in
set_option maxRecDepth 100000 in
theorem c_X12_passesKept (l : Launch) (G : th_G) (Γ : th_Ga) (H0 : Heap) (hI : th_I G Γ H0) (hU : dv_U Γ) (a0 : Nat) (h0 : Γ a0 = (46, 0)) (hR : th_RN a0 G Γ H0) : Met l yX12_passesKept (.code yX12_passesKept cX12_passesKept 1 (some FieldType.int) :: th_tb) ({ frames := 53, cells := 0, slots := 0, locals := 1670 } : Room) (th_P [.ref a0] G H0) (th_Q (fun (v : Option Value) (H1 : Heap) => ∃ r : Int32, v = some (.int r) ∧ (-3) ≤ r.toInt ∧ r.toInt ≤ 9 ∧ th_I G Γ H1 ∧ th_F G Γ [(48, 0), (61, 0), (46, 33), (46, 22), (46, 24), (58, 0), (46, 23), (46, 25), (60, 0)] H0 H1 ∧ th_RN a0 G Γ H1 ∧ (∀ z : Int, 29 ≤ z → mo_v G H1 a0 2 z = mo_v G H0 a0 2 z) ∧ (f_X12_passesKept (dv G Γ H0) (a0 : Int) = (dv G Γ H1, r.toInt))) G) 0 0 (fun q => G.2.2 ≤ q) := by
  refine th_met RX12 (by decide) rfl (Nat.le_of_ble_eq_true rfl) ?_
  intro p e s m below meth c hC hH hr hlocks hnm ls hl
  have hx := hC.1
  have hb := hC.2.1
  have hB : th_B G Γ Γ [(48, 0), (61, 0), (46, 33), (46, 22), (46, 24), (58, 0), (46, 23), (46, 25), (60, 0)] H0 H0 [] := ⟨hI, va_S.rf, th_F_rf⟩
  have hl : lv_has ls 1 [(0, .ref a0)] := hl
  obtain ⟨F, hF0⟩ : ∃ F, F = f_X12_passesKept (dv G Γ H0) ((a0 : Int)) := ⟨_, rfl⟩
  have hF := hF0.trans (f_X12_passesKept.eq_1 (dv G Γ H0) ((a0 : Int)))
  refine lv_aload_n hx hb dX12_passesKept_0 rfl (lv_at hl 0 rfl) ?_
  refine th_getO (j := 2) (r2 := 48) hC cf_X12 hB.1 h0 ro_46 rfl rfl kf_X12_28 dX12_passesKept_1 (fun b1 mb1 hb1 => ?_)
  refine lv_bipush (v := 28) hx hb dX12_passesKept_4 (by decide) ?_
  refine th_ialdF hC hB.1 hb1 ro_48 rfl tk_28 (by omega) (by omega) (ek_a (by omega) (by omega)) dX12_passesKept_6 (fun x2 mx2 lx2 ux2 => ?_)
  replace hF := hF.trans (dv_bn (dv_aldI hB.1 hU hb1 ow_48 (z := 28) mx2 (by omega)))
  have vgx2 : mo_v G H0 a0 2 28 = x2.toInt := by rw [show (28 : Int) = 28 by omega]; exact mo_vat mb1 mx2 (by omega)
  refine lv_sipush (v := 999) hx hb dX12_passesKept_7 (by decide) ?_
  refine tr_icmp_ne (tgt := 16) hx hb dX12_passesKept_10 (by decide) (Eq.refl _) tk_999 (fun c10 => ?_) (fun c10 => ?_)
  · replace hF := hF.trans (if_pos c10)
    refine lv_aload_n hx hb dX12_passesKept_16 rfl (lv_at hl 0 rfl) ?_
    refine lv_iconst (v := 3) hx hb dX12_passesKept_17 (by decide) ?_
    refine th_call (th_runV (As := [.int 3]) (rest := []) hC mf_X12_keeps km_X12_370 im_X12_keeps se_X12_keeps (c_X12_keeps l G Γ H0 hB.1 hU a0 h0 (th_NK hR) 3) rfl rfl ⟨Nat.le_of_ble_eq_true rfl, Nat.le_of_ble_eq_true rfl⟩ hB.1 h0 ro_46 rfl rfl hl.1 rfl (Nat.le_of_ble_eq_true rfl) dX12_passesKept_18 ⟨Nat.le_refl _, Nat.le_refl _⟩) hB.2.1 (fun v18 H18 locs hp hz hS => ?_)
    have hRD := hR
    obtain ⟨rfl, hI1, hf, hR, z18_0, z18_1⟩ := hp
    have hRc18 := hR
    have hR := hRD
    have hRC := hRc18.1
    have hB := th_B_c hB hI1 hS hf (by decide)
    have vv_H18_2 : mo_v G H18 a0 2 = mo_v G H0 a0 2 := mo_v_F (r := 48) hB.1 hf h0 rfl ro_48 (by decide) (by decide)
    have vv_H18_3 : mo_v G H18 a0 3 = mo_v G H0 a0 3 := mo_v_F (r := 49) hB.1 hf h0 rfl ro_49 (by decide) (by decide)
    have vv_H18_4 : mo_v G H18 a0 4 = mo_v G H0 a0 4 := mo_v_F (r := 50) hB.1 hf h0 rfl ro_50 (by decide) (by decide)
    have zf18 := z18_1
    rw [tk_3] at zf18
    replace hF := hF.trans (dv_bn2 (zf18))
    refine W.eq (g2 := F0 m 21 ls []) rfl ?_
    have hR : th_RN a0 G Γ H18 := ⟨hRC, by rw [vv_H18_2, vv_H18_3, vv_H18_4]; exact mo_ok_kp hR.2 z18_0⟩
    refine lv_aload_n hx hb dX12_passesKept_21 rfl (lv_at hl 0 rfl) ?_
    refine th_call (th_runV (As := []) (rest := []) hC mf_X12_yearPasses km_X12_376 im_X12_yearPasses se_X12_yearPasses (c_X12_yearPasses l G Γ H18 hB.1 hU a0 h0 (th_NE hR)) rfl rfl ⟨Nat.le_of_ble_eq_true rfl, Nat.le_of_ble_eq_true rfl⟩ hB.1 h0 ro_46 rfl rfl hl.1 rfl (Nat.le_of_ble_eq_true rfl) dX12_passesKept_22 ⟨Nat.le_refl _, Nat.le_refl _⟩) hB.2.1 (fun v22 H22 locs hp hz hS => ?_)
    have hRD := hR
    obtain ⟨x3, rfl, lx3, ux3, hI1, hf, hR, z22_0, z22_1⟩ := hp
    have hRc22 := hR
    have hR := hRD
    have hRC := hRc22.1
    have hB := th_B_c hB hI1 hS hf (by decide)
    have fv_H22_33 : mo_f G H22 a0 33 = mo_f G H18 a0 33 := mo_f_F hf h0 (by decide) (by decide)
    have vv_H22_3 : mo_v G H22 a0 3 = mo_v G H18 a0 3 := mo_v_F (r := 49) hB.1 hf h0 rfl ro_49 (by decide) (by decide)
    have vv_H22_4 : mo_v G H22 a0 4 = mo_v G H18 a0 4 := mo_v_F (r := 50) hB.1 hf h0 rfl ro_50 (by decide) (by decide)
    have vv_H22_31 : mo_v G H22 a0 31 = mo_v G H18 a0 31 := mo_v_F (r := 61) hB.1 hf h0 rfl ro_61 (by decide) (by decide)
    replace hF := hF.trans (dv_bn2 (z22_1))
    refine W.eq (g2 := F0 m 25 ls [.int x3]) rfl ?_
    have hR : th_RN a0 G Γ H22 := ⟨hRC, by rw [vv_H22_3, vv_H22_4, vv_H22_31, fv_H22_33]; exact mo_ok_sb hR.2 z22_0⟩
    exact th_iret hC hH hr hlocks rfl hB.2.1 ⟨_, rfl, by omega, by omega, hB.1, hB.2.2, hR, fun z a9 => by rw [z22_0.1 z a9, vv_H18_2], (hF0.symm.trans hF)⟩ dX12_passesKept_25
  · replace hF := hF.trans (if_neg (not_not_intro c10))
    refine lv_bipush (v := (-3)) hx hb dX12_passesKept_13 (by decide) ?_
    exact th_iret hC hH hr hlocks rfl hB.2.1 ⟨_, rfl, by decide, by decide, hB.1, hB.2.2, hR, fun z a9 => rfl, (hF0.symm.trans (hF.trans (by rw [tk_m3])))⟩ dX12_passesKept_15

set_option maxHeartbeats 4000000 in
set_option maxRecDepth 100000 in
theorem c_X12_lay (l : Launch) (G : th_G) (Γ : th_Ga) (H0 : Heap) (hI : th_I G Γ H0) (hU : dv_U Γ) (a0 : Nat) (h0 : Γ a0 = (46, 0)) (hR : th_RN a0 G Γ H0) (p1 : Int32) (p2 : Int32) (p3 : Int32) : Met l yX12_lay (.code yX12_lay cX12_lay 4 (some FieldType.int) :: th_tb) ({ frames := 54, cells := 0, slots := 0, locals := 1697 } : Room) (th_P [.ref a0, .int p1, .int p2, .int p3] G H0) (th_Q (fun (v : Option Value) (H1 : Heap) => ∃ r : Int32, v = some (.int r) ∧ th_I G Γ H1 ∧ th_F G Γ [(48, 0), (61, 0), (46, 33), (47, 0), (46, 0), (46, 22), (46, 24), (58, 0), (46, 23), (46, 25), (59, 0)] H0 H1 ∧ th_RN a0 G Γ H1 ∧ (f_X12_lay (dv G Γ H0) (a0 : Int) p1.toInt p2.toInt p3.toInt = (dv G Γ H1, r.toInt))) G) 0 0 (fun q => G.2.2 ≤ q) := by
  refine th_met RX12 (by decide) rfl (Nat.le_of_ble_eq_true rfl) ?_
  intro p e s m below meth c hC hH hr hlocks hnm ls hl
  have hx := hC.1
  have hb := hC.2.1
  have hB : th_B G Γ Γ [(48, 0), (61, 0), (46, 33), (47, 0), (46, 0), (46, 22), (46, 24), (58, 0), (46, 23), (46, 25), (59, 0)] H0 H0 [] := ⟨hI, va_S.rf, th_F_rf⟩
  have hl : lv_has ls 4 [(0, .ref a0), (1, .int p1), (2, .int p2), (3, .int p3)] := hl
  have lp1 := ti_lo p1; have up1 := ti_hi p1
  have lp2 := ti_lo p2; have up2 := ti_hi p2
  have lp3 := ti_lo p3; have up3 := ti_hi p3
  obtain ⟨F, hF0⟩ : ∃ F, F = f_X12_lay (dv G Γ H0) ((a0 : Int)) (p1.toInt) (p2.toInt) (p3.toInt) := ⟨_, rfl⟩
  have hF := hF0.trans (f_X12_lay.eq_1 (dv G Γ H0) ((a0 : Int)) (p1.toInt) (p2.toInt) (p3.toInt))
  refine lv_aload_n hx hb dX12_lay_0 rfl (lv_at hl 0 rfl) ?_
  refine lv_aload_n hx hb dX12_lay_1 rfl (lv_at hl 0 rfl) ?_
  refine lv_iload_n hx hb dX12_lay_2 rfl (lv_at hl 1 rfl) ?_
  refine lv_iload_n hx hb dX12_lay_3 rfl (lv_at hl 2 rfl) ?_
  refine lv_iload_n hx hb dX12_lay_4 rfl (lv_at hl 3 rfl) ?_
  refine th_call (th_runV (As := [.int p1, .int p2, .int p3]) (rest := [.ref a0]) hC mf_X12_laysKept km_X12_379 im_X12_laysKept se_X12_laysKept (c_X12_laysKept l G Γ H0 hB.1 hU a0 h0 hR p1 p2 p3) rfl rfl ⟨Nat.le_of_ble_eq_true rfl, Nat.le_of_ble_eq_true rfl⟩ hB.1 h0 ro_46 rfl rfl hl.1 rfl (Nat.le_of_ble_eq_true rfl) dX12_lay_5 ⟨Nat.le_refl _, Nat.le_refl _⟩) hB.2.1 (fun v5 H5 locs hp hz hS => ?_)
  obtain ⟨x1, rfl, lx1, ux1, hI1, hf, hR, z5_0, z5_1⟩ := hp
  have hB := th_B_c hB hI1 hS hf (by decide)
  replace hF := hF.trans (dv_bn2 (z5_1))
  refine W.eq (g2 := F0 m 8 ls [.int x1, .ref a0]) rfl ?_
  refine th_call (th_runV (As := [.int x1]) (rest := []) hC mf_X12_goodOr km_X12_382 im_X12_goodOr se_X12_goodOr (c_X12_goodOr l G Γ H5 hB.1 hR.1 hU a0 h0 x1 (by omega)) rfl rfl ⟨Nat.le_of_ble_eq_true rfl, Nat.le_of_ble_eq_true rfl⟩ hB.1 h0 ro_46 rfl rfl hl.1 rfl (Nat.le_of_ble_eq_true rfl) dX12_lay_8 ⟨Nat.le_refl _, Nat.le_refl _⟩) hB.2.1 (fun v8 H8 locs hp hz hS => ?_)
  have hRD := hR
  obtain ⟨x2, rfl, hI1, hf, hR, z8_0⟩ := hp
  have hR := th_RN_c hR hRD hI1 h0 hf (by decide)
  have hB := th_B_c hB hI1 hS hf (by decide)
  replace hF := hF.trans (dv_bn2 (z8_0))
  refine W.eq (g2 := F0 m 11 ls [.int x2]) rfl ?_
  exact th_iret hC hH hr hlocks rfl hB.2.1 ⟨_, rfl, hB.1, hB.2.2, hR, (hF0.symm.trans hF)⟩ dX12_lay_11

set_option maxHeartbeats 4000000 in
set_option maxRecDepth 100000 in
theorem c_X12_roll (l : Launch) (G : th_G) (Γ : th_Ga) (H0 : Heap) (hI : th_I G Γ H0) (hU : dv_U Γ) (a0 : Nat) (h0 : Γ a0 = (46, 0)) (hR : th_RN a0 G Γ H0) (p1 : Int32) : Met l yX12_roll (.code yX12_roll cX12_roll 2 (some FieldType.int) :: th_tb) ({ frames := 3, cells := 0, slots := 0, locals := 64 } : Room) (th_P [.ref a0, .int p1] G H0) (th_Q (fun (v : Option Value) (H1 : Heap) => ∃ r : Int32, v = some (.int r) ∧ th_I G Γ H1 ∧ th_F G Γ [(48, 0), (61, 0), (46, 33), (47, 0), (46, 0)] H0 H1 ∧ th_RN a0 G Γ H1 ∧ (f_X12_roll (dv G Γ H0) (a0 : Int) p1.toInt = (dv G Γ H1, r.toInt))) G) 0 0 (fun q => G.2.2 ≤ q) := by
  refine th_met RX12 (by decide) rfl (Nat.le_of_ble_eq_true rfl) ?_
  intro p e s m below meth c hC hH hr hlocks hnm ls hl
  have hx := hC.1
  have hb := hC.2.1
  have hB : th_B G Γ Γ [(48, 0), (61, 0), (46, 33), (47, 0), (46, 0)] H0 H0 [] := ⟨hI, va_S.rf, th_F_rf⟩
  have hl : lv_has ls 2 [(0, .ref a0), (1, .int p1)] := hl
  have lp1 := ti_lo p1; have up1 := ti_hi p1
  obtain ⟨F, hF0⟩ : ∃ F, F = f_X12_roll (dv G Γ H0) ((a0 : Int)) (p1.toInt) := ⟨_, rfl⟩
  have hF := hF0.trans (f_X12_roll.eq_1 (dv G Γ H0) ((a0 : Int)) (p1.toInt))
  refine lv_aload_n hx hb dX12_roll_0 rfl (lv_at hl 0 rfl) ?_
  refine lv_aload_n hx hb dX12_roll_1 rfl (lv_at hl 0 rfl) ?_
  refine lv_iload_n hx hb dX12_roll_2 rfl (lv_at hl 1 rfl) ?_
  refine th_call (th_runV (As := [.int p1]) (rest := [.ref a0]) hC mf_X12_rollsKept km_X12_385 im_X12_rollsKept se_X12_rollsKept (c_X12_rollsKept l G Γ H0 hB.1 hU a0 h0 hR p1) rfl rfl ⟨Nat.le_of_ble_eq_true rfl, Nat.le_of_ble_eq_true rfl⟩ hB.1 h0 ro_46 rfl rfl hl.1 rfl (Nat.le_of_ble_eq_true rfl) dX12_roll_3 ⟨Nat.le_refl _, Nat.le_refl _⟩) hB.2.1 (fun v3 H3 locs hp hz hS => ?_)
  obtain ⟨x1, rfl, lx1, ux1, hI1, hf, hR, z3_0, z3_1⟩ := hp
  have hB := th_B_c hB hI1 hS hf (by decide)
  replace hF := hF.trans (dv_bn2 (z3_1))
  refine W.eq (g2 := F0 m 6 ls [.int x1, .ref a0]) rfl ?_
  refine th_call (th_runV (As := [.int x1]) (rest := []) hC mf_X12_goodOr km_X12_382 im_X12_goodOr se_X12_goodOr (c_X12_goodOr l G Γ H3 hB.1 hR.1 hU a0 h0 x1 (by omega)) rfl rfl ⟨Nat.le_of_ble_eq_true rfl, Nat.le_of_ble_eq_true rfl⟩ hB.1 h0 ro_46 rfl rfl hl.1 rfl (Nat.le_of_ble_eq_true rfl) dX12_roll_6 ⟨Nat.le_refl _, Nat.le_refl _⟩) hB.2.1 (fun v6 H6 locs hp hz hS => ?_)
  have hRD := hR
  obtain ⟨x2, rfl, hI1, hf, hR, z6_0⟩ := hp
  have hR := th_RN_c hR hRD hI1 h0 hf (by decide)
  have hB := th_B_c hB hI1 hS hf (by decide)
  replace hF := hF.trans (dv_bn2 (z6_0))
  refine W.eq (g2 := F0 m 9 ls [.int x2]) rfl ?_
  exact th_iret hC hH hr hlocks rfl hB.2.1 ⟨_, rfl, hB.1, hB.2.2, hR, (hF0.symm.trans hF)⟩ dX12_roll_9

set_option maxHeartbeats 4000000 in
set_option maxRecDepth 100000 in
theorem c_X12_mirror (l : Launch) (G : th_G) (Γ : th_Ga) (H0 : Heap) (hI : th_I G Γ H0) (hU : dv_U Γ) (a0 : Nat) (h0 : Γ a0 = (46, 0)) (hR : th_RN a0 G Γ H0) : Met l yX12_mirror (.code yX12_mirror cX12_mirror 1 (some FieldType.int) :: th_tb) ({ frames := 3, cells := 0, slots := 0, locals := 64 } : Room) (th_P [.ref a0] G H0) (th_Q (fun (v : Option Value) (H1 : Heap) => ∃ r : Int32, v = some (.int r) ∧ th_I G Γ H1 ∧ th_F G Γ [(48, 0), (61, 0), (46, 33), (47, 0), (46, 0)] H0 H1 ∧ th_RN a0 G Γ H1 ∧ (f_X12_mirror (dv G Γ H0) (a0 : Int) = (dv G Γ H1, r.toInt))) G) 0 0 (fun q => G.2.2 ≤ q) := by
  refine th_met RX12 (by decide) rfl (Nat.le_of_ble_eq_true rfl) ?_
  intro p e s m below meth c hC hH hr hlocks hnm ls hl
  have hx := hC.1
  have hb := hC.2.1
  have hB : th_B G Γ Γ [(48, 0), (61, 0), (46, 33), (47, 0), (46, 0)] H0 H0 [] := ⟨hI, va_S.rf, th_F_rf⟩
  have hl : lv_has ls 1 [(0, .ref a0)] := hl
  obtain ⟨F, hF0⟩ : ∃ F, F = f_X12_mirror (dv G Γ H0) ((a0 : Int)) := ⟨_, rfl⟩
  have hF := hF0.trans (f_X12_mirror.eq_1 (dv G Γ H0) ((a0 : Int)))
  refine lv_aload_n hx hb dX12_mirror_0 rfl (lv_at hl 0 rfl) ?_
  refine lv_aload_n hx hb dX12_mirror_1 rfl (lv_at hl 0 rfl) ?_
  refine th_call (th_runV (As := []) (rest := [.ref a0]) hC mf_X12_mirrorsKept km_X12_388 im_X12_mirrorsKept se_X12_mirrorsKept (c_X12_mirrorsKept l G Γ H0 hB.1 hU a0 h0 hR) rfl rfl ⟨Nat.le_of_ble_eq_true rfl, Nat.le_of_ble_eq_true rfl⟩ hB.1 h0 ro_46 rfl rfl hl.1 rfl (Nat.le_of_ble_eq_true rfl) dX12_mirror_2 ⟨Nat.le_refl _, Nat.le_refl _⟩) hB.2.1 (fun v2 H2 locs hp hz hS => ?_)
  obtain ⟨x1, rfl, lx1, ux1, hI1, hf, hR, z2_0, z2_1⟩ := hp
  have hB := th_B_c hB hI1 hS hf (by decide)
  replace hF := hF.trans (dv_bn2 (z2_1))
  refine W.eq (g2 := F0 m 5 ls [.int x1, .ref a0]) rfl ?_
  refine th_call (th_runV (As := [.int x1]) (rest := []) hC mf_X12_goodOr km_X12_382 im_X12_goodOr se_X12_goodOr (c_X12_goodOr l G Γ H2 hB.1 hR.1 hU a0 h0 x1 (by omega)) rfl rfl ⟨Nat.le_of_ble_eq_true rfl, Nat.le_of_ble_eq_true rfl⟩ hB.1 h0 ro_46 rfl rfl hl.1 rfl (Nat.le_of_ble_eq_true rfl) dX12_mirror_5 ⟨Nat.le_refl _, Nat.le_refl _⟩) hB.2.1 (fun v5 H5 locs hp hz hS => ?_)
  have hRD := hR
  obtain ⟨x2, rfl, hI1, hf, hR, z5_0⟩ := hp
  have hR := th_RN_c hR hRD hI1 h0 hf (by decide)
  have hB := th_B_c hB hI1 hS hf (by decide)
  replace hF := hF.trans (dv_bn2 (z5_0))
  refine W.eq (g2 := F0 m 8 ls [.int x2]) rfl ?_
  exact th_iret hC hH hr hlocks rfl hB.2.1 ⟨_, rfl, hB.1, hB.2.2, hR, (hF0.symm.trans hF)⟩ dX12_mirror_8

set_option maxHeartbeats 4000000 in
set_option maxRecDepth 100000 in
theorem c_X12_pass (l : Launch) (G : th_G) (Γ : th_Ga) (H0 : Heap) (hI : th_I G Γ H0) (hU : dv_U Γ) (a0 : Nat) (h0 : Γ a0 = (46, 0)) (hR : th_RN a0 G Γ H0) : Met l yX12_pass (.code yX12_pass cX12_pass 1 (some FieldType.int) :: th_tb) ({ frames := 54, cells := 0, slots := 0, locals := 1690 } : Room) (th_P [.ref a0] G H0) (th_Q (fun (v : Option Value) (H1 : Heap) => ∃ r : Int32, v = some (.int r) ∧ th_I G Γ H1 ∧ th_F G Γ [(48, 0), (61, 0), (46, 33), (47, 0), (46, 0), (46, 22), (46, 24), (58, 0), (46, 23), (46, 25), (60, 0)] H0 H1 ∧ th_RN a0 G Γ H1 ∧ (f_X12_pass (dv G Γ H0) (a0 : Int) = (dv G Γ H1, r.toInt))) G) 0 0 (fun q => G.2.2 ≤ q) := by
  refine th_met RX12 (by decide) rfl (Nat.le_of_ble_eq_true rfl) ?_
  intro p e s m below meth c hC hH hr hlocks hnm ls hl
  have hx := hC.1
  have hb := hC.2.1
  have hB : th_B G Γ Γ [(48, 0), (61, 0), (46, 33), (47, 0), (46, 0), (46, 22), (46, 24), (58, 0), (46, 23), (46, 25), (60, 0)] H0 H0 [] := ⟨hI, va_S.rf, th_F_rf⟩
  have hl : lv_has ls 1 [(0, .ref a0)] := hl
  obtain ⟨F, hF0⟩ : ∃ F, F = f_X12_pass (dv G Γ H0) ((a0 : Int)) := ⟨_, rfl⟩
  have hF := hF0.trans (f_X12_pass.eq_1 (dv G Γ H0) ((a0 : Int)))
  refine lv_aload_n hx hb dX12_pass_0 rfl (lv_at hl 0 rfl) ?_
  refine lv_aload_n hx hb dX12_pass_1 rfl (lv_at hl 0 rfl) ?_
  refine th_call (th_runV (As := []) (rest := [.ref a0]) hC mf_X12_passesKept km_X12_391 im_X12_passesKept se_X12_passesKept (c_X12_passesKept l G Γ H0 hB.1 hU a0 h0 hR) rfl rfl ⟨Nat.le_of_ble_eq_true rfl, Nat.le_of_ble_eq_true rfl⟩ hB.1 h0 ro_46 rfl rfl hl.1 rfl (Nat.le_of_ble_eq_true rfl) dX12_pass_2 ⟨Nat.le_refl _, Nat.le_refl _⟩) hB.2.1 (fun v2 H2 locs hp hz hS => ?_)
  obtain ⟨x1, rfl, lx1, ux1, hI1, hf, hR, z2_0, z2_1⟩ := hp
  have hB := th_B_c hB hI1 hS hf (by decide)
  replace hF := hF.trans (dv_bn2 (z2_1))
  refine W.eq (g2 := F0 m 5 ls [.int x1, .ref a0]) rfl ?_
  refine th_call (th_runV (As := [.int x1]) (rest := []) hC mf_X12_goodOr km_X12_382 im_X12_goodOr se_X12_goodOr (c_X12_goodOr l G Γ H2 hB.1 hR.1 hU a0 h0 x1 (by omega)) rfl rfl ⟨Nat.le_of_ble_eq_true rfl, Nat.le_of_ble_eq_true rfl⟩ hB.1 h0 ro_46 rfl rfl hl.1 rfl (Nat.le_of_ble_eq_true rfl) dX12_pass_5 ⟨Nat.le_refl _, Nat.le_refl _⟩) hB.2.1 (fun v5 H5 locs hp hz hS => ?_)
  have hRD := hR
  obtain ⟨x2, rfl, hI1, hf, hR, z5_0⟩ := hp
  have hR := th_RN_c hR hRD hI1 h0 hf (by decide)
  have hB := th_B_c hB hI1 hS hf (by decide)
  replace hF := hF.trans (dv_bn2 (z5_0))
  refine W.eq (g2 := F0 m 8 ls [.int x2]) rfl ?_
  exact th_iret hC hH hr hlocks rfl hB.2.1 ⟨_, rfl, hB.1, hB.2.2, hR, (hF0.symm.trans hF)⟩ dX12_pass_8
