set_option maxHeartbeats 4000000 in
set_option maxRecDepth 100000 in
theorem c_X1_isInnerHall (l : Launch) (G : th_G) (Γ : th_Ga) (H0 : Heap) (hI : th_I G Γ H0) (hU : dv_U Γ) (a0 : Nat) (h0 : Γ a0 = (3, 0)) (p1 : Int32) : Met l yX1_isInnerHall (.code yX1_isInnerHall cX1_isInnerHall 8 (some FieldType.boolean) :: th_tb) ({ frames := 2, cells := 0, slots := 0, locals := 42 } : Room) (th_P [.ref a0, .int p1] G H0) (th_Q (fun (v : Option Value) (H1 : Heap) => ∃ r : Int32, v = some (.int r) ∧ 0 ≤ r.toInt ∧ r.toInt ≤ 1 ∧ (f_X1_isInnerHall (dv G Γ H0) (a0 : Int) p1.toInt = (r.toInt, ())) ∧ H0 = H1) G) 0 0 (fun q => G.2.2 ≤ q) := by
  refine th_met RX1 (by decide) rfl (Nat.le_of_ble_eq_true rfl) ?_
  intro p e s m below meth c hC hH hr hlocks hnm ls hl
  have hx := hC.1
  have hb := hC.2.1
  have hB : th_B G Γ Γ [] H0 H0 [] := ⟨hI, va_S.rf, th_F_rf⟩
  have hl : lv_has ls 8 [(0, .ref a0), (1, .int p1)] := hl
  have lp1 := ti_lo p1; have up1 := ti_hi p1
  obtain ⟨F, hF0⟩ : ∃ F, F = f_X1_isInnerHall (dv G Γ H0) ((a0 : Int)) (p1.toInt) := ⟨_, rfl⟩
  have hF := hF0.trans (f_X1_isInnerHall.eq_1 (dv G Γ H0) ((a0 : Int)) (p1.toInt))
  refine lv_bipush (v := 12) hx hb dX1_isInnerHall_0 (by decide) ?_
  refine lv_istore_n (lv' := [(2, .int 12), (0, .ref a0), (1, .int p1)]) hx hb dX1_isInnerHall_2 rfl hl (by decide) rfl (fun ls hl => ?_)
  refine lv_iconst (v := 0) hx hb dX1_isInnerHall_3 (by decide) ?_
  refine lv_istore_n (lv' := [(3, .int 0), (2, .int 12), (0, .ref a0), (1, .int p1)]) hx hb dX1_isInnerHall_4 rfl hl (by decide) rfl (fun ls hl => ?_)
  refine lv_bipush (v := 12) hx hb dX1_isInnerHall_5 (by decide) ?_
  refine lv_istore (lv' := [(4, .int 12), (3, .int 0), (2, .int 12), (0, .ref a0), (1, .int p1)]) hx hb dX1_isInnerHall_7 hl (by decide) rfl (fun ls hl => ?_)
  refine lv_iconst (v := 0) hx hb dX1_isInnerHall_9 (by decide) ?_
  refine lv_istore (lv' := [(5, .int 0), (4, .int 12), (3, .int 0), (2, .int 12), (0, .ref a0), (1, .int p1)]) hx hb dX1_isInnerHall_10 hl (by decide) rfl (fun ls hl => ?_)
  refine lv_iconst (v := 0) hx hb dX1_isInnerHall_12 (by decide) ?_
  refine lv_istore (lv' := [(6, .int 0), (5, .int 0), (4, .int 12), (3, .int 0), (2, .int 12), (0, .ref a0), (1, .int p1)]) hx hb dX1_isInnerHall_13 hl (by decide) rfl (fun ls hl => ?_)
  refine lv_iconst (v := 0) hx hb dX1_isInnerHall_15 (by decide) ?_
  refine lv_istore (lv' := [(7, .int 0), (6, .int 0), (5, .int 0), (4, .int 12), (3, .int 0), (2, .int 12), (0, .ref a0), (1, .int p1)]) hx hb dX1_isInnerHall_16 hl (by decide) rfl (fun ls hl => ?_)
  have lp18 : ∀ (n18 : Nat) (locs : List Loc) (ls : Array Slot) (j18_2 : Int32) (j18_3 : Int32) (j18_4 : Int32) (j18_5 : Int32) (j18_6 : Int32) (j18_7 : Int32), th_B G Γ Γ [] H0 H0 locs → lv_has ls 8 [(0, .ref a0), (1, .int p1), (2, .int j18_2), (3, .int j18_3), (4, .int j18_4), (5, .int j18_5), (6, .int j18_6), (7, .int j18_7)] → F = dv_lp f_X1_isInnerHall_18b (dv G Γ H0, (a0 : Int), p1.toInt, j18_2.toInt, j18_3.toInt, j18_4.toInt, j18_5.toInt, j18_6.toInt, j18_7.toInt) → j18_2.toInt ≤ 12 → 0 ≤ j18_3.toInt → j18_4.toInt ≤ 12 → 0 ≤ j18_5.toInt → 0 ≤ j18_7.toInt → j18_7.toInt ≤ 9 → (2147483648 : Int) - j18_7.toInt ≤ (n18 : Int) → W p l e ({ frames := 2, cells := 0, slots := 0, locals := 42 } : Room) s m ([.ref a0, .int p1] : List Value).toArray below meth c H0 locs 0 0 (MQ below (th_Q (fun (v : Option Value) (H1 : Heap) => ∃ r : Int32, v = some (.int r) ∧ 0 ≤ r.toInt ∧ r.toInt ≤ 1 ∧ (f_X1_isInnerHall (dv G Γ H0) (a0 : Int) p1.toInt = (r.toInt, ())) ∧ H0 = H1) G) ([.ref a0, .int p1] : List Value).toArray s 0 0 (fun q => G.2.2 ≤ q)) (F0 m 18 ls []) := by
    intro n18
    induction n18 with
    | zero => intro locs ls j18_2 j18_3 j18_4 j18_5 j18_6 j18_7 hB hl hF g18_0 g18_1 g18_2 g18_3 g18_4 g18_5 hm18; exact absurd hm18 (by have := ti_hi j18_7; omega)
    | succ n18 ih18 =>
      intro locs ls j18_2 j18_3 j18_4 j18_5 j18_6 j18_7 hB hl hF g18_0 g18_1 g18_2 g18_3 g18_4 g18_5 hm18
      have lj18_2 := ti_lo j18_2; have uj18_2 := ti_hi j18_2
      have lj18_3 := ti_lo j18_3; have uj18_3 := ti_hi j18_3
      have lj18_4 := ti_lo j18_4; have uj18_4 := ti_hi j18_4
      have lj18_5 := ti_lo j18_5; have uj18_5 := ti_hi j18_5
      have lj18_6 := ti_lo j18_6; have uj18_6 := ti_hi j18_6
      have lj18_7 := ti_lo j18_7; have uj18_7 := ti_hi j18_7
      have hm18 : (2147483648 : Int) - j18_7.toInt ≤ (n18 : Int) + 1 := by omega
      replace hF := hF.trans (dv_lp_eq)
      replace hF := hF.trans (congrArg (dv_k f_X1_isInnerHall_18b) (f_X1_isInnerHall_18c.eq_1 (dv G Γ H0) ((a0 : Int)) (p1.toInt) (j18_2.toInt) (j18_3.toInt) (j18_4.toInt) (j18_5.toInt) (j18_6.toInt) (j18_7.toInt)))
      refine lv_iload hx hb dX1_isInnerHall_18 (lv_at hl 7 rfl) ?_
      refine lv_aload_n hx hb dX1_isInnerHall_20 rfl (lv_at hl 0 rfl) ?_
      refine th_getI (j := 7) hC cf_X1 hB.1 h0 ro_3 rfl rfl kf_X1_33 dX1_isInnerHall_21 (fun x1 mx1 lx1 ux1 => ?_)
      replace hF := hF.trans (congrArg (dv_k f_X1_isInnerHall_18b) (dv_bn (dv_getI h0 ro_3 (j := 7) rfl mx1 (by decide))))
      refine tr_icmp_ge (tgt := 144) hx hb dX1_isInnerHall_24 (by decide) (Eq.refl _) (Eq.refl _) (fun c24 => ?_) (fun c24 => ?_)
      · replace hF := hF.trans (congrArg (dv_k f_X1_isInnerHall_18b) (if_pos c24))
        refine lv_iload_n hx hb dX1_isInnerHall_144 rfl (lv_at hl 3 rfl) ?_
        refine lv_iload_n hx hb dX1_isInnerHall_145 rfl (lv_at hl 2 rfl) ?_
        refine lv_isub hx hb dX1_isInnerHall_146 ?_
        refine lv_topi (fun x2 ex2 => ?_)
        have lx2 := ti_lo x2; have ux2 := ti_hi x2
        replace hF := hF.trans (congrArg (dv_k f_X1_isInnerHall_18b) (dv_bn (dv_sub_e (Eq.refl _) (Eq.refl _) ex2)))
        refine lv_iload hx hb dX1_isInnerHall_147 (lv_at hl 5 rfl) ?_
        refine lv_iload hx hb dX1_isInnerHall_149 (lv_at hl 4 rfl) ?_
        refine lv_isub hx hb dX1_isInnerHall_151 ?_
        refine lv_topi (fun x3 ex3 => ?_)
        have lx3 := ti_lo x3; have ux3 := ti_hi x3
        replace hF := hF.trans (congrArg (dv_k f_X1_isInnerHall_18b) (dv_bn (dv_sub_e (Eq.refl _) (Eq.refl _) ex3)))
        refine lv_imul hx hb dX1_isInnerHall_152 ?_
        refine lv_topi (fun x4 ex4 => ?_)
        have lx4 := ti_lo x4; have ux4 := ti_hi x4
        replace hF := hF.trans (congrArg (dv_k f_X1_isInnerHall_18b) (dv_bn (dv_mul_e (Eq.refl _) (Eq.refl _) ex4)))
        refine lv_iload hx hb dX1_isInnerHall_153 (lv_at hl 6 rfl) ?_
        refine tr_icmp_ne (tgt := 176) hx hb dX1_isInnerHall_155 (by decide) (Eq.refl _) (Eq.refl _) (fun c155 => ?_) (fun c155 => ?_)
        · replace hF := hF.trans (congrArg (dv_k f_X1_isInnerHall_18b) (if_pos c155))
          refine lv_iconst (v := 0) hx hb dX1_isInnerHall_176 (by decide) ?_
          replace hF := hF.trans (dv_kr)
          exact th_iret hC hH hr hlocks narrow_b0 hB.2.1 ⟨_, rfl, by decide, by decide, (hF0.symm.trans (hF.trans (by rw [tk_0]))), rfl⟩ dX1_isInnerHall_177
        · replace hF := hF.trans (congrArg (dv_k f_X1_isInnerHall_18b) (if_neg (not_not_intro c155)))
          refine lv_iload hx hb dX1_isInnerHall_158 (lv_at hl 6 rfl) ?_
          refine lv_aload_n hx hb dX1_isInnerHall_160 rfl (lv_at hl 0 rfl) ?_
          refine th_getI (j := 8) hC cf_X1 hB.1 h0 ro_3 rfl rfl kf_X1_37 dX1_isInnerHall_161 (fun x5 mx5 lx5 ux5 => ?_)
          replace hF := hF.trans (congrArg (dv_k f_X1_isInnerHall_18b) (dv_bn (dv_getI h0 ro_3 (j := 8) rfl mx5 (by decide))))
          refine lv_aload_n hx hb dX1_isInnerHall_164 rfl (lv_at hl 0 rfl) ?_
          refine th_getI (j := 9) hC cf_X1 hB.1 h0 ro_3 rfl rfl kf_X1_40 dX1_isInnerHall_165 (fun x6 mx6 lx6 ux6 => ?_)
          replace hF := hF.trans (congrArg (dv_k f_X1_isInnerHall_18b) (dv_bn (dv_getI h0 ro_3 (j := 9) rfl mx6 (by decide))))
          have q8 := ti_mulr (a := x5.toInt) (b := x6.toInt) (A := 12) (B := 12) (by omega) (by omega) (by omega) (by omega)
          generalize hex7 : x5.toInt * x6.toInt = wx7 at q8
          refine tr_imul hx hb dX1_isInnerHall_168 (Eq.refl _) (Eq.refl _) (by rw [hex7]; omega) (by rw [hex7]; omega) (fun x7 ex7 => ?_)
          rw [hex7] at ex7
          replace hF := hF.trans (congrArg (dv_k f_X1_isInnerHall_18b) (dv_bn (hex7.trans ex7.symm)))
          refine tr_icmp_ge (tgt := 176) hx hb dX1_isInnerHall_169 (by decide) (Eq.refl _) (Eq.refl _) (fun c169 => ?_) (fun c169 => ?_)
          · replace hF := hF.trans (congrArg (dv_k f_X1_isInnerHall_18b) (if_pos c169))
            refine lv_iconst (v := 0) hx hb dX1_isInnerHall_176 (by decide) ?_
            replace hF := hF.trans (dv_kr)
            exact th_iret hC hH hr hlocks narrow_b0 hB.2.1 ⟨_, rfl, by decide, by decide, (hF0.symm.trans (hF.trans (by rw [tk_0]))), rfl⟩ dX1_isInnerHall_177
          · replace hF := hF.trans (congrArg (dv_k f_X1_isInnerHall_18b) (if_neg (Int.not_le.mpr c169)))
            refine lv_iconst (v := 1) hx hb dX1_isInnerHall_172 (by decide) ?_
            refine lv_goto (tgt := 177) hx hb dX1_isInnerHall_173 (by decide) ?_
            replace hF := hF.trans (dv_kr)
            exact th_iret hC hH hr hlocks narrow_b1 hB.2.1 ⟨_, rfl, by decide, by decide, (hF0.symm.trans (hF.trans (by rw [tk_1]))), rfl⟩ dX1_isInnerHall_177
      · replace hF := hF.trans (congrArg (dv_k f_X1_isInnerHall_18b) (if_neg (Int.not_le.mpr c24)))
        refine lv_iload_n hx hb dX1_isInnerHall_27 rfl (lv_at hl 1 rfl) ?_
        refine lv_iload hx hb dX1_isInnerHall_28 (lv_at hl 7 rfl) ?_
        refine lv_ishr hx hb dX1_isInnerHall_30 ?_
        refine lv_topi (fun x9 ex9 => ?_)
        have lx9 := ti_lo x9; have ux9 := ti_hi x9
        replace hF := hF.trans (congrArg (dv_k f_X1_isInnerHall_18b) (dv_bn (dv_shr_e (Eq.refl _) (Eq.refl _) ex9)))
        refine lv_iconst (v := 1) hx hb dX1_isInnerHall_31 (by decide) ?_
        refine lv_iand hx hb dX1_isInnerHall_32 ?_
        refine lv_topi (fun x10 ex10 => ?_)
        have lx10 := ti_lo x10; have ux10 := ti_hi x10
        replace hF := hF.trans (congrArg (dv_k f_X1_isInnerHall_18b) (dv_bn (dv_and_e (Eq.refl _) tk_1 ex10)))
        have fx10 := ti_and x9 1 (m := 1) (by decide) (by decide)
        rw [← ex10] at fx10
        have jn138 : ∀ (locs : List Loc) (ls : Array Slot) (j138_2 : Int32) (j138_3 : Int32) (j138_4 : Int32) (j138_5 : Int32) (j138_6 : Int32), th_B G Γ Γ [] H0 H0 locs → lv_has ls 8 [(0, .ref a0), (1, .int p1), (7, .int j18_7), (2, .int j138_2), (3, .int j138_3), (4, .int j138_4), (5, .int j138_5), (6, .int j138_6)] → F = dv_k f_X1_isInnerHall_18b (f_X1_isInnerHall_138 (dv G Γ H0) ((a0 : Int)) (p1.toInt) (j18_7.toInt) (j138_2.toInt) (j138_3.toInt) (j138_4.toInt) (j138_5.toInt) (j138_6.toInt)) → j138_2.toInt ≤ 12 → 0 ≤ j138_3.toInt → j138_4.toInt ≤ 12 → 0 ≤ j138_5.toInt → W p l e ({ frames := 2, cells := 0, slots := 0, locals := 42 } : Room) s m ([.ref a0, .int p1] : List Value).toArray below meth c H0 locs 0 0 (MQ below (th_Q (fun (v : Option Value) (H1 : Heap) => ∃ r : Int32, v = some (.int r) ∧ 0 ≤ r.toInt ∧ r.toInt ≤ 1 ∧ (f_X1_isInnerHall (dv G Γ H0) (a0 : Int) p1.toInt = (r.toInt, ())) ∧ H0 = H1) G) ([.ref a0, .int p1] : List Value).toArray s 0 0 (fun q => G.2.2 ≤ q)) (F0 m 138 ls []) := by
          intro locs ls j138_2 j138_3 j138_4 j138_5 j138_6 hB hl hF g138_0 g138_1 g138_2 g138_3
          have lj138_2 := ti_lo j138_2; have uj138_2 := ti_hi j138_2
          have lj138_3 := ti_lo j138_3; have uj138_3 := ti_hi j138_3
          have lj138_4 := ti_lo j138_4; have uj138_4 := ti_hi j138_4
          have lj138_5 := ti_lo j138_5; have uj138_5 := ti_hi j138_5
          have lj138_6 := ti_lo j138_6; have uj138_6 := ti_hi j138_6
          replace hF := hF.trans (congrArg (dv_k f_X1_isInnerHall_18b) (f_X1_isInnerHall_138.eq_1 (dv G Γ H0) ((a0 : Int)) (p1.toInt) (j18_7.toInt) (j138_2.toInt) (j138_3.toInt) (j138_4.toInt) (j138_5.toInt) (j138_6.toInt)))
          refine tr_iinc (fun x11 => [(7, .int x11), (0, .ref a0), (1, .int p1), (2, .int j138_2), (3, .int j138_3), (4, .int j138_4), (5, .int j138_5), (6, .int j138_6)]) hx hb dX1_isInnerHall_138 hl (k := 2) rfl (Eq.refl _) tk_1 (by omega) (by omega) (by decide) (fun _ => rfl) (fun x11 ls ex11 hl => ?_)
          replace hF := hF.trans (congrArg (dv_k f_X1_isInnerHall_18b) (dv_bn (ex11.symm)))
          refine lv_goto (tgt := 18) hx hb dX1_isInnerHall_141 (by decide) ?_
          replace hF := hF.trans (dv_kl)
          exact ih18 locs ls j138_2 j138_3 j138_4 j138_5 j138_6 x11 hB (lv_sub hl [1, 2, 3, 4, 5, 6, 7, 0] rfl) hF (by omega) (by omega) (by omega) (by omega) (by omega) (by omega) (by omega)
        refine tr_if_ne (tgt := 39) hx hb dX1_isInnerHall_33 (by decide) (Eq.refl _) (fun c33 => ?_) (fun c33 => ?_)
        · replace hF := hF.trans (congrArg (dv_k f_X1_isInnerHall_18b) (if_pos c33))
          refine lv_aload_n hx hb dX1_isInnerHall_39 rfl (lv_at hl 0 rfl) ?_
          refine lv_iload hx hb dX1_isInnerHall_40 (lv_at hl 7 rfl) ?_
          refine th_call (th_runV (As := [.int j18_7]) (rest := []) hC mf_X1_isLaid km_X1_56 im_X1_isLaid se_X1_isLaid (c_X1_isLaid l G Γ H0 hB.1 hU a0 h0 j18_7) rfl rfl ⟨Nat.le_of_ble_eq_true rfl, Nat.le_of_ble_eq_true rfl⟩ hB.1 h0 ro_3 rfl rfl hl.1 rfl (Nat.le_of_ble_eq_true rfl) dX1_isInnerHall_42 ⟨Nat.le_refl _, Nat.le_refl _⟩) hB.2.1 (fun v42 H42 locs hp hz hS => ?_)
          obtain ⟨x12, rfl, lx12, ux12, q42_0, q42_1, q42_2, rfl⟩ := hp
          have hB := th_B_s hB hS
          replace hF := hF.trans (congrArg (dv_k f_X1_isInnerHall_18b) (dv_bn2 (q42_2)))
          refine W.eq (g2 := F0 m 45 ls [.int x12]) rfl ?_
          refine tr_if_ne (tgt := 50) hx hb dX1_isInnerHall_45 (by decide) (Eq.refl _) (fun c45 => ?_) (fun c45 => ?_)
          · replace hF := hF.trans (congrArg (dv_k f_X1_isInnerHall_18b) (if_pos c45))
            refine lv_iload_n hx hb dX1_isInnerHall_50 rfl (lv_at hl 2 rfl) ?_
            refine lv_aload_n hx hb dX1_isInnerHall_51 rfl (lv_at hl 0 rfl) ?_
            refine th_getO (j := 3) (r2 := 7) hC cf_X1 hB.1 h0 ro_3 rfl rfl kf_X1_21 dX1_isInnerHall_52 (fun b13 mb13 hb13 => ?_)
            refine lv_iload hx hb dX1_isInnerHall_55 (lv_at hl 7 rfl) ?_
            refine th_ialdF hC hB.1 hb13 ro_7 rfl (Eq.refl _) (by omega) (by omega) rfl dX1_isInnerHall_57 (fun x14 mx14 lx14 ux14 => ?_)
            replace hF := hF.trans (congrArg (dv_k f_X1_isInnerHall_18b) (dv_bn (dv_aldI hB.1 hU hb13 ow_7 (z := j18_7.toInt) mx14 (by omega))))
            refine tr_mmin hC kma_X1_96 hl.1 (Eq.refl _) (Eq.refl _) (Nat.le_of_ble_eq_true rfl) (Nat.le_of_ble_eq_true rfl) (Nat.le_of_ble_eq_true rfl) (Nat.le_of_ble_eq_true rfl) dX1_isInnerHall_58 (fun x15 ex15 => ?_)
            replace hF := hF.trans (congrArg (dv_k f_X1_isInnerHall_18b) (dv_bn (dv_min_e ex15)))
            refine lv_istore_n (lv' := [(2, .int x15), (0, .ref a0), (1, .int p1), (3, .int j18_3), (4, .int j18_4), (5, .int j18_5), (6, .int j18_6), (7, .int j18_7)]) hx hb dX1_isInnerHall_61 rfl hl (by decide) rfl (fun ls hl => ?_)
            refine lv_iload_n hx hb dX1_isInnerHall_62 rfl (lv_at hl 3 rfl) ?_
            refine lv_aload_n hx hb dX1_isInnerHall_63 rfl (lv_at hl 1 rfl) ?_
            refine th_getK hC cf_X1 hB.1 h0 ro_3 rfl (j := 3) (by decide) mb13 kf_X1_21 dX1_isInnerHall_64 ?_
            refine lv_iload hx hb dX1_isInnerHall_67 (lv_at hl 7 rfl) ?_
            refine th_ialdF hC hB.1 hb13 ro_7 rfl (Eq.refl _) (by omega) (by omega) rfl dX1_isInnerHall_69 (fun x16 mx16 lx16 ux16 => ?_)
            replace hF := hF.trans (congrArg (dv_k f_X1_isInnerHall_18b) (dv_bn (dv_aldI hB.1 hU hb13 ow_7 (z := j18_7.toInt) mx16 (by omega))))
            have qx16 : x16.toInt = x14.toInt := by rw [show x16 = x14 from Value.int.inj (mx16.symm.trans mx14)]
            refine lv_aload_n hx hb dX1_isInnerHall_70 rfl (lv_at hl 1 rfl) ?_
            refine th_getO (j := 0) (r2 := 4) hC cf_X1 hB.1 h0 ro_3 rfl rfl kf_X1_9 dX1_isInnerHall_71 (fun b17 mb17 hb17 => ?_)
            refine lv_iload hx hb dX1_isInnerHall_74 (lv_at hl 7 rfl) ?_
            refine th_ialdF hC hB.1 hb17 ro_4 rfl (Eq.refl _) (by omega) (by omega) rfl dX1_isInnerHall_76 (fun x18 mx18 lx18 ux18 => ?_)
            replace hF := hF.trans (congrArg (dv_k f_X1_isInnerHall_18b) (dv_bn (dv_aldI hB.1 hU hb17 ow_4 (z := j18_7.toInt) mx18 (by omega))))
            refine lv_iadd hx hb dX1_isInnerHall_77 ?_
            refine lv_topi (fun x19 ex19 => ?_)
            have lx19 := ti_lo x19; have ux19 := ti_hi x19
            replace hF := hF.trans (congrArg (dv_k f_X1_isInnerHall_18b) (dv_bn (dv_add_e (Eq.refl _) (Eq.refl _) ex19)))
            refine tr_mmax hC kma_X1_72 hl.1 (Eq.refl _) (Eq.refl _) (Nat.le_of_ble_eq_true rfl) (Nat.le_of_ble_eq_true rfl) (Nat.le_of_ble_eq_true rfl) (Nat.le_of_ble_eq_true rfl) dX1_isInnerHall_78 (fun x20 ex20 => ?_)
            replace hF := hF.trans (congrArg (dv_k f_X1_isInnerHall_18b) (dv_bn (dv_max_e ex20)))
            refine lv_istore_n (lv' := [(3, .int x20), (2, .int x15), (0, .ref a0), (1, .int p1), (4, .int j18_4), (5, .int j18_5), (6, .int j18_6), (7, .int j18_7)]) hx hb dX1_isInnerHall_81 rfl hl (by decide) rfl (fun ls hl => ?_)
            refine lv_iload hx hb dX1_isInnerHall_82 (lv_at hl 4 rfl) ?_
            refine lv_aload_n hx hb dX1_isInnerHall_84 rfl (lv_at hl 2 rfl) ?_
            refine th_getO (j := 4) (r2 := 8) hC cf_X1 hB.1 h0 ro_3 rfl rfl kf_X1_24 dX1_isInnerHall_85 (fun b21 mb21 hb21 => ?_)
            refine lv_iload hx hb dX1_isInnerHall_88 (lv_at hl 7 rfl) ?_
            refine th_ialdF hC hB.1 hb21 ro_8 rfl (Eq.refl _) (by omega) (by omega) rfl dX1_isInnerHall_90 (fun x22 mx22 lx22 ux22 => ?_)
            replace hF := hF.trans (congrArg (dv_k f_X1_isInnerHall_18b) (dv_bn (dv_aldI hB.1 hU hb21 ow_8 (z := j18_7.toInt) mx22 (by omega))))
            refine tr_mmin hC kma_X1_96 hl.1 (Eq.refl _) (Eq.refl _) (Nat.le_of_ble_eq_true rfl) (Nat.le_of_ble_eq_true rfl) (Nat.le_of_ble_eq_true rfl) (Nat.le_of_ble_eq_true rfl) dX1_isInnerHall_91 (fun x23 ex23 => ?_)
            replace hF := hF.trans (congrArg (dv_k f_X1_isInnerHall_18b) (dv_bn (dv_min_e ex23)))
            refine lv_istore (lv' := [(4, .int x23), (3, .int x20), (2, .int x15), (0, .ref a0), (1, .int p1), (5, .int j18_5), (6, .int j18_6), (7, .int j18_7)]) hx hb dX1_isInnerHall_94 hl (by decide) rfl (fun ls hl => ?_)
            refine lv_iload hx hb dX1_isInnerHall_96 (lv_at hl 5 rfl) ?_
            refine lv_aload_n hx hb dX1_isInnerHall_98 rfl (lv_at hl 3 rfl) ?_
            refine th_getK hC cf_X1 hB.1 h0 ro_3 rfl (j := 4) (by decide) mb21 kf_X1_24 dX1_isInnerHall_99 ?_
            refine lv_iload hx hb dX1_isInnerHall_102 (lv_at hl 7 rfl) ?_
            refine th_ialdF hC hB.1 hb21 ro_8 rfl (Eq.refl _) (by omega) (by omega) rfl dX1_isInnerHall_104 (fun x24 mx24 lx24 ux24 => ?_)
            replace hF := hF.trans (congrArg (dv_k f_X1_isInnerHall_18b) (dv_bn (dv_aldI hB.1 hU hb21 ow_8 (z := j18_7.toInt) mx24 (by omega))))
            have qx24 : x24.toInt = x22.toInt := by rw [show x24 = x22 from Value.int.inj (mx24.symm.trans mx22)]
            refine lv_aload_n hx hb dX1_isInnerHall_105 rfl (lv_at hl 3 rfl) ?_
            refine th_getK hC cf_X1 hB.1 h0 ro_3 rfl (j := 0) (by decide) mb17 kf_X1_9 dX1_isInnerHall_106 ?_
            refine lv_iload hx hb dX1_isInnerHall_109 (lv_at hl 7 rfl) ?_
            refine th_ialdF hC hB.1 hb17 ro_4 rfl (Eq.refl _) (by omega) (by omega) rfl dX1_isInnerHall_111 (fun x25 mx25 lx25 ux25 => ?_)
            replace hF := hF.trans (congrArg (dv_k f_X1_isInnerHall_18b) (dv_bn (dv_aldI hB.1 hU hb17 ow_4 (z := j18_7.toInt) mx25 (by omega))))
            have qx25 : x25.toInt = x18.toInt := by rw [show x25 = x18 from Value.int.inj (mx25.symm.trans mx18)]
            refine lv_iadd hx hb dX1_isInnerHall_112 ?_
            refine lv_topi (fun x26 ex26 => ?_)
            have lx26 := ti_lo x26; have ux26 := ti_hi x26
            replace hF := hF.trans (congrArg (dv_k f_X1_isInnerHall_18b) (dv_bn (dv_add_e (Eq.refl _) (Eq.refl _) ex26)))
            refine tr_mmax hC kma_X1_72 hl.1 (Eq.refl _) (Eq.refl _) (Nat.le_of_ble_eq_true rfl) (Nat.le_of_ble_eq_true rfl) (Nat.le_of_ble_eq_true rfl) (Nat.le_of_ble_eq_true rfl) dX1_isInnerHall_113 (fun x27 ex27 => ?_)
            replace hF := hF.trans (congrArg (dv_k f_X1_isInnerHall_18b) (dv_bn (dv_max_e ex27)))
            refine lv_istore (lv' := [(5, .int x27), (4, .int x23), (3, .int x20), (2, .int x15), (0, .ref a0), (1, .int p1), (6, .int j18_6), (7, .int j18_7)]) hx hb dX1_isInnerHall_116 hl (by decide) rfl (fun ls hl => ?_)
            refine lv_iload hx hb dX1_isInnerHall_118 (lv_at hl 6 rfl) ?_
            refine lv_aload_n hx hb dX1_isInnerHall_120 rfl (lv_at hl 4 rfl) ?_
            refine th_getK hC cf_X1 hB.1 h0 ro_3 rfl (j := 0) (by decide) mb17 kf_X1_9 dX1_isInnerHall_121 ?_
            refine lv_iload hx hb dX1_isInnerHall_124 (lv_at hl 7 rfl) ?_
            refine th_ialdF hC hB.1 hb17 ro_4 rfl (Eq.refl _) (by omega) (by omega) rfl dX1_isInnerHall_126 (fun x28 mx28 lx28 ux28 => ?_)
            replace hF := hF.trans (congrArg (dv_k f_X1_isInnerHall_18b) (dv_bn (dv_aldI hB.1 hU hb17 ow_4 (z := j18_7.toInt) mx28 (by omega))))
            have qx28 : x28.toInt = x18.toInt := by rw [show x28 = x18 from Value.int.inj (mx28.symm.trans mx18)]
            refine lv_aload_n hx hb dX1_isInnerHall_127 rfl (lv_at hl 4 rfl) ?_
            refine th_getK hC cf_X1 hB.1 h0 ro_3 rfl (j := 0) (by decide) mb17 kf_X1_9 dX1_isInnerHall_128 ?_
            refine lv_iload hx hb dX1_isInnerHall_131 (lv_at hl 7 rfl) ?_
            refine th_ialdF hC hB.1 hb17 ro_4 rfl (Eq.refl _) (by omega) (by omega) rfl dX1_isInnerHall_133 (fun x29 mx29 lx29 ux29 => ?_)
            replace hF := hF.trans (congrArg (dv_k f_X1_isInnerHall_18b) (dv_bn (dv_aldI hB.1 hU hb17 ow_4 (z := j18_7.toInt) mx29 (by omega))))
            have qx29 : x29.toInt = x18.toInt := by rw [show x29 = x18 from Value.int.inj (mx29.symm.trans mx18)]
            have q31 := ti_mulr (a := x28.toInt) (b := x29.toInt) (A := 12) (B := 12) (by omega) (by omega) (by omega) (by omega)
            generalize hex30 : x28.toInt * x29.toInt = wx30 at q31
            refine tr_imul hx hb dX1_isInnerHall_134 (Eq.refl _) (Eq.refl _) (by rw [hex30]; omega) (by rw [hex30]; omega) (fun x30 ex30 => ?_)
            rw [hex30] at ex30
            replace hF := hF.trans (congrArg (dv_k f_X1_isInnerHall_18b) (dv_bn (hex30.trans ex30.symm)))
            refine lv_iadd hx hb dX1_isInnerHall_135 ?_
            refine lv_topi (fun x32 ex32 => ?_)
            have lx32 := ti_lo x32; have ux32 := ti_hi x32
            replace hF := hF.trans (congrArg (dv_k f_X1_isInnerHall_18b) (dv_bn (dv_add_e (Eq.refl _) (Eq.refl _) ex32)))
            refine lv_istore (lv' := [(6, .int x32), (5, .int x27), (4, .int x23), (3, .int x20), (2, .int x15), (0, .ref a0), (1, .int p1), (7, .int j18_7)]) hx hb dX1_isInnerHall_136 hl (by decide) rfl (fun ls hl => ?_)
            exact jn138 locs ls x15 x20 x23 x27 x32 hB (lv_sub hl [5, 6, 7, 4, 3, 2, 1, 0] rfl) hF (by omega) (by omega) (by omega) (by omega)
          · replace hF := hF.trans (congrArg (dv_k f_X1_isInnerHall_18b) (if_neg (not_not_intro c45)))
            refine lv_iconst (v := 0) hx hb dX1_isInnerHall_48 (by decide) ?_
            replace hF := hF.trans (dv_kr)
            exact th_iret hC hH hr hlocks narrow_b0 hB.2.1 ⟨_, rfl, by decide, by decide, (hF0.symm.trans (hF.trans (by rw [tk_0]))), rfl⟩ dX1_isInnerHall_49
        · replace hF := hF.trans (congrArg (dv_k f_X1_isInnerHall_18b) (if_neg (not_not_intro c33)))
          refine lv_goto (tgt := 138) hx hb dX1_isInnerHall_36 (by decide) ?_
          exact jn138 locs ls j18_2 j18_3 j18_4 j18_5 j18_6 hB (lv_sub hl [0, 1, 7, 2, 3, 4, 5, 6] rfl) hF (by omega) (by omega) (by omega) (by omega)
  exact lp18 ((2147483648 : Int) - (0)).toNat [] ls 12 0 12 0 0 0 hB (lv_sub hl [6, 7, 5, 4, 3, 2, 1, 0] rfl) (by rw [tk_12, tk_0]; exact hF) (by decide) (by decide) (by decide) (by decide) (by decide) (by decide) (by have w0 := tk_0; have w1 := tk_12; omega)

set_option maxHeartbeats 4000000 in
set_option maxRecDepth 100000 in
theorem c_X1_innerHalls (l : Launch) (G : th_G) (Γ : th_Ga) (H0 : Heap) (hI : th_I G Γ H0) (hU : dv_U Γ) (a0 : Nat) (h0 : Γ a0 = (3, 0)) : Met l yX1_innerHalls (.code yX1_innerHalls cX1_innerHalls 3 (some FieldType.int) :: th_tb) ({ frames := 3, cells := 0, slots := 0, locals := 69 } : Room) (th_P [.ref a0] G H0) (th_Q (fun (v : Option Value) (H1 : Heap) => ∃ r : Int32, v = some (.int r) ∧ (f_X1_innerHalls (dv G Γ H0) (a0 : Int) = (r.toInt, ())) ∧ H0 = H1) G) 0 0 (fun q => G.2.2 ≤ q) := by
  refine th_met RX1 (by decide) rfl (Nat.le_of_ble_eq_true rfl) ?_
  intro p e s m below meth c hC hH hr hlocks hnm ls hl
  have hx := hC.1
  have hb := hC.2.1
  have hB : th_B G Γ Γ [] H0 H0 [] := ⟨hI, va_S.rf, th_F_rf⟩
  have hl : lv_has ls 3 [(0, .ref a0)] := hl
  obtain ⟨F, hF0⟩ : ∃ F, F = f_X1_innerHalls (dv G Γ H0) ((a0 : Int)) := ⟨_, rfl⟩
  have hF := hF0.trans (f_X1_innerHalls.eq_1 (dv G Γ H0) ((a0 : Int)))
  refine lv_iconst (v := 0) hx hb dX1_innerHalls_0 (by decide) ?_
  refine lv_istore_n (lv' := [(1, .int 0), (0, .ref a0)]) hx hb dX1_innerHalls_1 rfl hl (by decide) rfl (fun ls hl => ?_)
  refine lv_iconst (v := 0) hx hb dX1_innerHalls_2 (by decide) ?_
  refine lv_istore_n (lv' := [(2, .int 0), (1, .int 0), (0, .ref a0)]) hx hb dX1_innerHalls_3 rfl hl (by decide) rfl (fun ls hl => ?_)
  have lp4 : ∀ (n4 : Nat) (locs : List Loc) (ls : Array Slot) (j4_1 : Int32) (j4_2 : Int32), th_B G Γ Γ [] H0 H0 locs → lv_has ls 3 [(0, .ref a0), (1, .int j4_1), (2, .int j4_2)] → F = dv_lp f_X1_innerHalls_4b (dv G Γ H0, (a0 : Int), j4_1.toInt, j4_2.toInt) → (2147483648 : Int) - j4_2.toInt ≤ (n4 : Int) → W p l e ({ frames := 3, cells := 0, slots := 0, locals := 69 } : Room) s m ([.ref a0] : List Value).toArray below meth c H0 locs 0 0 (MQ below (th_Q (fun (v : Option Value) (H1 : Heap) => ∃ r : Int32, v = some (.int r) ∧ (f_X1_innerHalls (dv G Γ H0) (a0 : Int) = (r.toInt, ())) ∧ H0 = H1) G) ([.ref a0] : List Value).toArray s 0 0 (fun q => G.2.2 ≤ q)) (F0 m 4 ls []) := by
    intro n4
    induction n4 with
    | zero => intro locs ls j4_1 j4_2 hB hl hF hm4; exact absurd hm4 (by have := ti_hi j4_2; omega)
    | succ n4 ih4 =>
      intro locs ls j4_1 j4_2 hB hl hF hm4
      have lj4_1 := ti_lo j4_1; have uj4_1 := ti_hi j4_1
      have lj4_2 := ti_lo j4_2; have uj4_2 := ti_hi j4_2
      have hm4 : (2147483648 : Int) - j4_2.toInt ≤ (n4 : Int) + 1 := by omega
      replace hF := hF.trans (dv_lp_eq)
      replace hF := hF.trans (congrArg (dv_k f_X1_innerHalls_4b) (f_X1_innerHalls_4c.eq_1 (dv G Γ H0) ((a0 : Int)) (j4_1.toInt) (j4_2.toInt)))
      refine lv_iload_n hx hb dX1_innerHalls_4 rfl (lv_at hl 2 rfl) ?_
      refine lv_iconst (v := 1) hx hb dX1_innerHalls_5 (by decide) ?_
      refine lv_aload_n hx hb dX1_innerHalls_6 rfl (lv_at hl 0 rfl) ?_
      refine th_getI (j := 7) hC cf_X1 hB.1 h0 ro_3 rfl rfl kf_X1_33 dX1_innerHalls_7 (fun x1 mx1 lx1 ux1 => ?_)
      replace hF := hF.trans (congrArg (dv_k f_X1_innerHalls_4b) (dv_bn (dv_getI h0 ro_3 (j := 7) rfl mx1 (by decide))))
      refine lv_ishl hx hb dX1_innerHalls_10 ?_
      refine lv_topi (fun x2 ex2 => ?_)
      have lx2 := ti_lo x2; have ux2 := ti_hi x2
      replace hF := hF.trans (congrArg (dv_k f_X1_innerHalls_4b) (dv_bn (dv_shl_e tk_1 (Eq.refl _) ex2)))
      refine tr_icmp_ge (tgt := 39) hx hb dX1_innerHalls_11 (by decide) (Eq.refl _) (Eq.refl _) (fun c11 => ?_) (fun c11 => ?_)
      · replace hF := hF.trans (congrArg (dv_k f_X1_innerHalls_4b) (if_pos c11))
        refine lv_iload_n hx hb dX1_innerHalls_39 rfl (lv_at hl 1 rfl) ?_
        replace hF := hF.trans (dv_kr)
        exact th_iret hC hH hr hlocks rfl hB.2.1 ⟨_, rfl, (hF0.symm.trans hF), rfl⟩ dX1_innerHalls_40
      · replace hF := hF.trans (congrArg (dv_k f_X1_innerHalls_4b) (if_neg (Int.not_le.mpr c11)))
        refine lv_iload_n hx hb dX1_innerHalls_14 rfl (lv_at hl 2 rfl) ?_
        refine th_call (th_runS (As := [.int j4_2]) (rest := []) hC mf_J6_bitCount_0f7a4 km_X1_87 st_J6_bitCount_0f7a4 (c_J6_bitCount_0f7a4 l G Γ H0 hB.1 hU j4_2) rfl rfl ⟨Nat.le_of_ble_eq_true rfl, Nat.le_of_ble_eq_true rfl⟩ rfl hl.1 rfl (Nat.le_of_ble_eq_true rfl) dX1_innerHalls_15 ⟨Nat.le_refl _, Nat.le_refl _⟩) hB.2.1 (fun v15 H15 locs hp hz hS => ?_)
        obtain ⟨x3, rfl, q15_0, rfl⟩ := hp
        have hB := th_B_s hB hS
        replace hF := hF.trans (congrArg (dv_k f_X1_innerHalls_4b) (dv_bn2 (q15_0)))
        refine W.eq (g2 := F0 m 18 ls [.int x3]) rfl ?_
        refine lv_iconst (v := 2) hx hb dX1_innerHalls_18 (by decide) ?_
        have jn33 : ∀ (locs : List Loc) (ls : Array Slot) (j33_1 : Int32), th_B G Γ Γ [] H0 H0 locs → lv_has ls 3 [(0, .ref a0), (2, .int j4_2), (1, .int j33_1)] → F = dv_k f_X1_innerHalls_4b (f_X1_innerHalls_33 (dv G Γ H0) ((a0 : Int)) (j4_2.toInt) (j33_1.toInt)) → W p l e ({ frames := 3, cells := 0, slots := 0, locals := 69 } : Room) s m ([.ref a0] : List Value).toArray below meth c H0 locs 0 0 (MQ below (th_Q (fun (v : Option Value) (H1 : Heap) => ∃ r : Int32, v = some (.int r) ∧ (f_X1_innerHalls (dv G Γ H0) (a0 : Int) = (r.toInt, ())) ∧ H0 = H1) G) ([.ref a0] : List Value).toArray s 0 0 (fun q => G.2.2 ≤ q)) (F0 m 33 ls []) := by
          intro locs ls j33_1 hB hl hF
          have lj33_1 := ti_lo j33_1; have uj33_1 := ti_hi j33_1
          replace hF := hF.trans (congrArg (dv_k f_X1_innerHalls_4b) (f_X1_innerHalls_33.eq_1 (dv G Γ H0) ((a0 : Int)) (j4_2.toInt) (j33_1.toInt)))
          refine tr_iinc (fun x4 => [(2, .int x4), (0, .ref a0), (1, .int j33_1)]) hx hb dX1_innerHalls_33 hl (k := 1) rfl (Eq.refl _) tk_1 (by omega) (by omega) (by decide) (fun _ => rfl) (fun x4 ls ex4 hl => ?_)
          replace hF := hF.trans (congrArg (dv_k f_X1_innerHalls_4b) (dv_bn (ex4.symm)))
          refine lv_goto (tgt := 4) hx hb dX1_innerHalls_36 (by decide) ?_
          replace hF := hF.trans (dv_kl)
          exact ih4 locs ls j33_1 x4 hB (lv_sub hl [1, 2, 0] rfl) hF (by omega)
        refine tr_icmp_lt (tgt := 33) hx hb dX1_innerHalls_19 (by decide) (Eq.refl _) tk_2 (fun c19 => ?_) (fun c19 => ?_)
        · replace hF := hF.trans (congrArg (dv_k f_X1_innerHalls_4b) (if_pos c19))
          exact jn33 locs ls j4_1 hB (lv_sub hl [0, 2, 1] rfl) hF
        · replace hF := hF.trans (congrArg (dv_k f_X1_innerHalls_4b) (if_neg (Int.not_lt.mpr c19)))
          refine lv_aload_n hx hb dX1_innerHalls_22 rfl (lv_at hl 0 rfl) ?_
          refine lv_iload_n hx hb dX1_innerHalls_23 rfl (lv_at hl 2 rfl) ?_
          refine th_call (th_runV (As := [.int j4_2]) (rest := []) hC mf_X1_isInnerHall km_X1_93 im_X1_isInnerHall se_X1_isInnerHall (c_X1_isInnerHall l G Γ H0 hB.1 hU a0 h0 j4_2) rfl rfl ⟨Nat.le_of_ble_eq_true rfl, Nat.le_of_ble_eq_true rfl⟩ hB.1 h0 ro_3 rfl rfl hl.1 rfl (Nat.le_of_ble_eq_true rfl) dX1_innerHalls_24 ⟨Nat.le_refl _, Nat.le_refl _⟩) hB.2.1 (fun v24 H24 locs hp hz hS => ?_)
          obtain ⟨x5, rfl, lx5, ux5, q24_0, rfl⟩ := hp
          have hB := th_B_s hB hS
          replace hF := hF.trans (congrArg (dv_k f_X1_innerHalls_4b) (dv_bn2 (q24_0)))
          refine W.eq (g2 := F0 m 27 ls [.int x5]) rfl ?_
          refine tr_if_eq (tgt := 33) hx hb dX1_innerHalls_27 (by decide) (Eq.refl _) (fun c27 => ?_) (fun c27 => ?_)
          · replace hF := hF.trans (congrArg (dv_k f_X1_innerHalls_4b) (if_pos c27))
            exact jn33 locs ls j4_1 hB (lv_sub hl [0, 2, 1] rfl) hF
          · replace hF := hF.trans (congrArg (dv_k f_X1_innerHalls_4b) (if_neg c27))
            refine tr_iincE (fun x6 => [(1, .int x6), (0, .ref a0), (2, .int j4_2)]) hx hb dX1_innerHalls_30 hl (k := 1) rfl (Eq.refl _) (by decide) (fun _ => rfl) (fun x6 ls ex6 hl => ?_)
            have lx6 := ti_lo x6; have ux6 := ti_hi x6
            replace hF := hF.trans (congrArg (dv_k f_X1_innerHalls_4b) (dv_bn (ex6)))
            exact jn33 locs ls x6 hB (lv_sub hl [1, 2, 0] rfl) hF
  exact lp4 ((2147483648 : Int) - (0)).toNat [] ls 0 0 hB (lv_sub hl [2, 1, 0] rfl) (by rw [tk_0]; exact hF) (by have w0 := tk_0; omega)

set_option maxHeartbeats 4000000 in
set_option maxRecDepth 100000 in
theorem c_X1_add (l : Launch) (G : th_G) (Γ : th_Ga) (H0 : Heap) (hI : th_I G Γ H0) (hR : th_RC G Γ H0) (hU : dv_U Γ) (a0 : Nat) (h0 : Γ a0 = (3, 0)) (p1 : Int32) (p2 : Int32) (p3 : Int32) : Met l yX1_add (.code yX1_add cX1_add 4 (some FieldType.int) :: th_tb) ({ frames := 0, cells := 0, slots := 0, locals := 0 } : Room) (th_P [.ref a0, .int p1, .int p2, .int p3] G H0) (th_Q (fun (v : Option Value) (H1 : Heap) => ∃ r : Int32, v = some (.int r) ∧ (-5) ≤ r.toInt ∧ r.toInt ≤ 8 ∧ th_I G Γ H1 ∧ th_F G Γ [(4, 0), (5, 0), (6, 0), (3, 7), (7, 0), (8, 0)] H0 H1 ∧ th_RC G Γ H1 ∧ (f_X1_add (dv G Γ H0) (a0 : Int) p1.toInt p2.toInt p3.toInt = (dv G Γ H1, r.toInt))) G) 0 0 (fun q => G.2.2 ≤ q) := by
  refine th_met RX1 (by decide) rfl (Nat.le_of_ble_eq_true rfl) ?_
  intro p e s m below meth c hC hH hr hlocks hnm ls hl
  have hx := hC.1
  have hb := hC.2.1
  have hB : th_B G Γ Γ [(4, 0), (5, 0), (6, 0), (3, 7), (7, 0), (8, 0)] H0 H0 [] := ⟨hI, va_S.rf, th_F_rf⟩
  have hl : lv_has ls 4 [(0, .ref a0), (1, .int p1), (2, .int p2), (3, .int p3)] := hl
  have lp1 := ti_lo p1; have up1 := ti_hi p1
  have lp2 := ti_lo p2; have up2 := ti_hi p2
  have lp3 := ti_lo p3; have up3 := ti_hi p3
  obtain ⟨F, hF0⟩ : ∃ F, F = f_X1_add (dv G Γ H0) ((a0 : Int)) (p1.toInt) (p2.toInt) (p3.toInt) := ⟨_, rfl⟩
  have hF := hF0.trans (f_X1_add.eq_1 (dv G Γ H0) ((a0 : Int)) (p1.toInt) (p2.toInt) (p3.toInt))
  refine lv_iload_n hx hb dX1_add_0 rfl (lv_at hl 1 rfl) ?_
  refine lv_iconst (v := 1) hx hb dX1_add_1 (by decide) ?_
  refine tr_icmp_lt (tgt := 30) hx hb dX1_add_2 (by decide) (Eq.refl _) tk_1 (fun c2 => ?_) (fun c2 => ?_)
  · replace hF := hF.trans (if_pos c2)
    refine lv_iconst (v := (-1)) hx hb dX1_add_30 (by decide) ?_
    exact th_iret hC hH hr hlocks rfl hB.2.1 ⟨_, rfl, by decide, by decide, hB.1, hB.2.2, hR, (hF0.symm.trans (hF.trans (by rw [tk_m1])))⟩ dX1_add_31
  · replace hF := hF.trans (if_neg (Int.not_lt.mpr c2))
    refine lv_iload_n hx hb dX1_add_5 rfl (lv_at hl 1 rfl) ?_
    refine lv_bipush (v := 12) hx hb dX1_add_6 (by decide) ?_
    refine tr_icmp_gt (tgt := 30) hx hb dX1_add_8 (by decide) (Eq.refl _) tk_12 (fun c8 => ?_) (fun c8 => ?_)
    · replace hF := hF.trans (if_pos c8)
      refine lv_iconst (v := (-1)) hx hb dX1_add_30 (by decide) ?_
      exact th_iret hC hH hr hlocks rfl hB.2.1 ⟨_, rfl, by decide, by decide, hB.1, hB.2.2, hR, (hF0.symm.trans (hF.trans (by rw [tk_m1])))⟩ dX1_add_31
    · replace hF := hF.trans (if_neg (Int.not_lt.mpr c8))
      refine lv_iload_n hx hb dX1_add_11 rfl (lv_at hl 2 rfl) ?_
      refine tr_if_lt (tgt := 30) hx hb dX1_add_12 (by decide) (Eq.refl _) (fun c12 => ?_) (fun c12 => ?_)
      · replace hF := hF.trans (if_pos c12)
        refine lv_iconst (v := (-1)) hx hb dX1_add_30 (by decide) ?_
        exact th_iret hC hH hr hlocks rfl hB.2.1 ⟨_, rfl, by decide, by decide, hB.1, hB.2.2, hR, (hF0.symm.trans (hF.trans (by rw [tk_m1])))⟩ dX1_add_31
      · replace hF := hF.trans (if_neg (Int.not_lt.mpr c12))
        refine lv_iload_n hx hb dX1_add_15 rfl (lv_at hl 2 rfl) ?_
        refine lv_iconst (v := 3) hx hb dX1_add_16 (by decide) ?_
        refine tr_icmp_gt (tgt := 30) hx hb dX1_add_17 (by decide) (Eq.refl _) tk_3 (fun c17 => ?_) (fun c17 => ?_)
        · replace hF := hF.trans (if_pos c17)
          refine lv_iconst (v := (-1)) hx hb dX1_add_30 (by decide) ?_
          exact th_iret hC hH hr hlocks rfl hB.2.1 ⟨_, rfl, by decide, by decide, hB.1, hB.2.2, hR, (hF0.symm.trans (hF.trans (by rw [tk_m1])))⟩ dX1_add_31
        · replace hF := hF.trans (if_neg (Int.not_lt.mpr c17))
          refine lv_iload_n hx hb dX1_add_20 rfl (lv_at hl 3 rfl) ?_
          refine tr_if_lt (tgt := 30) hx hb dX1_add_21 (by decide) (Eq.refl _) (fun c21 => ?_) (fun c21 => ?_)
          · replace hF := hF.trans (if_pos c21)
            refine lv_iconst (v := (-1)) hx hb dX1_add_30 (by decide) ?_
            exact th_iret hC hH hr hlocks rfl hB.2.1 ⟨_, rfl, by decide, by decide, hB.1, hB.2.2, hR, (hF0.symm.trans (hF.trans (by rw [tk_m1])))⟩ dX1_add_31
          · replace hF := hF.trans (if_neg (Int.not_lt.mpr c21))
            refine lv_iload_n hx hb dX1_add_24 rfl (lv_at hl 3 rfl) ?_
            refine lv_bipush (v := 9) hx hb dX1_add_25 (by decide) ?_
            refine tr_icmp_le (tgt := 32) hx hb dX1_add_27 (by decide) (Eq.refl _) tk_9 (fun c27 => ?_) (fun c27 => ?_)
            · replace hF := hF.trans (if_pos c27)
              refine lv_aload_n hx hb dX1_add_32 rfl (lv_at hl 0 rfl) ?_
              refine th_getI (j := 7) hC cf_X1 hB.1 h0 ro_3 rfl rfl kf_X1_33 dX1_add_33 (fun x1 mx1 lx1 ux1 => ?_)
              replace hF := hF.trans (dv_bn (dv_getI h0 ro_3 (j := 7) rfl mx1 (by decide)))
              refine lv_bipush (v := 9) hx hb dX1_add_36 (by decide) ?_
              refine tr_icmp_lt (tgt := 44) hx hb dX1_add_38 (by decide) (Eq.refl _) tk_9 (fun c38 => ?_) (fun c38 => ?_)
              · replace hF := hF.trans (if_pos c38)
                refine lv_aload_n hx hb dX1_add_44 rfl (lv_at hl 0 rfl) ?_
                refine th_getO (j := 0) (r2 := 4) hC cf_X1 hB.1 h0 ro_3 rfl rfl kf_X1_9 dX1_add_45 (fun b2 mb2 hb2 => ?_)
                refine lv_aload_n hx hb dX1_add_48 rfl (lv_at hl 0 rfl) ?_
                refine th_getK hC cf_X1 hB.1 h0 ro_3 rfl (j := 7) (by decide) mx1 kf_X1_33 dX1_add_49 ?_
                replace hF := hF.trans (dv_bn (dv_getI h0 ro_3 (j := 7) rfl mx1 (by decide)))
                refine lv_iload_n hx hb dX1_add_52 rfl (lv_at hl 1 rfl) ?_
                have hIo := hB.1
                refine th_iastF hC hB hb2 (Or.inl hb2) ro_4 rfl (by decide) (Eq.refl _) (by omega) (by omega) (th_sI (by omega) (by omega)) dX1_add_53 (fun H53 locs hB hf53 hst53 => ?_)
                have hf := hf53
                have mm3 := (th_F_o hf h0 ro_3 (j := 7) (by decide) (by decide)).trans mx1
                have hR := th_RC_F hB.1 hR hf (th_T_s hb2 ro_4 hst53) (by decide)
                replace hF := hF.trans (dv_bn (dv_stoI hIo hB.1 hU hb2 ow_4 (i := x1.toInt) hst53 (Eq.refl _) (by omega)))
                refine lv_aload_n hx hb dX1_add_54 rfl (lv_at hl 0 rfl) ?_
                refine th_getO (j := 1) (r2 := 5) hC cf_X1 hB.1 h0 ro_3 rfl rfl kf_X1_15 dX1_add_55 (fun b4 mb4 hb4 => ?_)
                refine lv_aload_n hx hb dX1_add_58 rfl (lv_at hl 0 rfl) ?_
                refine th_getK hC cf_X1 hB.1 h0 ro_3 rfl (j := 7) (by decide) mm3 kf_X1_33 dX1_add_59 ?_
                replace hF := hF.trans (dv_bn (dv_getI h0 ro_3 (j := 7) rfl mm3 (by decide)))
                refine lv_iload_n hx hb dX1_add_62 rfl (lv_at hl 2 rfl) ?_
                have hIo := hB.1
                refine th_iastF hC hB hb4 (Or.inl hb4) ro_5 rfl (by decide) (Eq.refl _) (by omega) (by omega) th_sIa dX1_add_63 (fun H63 locs hB hf63 hst63 => ?_)
                have hf := hf63
                have mm5 := (th_F_o hf h0 ro_3 (j := 7) (by decide) (by decide)).trans mm3
                have hR := th_RC_F hB.1 hR hf (th_T_s hb4 ro_5 hst63) (by decide)
                replace hF := hF.trans (dv_bn (dv_stoI hIo hB.1 hU hb4 ow_5 (i := x1.toInt) hst63 (Eq.refl _) (by omega)))
                refine lv_aload_n hx hb dX1_add_64 rfl (lv_at hl 0 rfl) ?_
                refine th_getO (j := 2) (r2 := 6) hC cf_X1 hB.1 h0 ro_3 rfl rfl kf_X1_18 dX1_add_65 (fun b6 mb6 hb6 => ?_)
                refine lv_aload_n hx hb dX1_add_68 rfl (lv_at hl 0 rfl) ?_
                refine th_getK hC cf_X1 hB.1 h0 ro_3 rfl (j := 7) (by decide) mm5 kf_X1_33 dX1_add_69 ?_
                replace hF := hF.trans (dv_bn (dv_getI h0 ro_3 (j := 7) rfl mm5 (by decide)))
                refine lv_iload_n hx hb dX1_add_72 rfl (lv_at hl 3 rfl) ?_
                have hIo := hB.1
                refine th_iastF hC hB hb6 (Or.inl hb6) ro_6 rfl (by decide) (Eq.refl _) (by omega) (by omega) th_sIa dX1_add_73 (fun H73 locs hB hf73 hst73 => ?_)
                have hf := hf73
                have mm7 := (th_F_o hf h0 ro_3 (j := 7) (by decide) (by decide)).trans mm5
                have hR := th_RC_F hB.1 hR hf (th_T_s hb6 ro_6 hst73) (by decide)
                replace hF := hF.trans (dv_bn (dv_stoI hIo hB.1 hU hb6 ow_6 (i := x1.toInt) hst73 (Eq.refl _) (by omega)))
                refine lv_aload_n hx hb dX1_add_74 rfl (lv_at hl 0 rfl) ?_
                refine th_getO (j := 3) (r2 := 7) hC cf_X1 hB.1 h0 ro_3 rfl rfl kf_X1_21 dX1_add_75 (fun b8 mb8 hb8 => ?_)
                refine lv_aload_n hx hb dX1_add_78 rfl (lv_at hl 0 rfl) ?_
                refine th_getK hC cf_X1 hB.1 h0 ro_3 rfl (j := 7) (by decide) mm7 kf_X1_33 dX1_add_79 ?_
                replace hF := hF.trans (dv_bn (dv_getI h0 ro_3 (j := 7) rfl mm7 (by decide)))
                refine lv_iconst (v := (-1)) hx hb dX1_add_82 (by decide) ?_
                have hIo := hB.1
                refine th_iastF hC hB hb8 (Or.inl hb8) ro_7 rfl (by decide) (Eq.refl _) (by omega) (by omega) th_sIa dX1_add_83 (fun H83 locs hB hf83 hst83 => ?_)
                have hf := hf83
                have mm9 := (th_F_o hf h0 ro_3 (j := 7) (by decide) (by decide)).trans mm7
                replace hF := hF.trans (dv_bn (dv_stoI hIo hB.1 hU hb8 ow_7 (i := x1.toInt) hst83 tk_m1 (by omega)))
                refine lv_aload_n hx hb dX1_add_84 rfl (lv_at hl 0 rfl) ?_
                refine th_getO (j := 4) (r2 := 8) hC cf_X1 hB.1 h0 ro_3 rfl rfl kf_X1_24 dX1_add_85 (fun b10 mb10 hb10 => ?_)
                refine lv_aload_n hx hb dX1_add_88 rfl (lv_at hl 0 rfl) ?_
                refine th_getK hC cf_X1 hB.1 h0 ro_3 rfl (j := 7) (by decide) mm9 kf_X1_33 dX1_add_89 ?_
                replace hF := hF.trans (dv_bn (dv_getI h0 ro_3 (j := 7) rfl mm9 (by decide)))
                refine lv_iconst (v := (-1)) hx hb dX1_add_92 (by decide) ?_
                have hIo := hB.1
                refine th_iastF hC hB hb10 (Or.inl hb10) ro_8 rfl (by decide) (Eq.refl _) (by omega) (by omega) th_sIa dX1_add_93 (fun H93 locs hB hf93 hst93 => ?_)
                have hf := hf93
                have mm11 := (th_F_o hf h0 ro_3 (j := 7) (by decide) (by decide)).trans mm9
                replace hF := hF.trans (dv_bn (dv_stoI hIo hB.1 hU hb10 ow_8 (i := x1.toInt) hst93 tk_m1 (by omega)))
                have hR := th_RC_xy hB.1 hR h0 hb8 hb10 mb8 mb10 hst83 hst93 hf83 hf93 (Or.inl tk_m1)
                refine lv_aload_n hx hb dX1_add_94 rfl (lv_at hl 0 rfl) ?_
                refine lv_dup hx hb dX1_add_95 rfl ?_
                refine th_getK hC cf_X1 hB.1 h0 ro_3 rfl (j := 7) (by decide) mm11 kf_X1_33 dX1_add_96 ?_
                replace hF := hF.trans (dv_bn (dv_getI h0 ro_3 (j := 7) rfl mm11 (by decide)))
                refine lv_iconst (v := 1) hx hb dX1_add_99 (by decide) ?_
                refine tr_iadd hx hb dX1_add_100 (Eq.refl _) tk_1 (by omega) (by omega) (fun x12 ex12 => ?_)
                replace hF := hF.trans (dv_bn (ex12.symm))
                refine th_put hC cf_X1 hB h0 (Or.inl h0) ro_3 rfl (j := 7) rfl (th_sI (by omega) (by omega)) (by decide) rfl rfl rfl kf_X1_33 dX1_add_101 (fun H101 locs hB hf hst101 => ?_)
                have hR := th_RC_F hB.1 hR hf (th_T_s h0 ro_3 hst101) (by decide)
                replace hF := hF.trans (dv_bn (dv_putI hB.1 h0 ro_3 (j := 7) rfl (th_apart hC cf_X1) hst101 (Eq.refl _) (by decide)))
                have mm13 := hst101.2.1
                refine lv_aload_n hx hb dX1_add_104 rfl (lv_at hl 0 rfl) ?_
                refine th_getK hC cf_X1 hB.1 h0 ro_3 rfl (j := 7) (by decide) mm13 kf_X1_33 dX1_add_105 ?_
                replace hF := hF.trans (dv_bn (dv_getI h0 ro_3 (j := 7) rfl mm13 (by decide)))
                refine lv_iconst (v := 1) hx hb dX1_add_108 (by decide) ?_
                refine tr_isub hx hb dX1_add_109 (Eq.refl _) tk_1 (by omega) (by omega) (fun x14 ex14 => ?_)
                replace hF := hF.trans (dv_bn (ex14.symm))
                exact th_iret hC hH hr hlocks rfl hB.2.1 ⟨_, rfl, by omega, by omega, hB.1, hB.2.2, hR, (hF0.symm.trans hF)⟩ dX1_add_110
              · replace hF := hF.trans (if_neg (Int.not_lt.mpr c38))
                refine lv_bipush (v := (-5)) hx hb dX1_add_41 (by decide) ?_
                exact th_iret hC hH hr hlocks rfl hB.2.1 ⟨_, rfl, by decide, by decide, hB.1, hB.2.2, hR, (hF0.symm.trans (hF.trans (by rw [tk_m5])))⟩ dX1_add_43
            · replace hF := hF.trans (if_neg (Int.not_le.mpr c27))
              refine lv_iconst (v := (-1)) hx hb dX1_add_30 (by decide) ?_
              exact th_iret hC hH hr hlocks rfl hB.2.1 ⟨_, rfl, by decide, by decide, hB.1, hB.2.2, hR, (hF0.symm.trans (hF.trans (by rw [tk_m1])))⟩ dX1_add_31

set_option maxHeartbeats 4000000 in
set_option maxRecDepth 100000 in
theorem c_X1_rollUp (l : Launch) (G : th_G) (Γ : th_Ga) (H0 : Heap) (hI : th_I G Γ H0) (hR : th_RC G Γ H0) (hU : dv_U Γ) (a0 : Nat) (h0 : Γ a0 = (3, 0)) (p1 : Int32) : Met l yX1_rollUp (.code yX1_rollUp cX1_rollUp 2 (none) :: th_tb) ({ frames := 1, cells := 0, slots := 0, locals := 21 } : Room) (th_P [.ref a0, .int p1] G H0) (th_Q (fun (v : Option Value) (H1 : Heap) => v = none ∧ th_I G Γ H1 ∧ th_F G Γ [(7, 0), (8, 0)] H0 H1 ∧ th_RC G Γ H1 ∧ (f_X1_rollUp (dv G Γ H0) (a0 : Int) p1.toInt = (dv G Γ H1, 0))) G) 0 0 (fun q => G.2.2 ≤ q) := by
  refine th_met RX1 (by decide) rfl (Nat.le_of_ble_eq_true rfl) ?_
  intro p e s m below meth c hC hH hr hlocks hnm ls hl
  have hx := hC.1
  have hb := hC.2.1
  have hB : th_B G Γ Γ [(7, 0), (8, 0)] H0 H0 [] := ⟨hI, va_S.rf, th_F_rf⟩
  have hl : lv_has ls 2 [(0, .ref a0), (1, .int p1)] := hl
  have lp1 := ti_lo p1; have up1 := ti_hi p1
  obtain ⟨F, hF0⟩ : ∃ F, F = f_X1_rollUp (dv G Γ H0) ((a0 : Int)) (p1.toInt) := ⟨_, rfl⟩
  have hF := hF0.trans (f_X1_rollUp.eq_1 (dv G Γ H0) ((a0 : Int)) (p1.toInt))
  refine lv_aload_n hx hb dX1_rollUp_0 rfl (lv_at hl 0 rfl) ?_
  refine lv_iload_n hx hb dX1_rollUp_1 rfl (lv_at hl 1 rfl) ?_
  refine th_call (th_runV (As := [.int p1]) (rest := []) hC mf_X1_has km_X1_52 im_X1_has se_X1_has (c_X1_has l G Γ H0 hB.1 hU a0 h0 p1) rfl rfl ⟨Nat.le_of_ble_eq_true rfl, Nat.le_of_ble_eq_true rfl⟩ hB.1 h0 ro_3 rfl rfl hl.1 rfl (Nat.le_of_ble_eq_true rfl) dX1_rollUp_2 ⟨Nat.le_refl _, Nat.le_refl _⟩) hB.2.1 (fun v2 H2 locs hp hz hS => ?_)
  obtain ⟨x1, rfl, lx1, ux1, q2_0, q2_1, rfl⟩ := hp
  have hB := th_B_s hB hS
  replace hF := hF.trans (dv_bn2 (q2_1))
  refine W.eq (g2 := F0 m 5 ls [.int x1]) rfl ?_
  refine tr_if_eq (tgt := 22) hx hb dX1_rollUp_5 (by decide) (Eq.refl _) (fun c5 => ?_) (fun c5 => ?_)
  · replace hF := hF.trans (if_pos c5)
    exact th_vret hC hH hr hlocks hB.2.1 ⟨rfl, hB.1, hB.2.2, hR, (hF0.symm.trans hF)⟩ dX1_rollUp_22
  · replace hF := hF.trans (if_neg c5)
    refine lv_aload_n hx hb dX1_rollUp_8 rfl (lv_at hl 0 rfl) ?_
    refine th_getO (j := 3) (r2 := 7) hC cf_X1 hB.1 h0 ro_3 rfl rfl kf_X1_21 dX1_rollUp_9 (fun b2 mb2 hb2 => ?_)
    refine lv_iload_n hx hb dX1_rollUp_12 rfl (lv_at hl 1 rfl) ?_
    refine lv_iconst (v := (-1)) hx hb dX1_rollUp_13 (by decide) ?_
    have hIo := hB.1
    refine th_iastF hC hB hb2 (Or.inl hb2) ro_7 rfl (by decide) (Eq.refl _) (by omega) (by omega) th_sIa dX1_rollUp_14 (fun H14 locs hB hf14 hst14 => ?_)
    have hf := hf14
    replace hF := hF.trans (dv_bn (dv_stoI hIo hB.1 hU hb2 ow_7 (i := p1.toInt) hst14 tk_m1 (by omega)))
    refine lv_aload_n hx hb dX1_rollUp_15 rfl (lv_at hl 0 rfl) ?_
    refine th_getO (j := 4) (r2 := 8) hC cf_X1 hB.1 h0 ro_3 rfl rfl kf_X1_24 dX1_rollUp_16 (fun b3 mb3 hb3 => ?_)
    refine lv_iload_n hx hb dX1_rollUp_19 rfl (lv_at hl 1 rfl) ?_
    refine lv_iconst (v := (-1)) hx hb dX1_rollUp_20 (by decide) ?_
    have hIo := hB.1
    refine th_iastF hC hB hb3 (Or.inl hb3) ro_8 rfl (by decide) (Eq.refl _) (by omega) (by omega) th_sIa dX1_rollUp_21 (fun H21 locs hB hf21 hst21 => ?_)
    have hf := hf21
    replace hF := hF.trans (dv_bn (dv_stoI hIo hB.1 hU hb3 ow_8 (i := p1.toInt) hst21 tk_m1 (by omega)))
    have hR := th_RC_xy hB.1 hR h0 hb2 hb3 mb2 mb3 hst14 hst21 hf14 hf21 (Or.inl tk_m1)
    exact th_vret hC hH hr hlocks hB.2.1 ⟨rfl, hB.1, hB.2.2, hR, (hF0.symm.trans hF)⟩ dX1_rollUp_22

set_option maxHeartbeats 4000000 in
set_option maxRecDepth 100000 in
theorem c_X1_emptyInto (l : Launch) (G : th_G) (Γ : th_Ga) (H0 : Heap) (hI : th_I G Γ H0) (hR : th_RC G Γ H0) (hU : dv_U Γ) (a0 : Nat) (h0 : Γ a0 = (3, 0)) (p1 : Int32) (f1 : 1 ≤ p1.toInt) (g1 : p1.toInt ≤ 12) (p2 : Int32) (f2 : 1 ≤ p2.toInt) (g2 : p2.toInt ≤ 12) : Met l yX1_emptyInto (.code yX1_emptyInto cX1_emptyInto 4 (none) :: th_tb) ({ frames := 2, cells := 0, slots := 0, locals := 42 } : Room) (th_P [.ref a0, .int p1, .int p2] G H0) (th_Q (fun (v : Option Value) (H1 : Heap) => v = none ∧ th_I G Γ H1 ∧ th_F G Γ [(7, 0), (8, 0), (3, 8), (3, 9)] H0 H1 ∧ th_RC G Γ H1 ∧ (f_X1_emptyInto (dv G Γ H0) (a0 : Int) p1.toInt p2.toInt = (dv G Γ H1, 0))) G) 0 0 (fun q => G.2.2 ≤ q) := by
  refine th_met RX1 (by decide) rfl (Nat.le_of_ble_eq_true rfl) ?_
  intro p e s m below meth c hC hH hr hlocks hnm ls hl
  have hx := hC.1
  have hb := hC.2.1
  have hB : th_B G Γ Γ [(7, 0), (8, 0), (3, 8), (3, 9)] H0 H0 [] := ⟨hI, va_S.rf, th_F_rf⟩
  have hl : lv_has ls 4 [(0, .ref a0), (1, .int p1), (2, .int p2)] := hl
  have lp1 := ti_lo p1; have up1 := ti_hi p1
  have lp2 := ti_lo p2; have up2 := ti_hi p2
  obtain ⟨F, hF0⟩ : ∃ F, F = f_X1_emptyInto (dv G Γ H0) ((a0 : Int)) (p1.toInt) (p2.toInt) := ⟨_, rfl⟩
  have hF := hF0.trans (f_X1_emptyInto.eq_1 (dv G Γ H0) ((a0 : Int)) (p1.toInt) (p2.toInt))
  refine lv_iconst (v := 0) hx hb dX1_emptyInto_0 (by decide) ?_
  refine lv_istore_n (lv' := [(3, .int 0), (0, .ref a0), (1, .int p1), (2, .int p2)]) hx hb dX1_emptyInto_1 rfl hl (by decide) rfl (fun ls hl => ?_)
  have lp2 : ∀ (n2 : Nat) (H2 : Heap) (locs : List Loc) (ls : Array Slot) (j2_3 : Int32), th_B G Γ Γ [(7, 0), (8, 0), (3, 8), (3, 9)] H0 H2 locs → th_RC G Γ H2 → lv_has ls 4 [(0, .ref a0), (1, .int p1), (2, .int p2), (3, .int j2_3)] → F = dv_lp f_X1_emptyInto_2b (dv G Γ H2, (a0 : Int), p1.toInt, p2.toInt, j2_3.toInt) → 0 ≤ j2_3.toInt → j2_3.toInt ≤ 9 → (2147483648 : Int) - j2_3.toInt ≤ (n2 : Int) → W p l e ({ frames := 2, cells := 0, slots := 0, locals := 42 } : Room) s m ([.ref a0, .int p1, .int p2] : List Value).toArray below meth c H2 locs 0 0 (MQ below (th_Q (fun (v : Option Value) (H1 : Heap) => v = none ∧ th_I G Γ H1 ∧ th_F G Γ [(7, 0), (8, 0), (3, 8), (3, 9)] H0 H1 ∧ th_RC G Γ H1 ∧ (f_X1_emptyInto (dv G Γ H0) (a0 : Int) p1.toInt p2.toInt = (dv G Γ H1, 0))) G) ([.ref a0, .int p1, .int p2] : List Value).toArray s 0 0 (fun q => G.2.2 ≤ q)) (F0 m 2 ls []) := by
    intro n2
    induction n2 with
    | zero => intro H2 locs ls j2_3 hB hR hl hF g2_0 g2_1 hm2; exact absurd hm2 (by have := ti_hi j2_3; omega)
    | succ n2 ih2 =>
      intro H2 locs ls j2_3 hB hR hl hF g2_0 g2_1 hm2
      have lj2_3 := ti_lo j2_3; have uj2_3 := ti_hi j2_3
      have hm2 : (2147483648 : Int) - j2_3.toInt ≤ (n2 : Int) + 1 := by omega
      replace hF := hF.trans (dv_lp_eq)
      replace hF := hF.trans (congrArg (dv_k f_X1_emptyInto_2b) (f_X1_emptyInto_2c.eq_1 (dv G Γ H2) ((a0 : Int)) (p1.toInt) (p2.toInt) (j2_3.toInt)))
      refine lv_iload_n hx hb dX1_emptyInto_2 rfl (lv_at hl 3 rfl) ?_
      refine lv_aload_n hx hb dX1_emptyInto_3 rfl (lv_at hl 0 rfl) ?_
      refine th_getI (j := 7) hC cf_X1 hB.1 h0 ro_3 rfl rfl kf_X1_33 dX1_emptyInto_4 (fun x1 mx1 lx1 ux1 => ?_)
      replace hF := hF.trans (congrArg (dv_k f_X1_emptyInto_2b) (dv_bn (dv_getI h0 ro_3 (j := 7) rfl mx1 (by decide))))
      have sx1 := (th_F_o hB.2.2 h0 ro_3 (j := 7) (by decide) (by decide)).symm.trans mx1
      refine tr_icmp_ge (tgt := 21) hx hb dX1_emptyInto_7 (by decide) (Eq.refl _) (Eq.refl _) (fun c7 => ?_) (fun c7 => ?_)
      · replace hF := hF.trans (congrArg (dv_k f_X1_emptyInto_2b) (if_pos c7))
        refine lv_aload_n hx hb dX1_emptyInto_21 rfl (lv_at hl 0 rfl) ?_
        refine lv_iload_n hx hb dX1_emptyInto_22 rfl (lv_at hl 1 rfl) ?_
        refine th_put hC cf_X1 hB h0 (Or.inl h0) ro_3 rfl (j := 8) rfl (th_sI (by omega) (by omega)) (by decide) rfl rfl rfl kf_X1_37 dX1_emptyInto_23 (fun H23 locs hB hf hst23 => ?_)
        have mm2 := (th_F_o hf h0 ro_3 (j := 7) (by decide) (by decide)).trans mx1
        have hR := th_RC_F hB.1 hR hf (th_T_s h0 ro_3 hst23) (by decide)
        replace hF := hF.trans (congrArg (dv_k f_X1_emptyInto_2b) (dv_bn (dv_putI hB.1 h0 ro_3 (j := 8) rfl (th_apart hC cf_X1) hst23 (Eq.refl _) (by decide))))
        refine lv_aload_n hx hb dX1_emptyInto_26 rfl (lv_at hl 0 rfl) ?_
        refine lv_iload_n hx hb dX1_emptyInto_27 rfl (lv_at hl 2 rfl) ?_
        refine th_put hC cf_X1 hB h0 (Or.inl h0) ro_3 rfl (j := 9) rfl (th_sI (by omega) (by omega)) (by decide) rfl rfl rfl kf_X1_40 dX1_emptyInto_28 (fun H28 locs hB hf hst28 => ?_)
        have mm3 := (th_F_o hf h0 ro_3 (j := 7) (by decide) (by decide)).trans mm2
        have hR := th_RC_F hB.1 hR hf (th_T_s h0 ro_3 hst28) (by decide)
        replace hF := hF.trans (congrArg (dv_k f_X1_emptyInto_2b) (dv_bn (dv_putI hB.1 h0 ro_3 (j := 9) rfl (th_apart hC cf_X1) hst28 (Eq.refl _) (by decide))))
        replace hF := hF.trans (dv_kr)
        exact th_vret hC hH hr hlocks hB.2.1 ⟨rfl, hB.1, hB.2.2, hR, (hF0.symm.trans hF)⟩ dX1_emptyInto_31
      · replace hF := hF.trans (congrArg (dv_k f_X1_emptyInto_2b) (if_neg (Int.not_le.mpr c7)))
        refine lv_aload_n hx hb dX1_emptyInto_10 rfl (lv_at hl 0 rfl) ?_
        refine lv_iload_n hx hb dX1_emptyInto_11 rfl (lv_at hl 3 rfl) ?_
        refine th_call (th_runV (As := [.int j2_3]) (rest := []) hC mf_X1_rollUp km_X1_62 im_X1_rollUp se_X1_rollUp (c_X1_rollUp l G Γ H2 hB.1 hR hU a0 h0 j2_3) rfl rfl ⟨Nat.le_of_ble_eq_true rfl, Nat.le_of_ble_eq_true rfl⟩ hB.1 h0 ro_3 rfl rfl hl.1 rfl (Nat.le_of_ble_eq_true rfl) dX1_emptyInto_12 ⟨Nat.le_refl _, Nat.le_refl _⟩) hB.2.1 (fun v12 H12 locs hp hz hS => ?_)
        obtain ⟨rfl, hI1, hf, hR, z12_0⟩ := hp
        have hB := th_B_c hB hI1 hS hf (by decide)
        have mm4 := (th_F_o hf h0 ro_3 (j := 7) (by decide) (by decide)).trans mx1
        replace hF := hF.trans (congrArg (dv_k f_X1_emptyInto_2b) (dv_bn2 (z12_0)))
        refine W.eq (g2 := F0 m 15 ls []) rfl ?_
        refine tr_iinc (fun x5 => [(3, .int x5), (0, .ref a0), (1, .int p1), (2, .int p2)]) hx hb dX1_emptyInto_15 hl (k := 3) rfl (Eq.refl _) tk_1 (by omega) (by omega) (by decide) (fun _ => rfl) (fun x5 ls ex5 hl => ?_)
        replace hF := hF.trans (congrArg (dv_k f_X1_emptyInto_2b) (dv_bn (ex5.symm)))
        refine lv_goto (tgt := 2) hx hb dX1_emptyInto_18 (by decide) ?_
        replace hF := hF.trans (dv_kl)
        exact ih2 H12 locs ls x5 hB hR (lv_sub hl [1, 2, 3, 0] rfl) hF (by omega) (by omega) (by omega)
  exact lp2 ((2147483648 : Int) - (0)).toNat H0 [] ls 0 hB hR (lv_sub hl [1, 2, 3, 0] rfl) (by rw [tk_0]; exact hF) (by decide) (by decide) (by have w0 := tk_0; omega)

set_option maxHeartbeats 4000000 in
set_option maxRecDepth 100000 in
theorem c_X1_turnOver (l : Launch) (G : th_G) (Γ : th_Ga) (H0 : Heap) (hI : th_I G Γ H0) (hR : th_RC G Γ H0) (hU : dv_U Γ) (a0 : Nat) (h0 : Γ a0 = (3, 0)) : Met l yX1_turnOver (.code yX1_turnOver cX1_turnOver 3 (some FieldType.int) :: th_tb) ({ frames := 2, cells := 0, slots := 0, locals := 42 } : Room) (th_P [.ref a0] G H0) (th_Q (fun (v : Option Value) (H1 : Heap) => ∃ r : Int32, v = some (.int r) ∧ th_I G Γ H1 ∧ th_F G Γ [(7, 0)] H0 H1 ∧ th_RC G Γ H1 ∧ (f_X1_turnOver (dv G Γ H0) (a0 : Int) = (dv G Γ H1, r.toInt))) G) 0 0 (fun q => G.2.2 ≤ q) := by
  refine th_met RX1 (by decide) rfl (Nat.le_of_ble_eq_true rfl) ?_
  intro p e s m below meth c hC hH hr hlocks hnm ls hl
  have hx := hC.1
  have hb := hC.2.1
  have hB : th_B G Γ Γ [(7, 0)] H0 H0 [] := ⟨hI, va_S.rf, th_F_rf⟩
  have hl : lv_has ls 3 [(0, .ref a0)] := hl
  obtain ⟨F, hF0⟩ : ∃ F, F = f_X1_turnOver (dv G Γ H0) ((a0 : Int)) := ⟨_, rfl⟩
  have hF := hF0.trans (f_X1_turnOver.eq_1 (dv G Γ H0) ((a0 : Int)))
  refine lv_iconst (v := 0) hx hb dX1_turnOver_0 (by decide) ?_
  refine lv_istore_n (lv' := [(1, .int 0), (0, .ref a0)]) hx hb dX1_turnOver_1 rfl hl (by decide) rfl (fun ls hl => ?_)
  refine lv_iconst (v := 0) hx hb dX1_turnOver_2 (by decide) ?_
  refine lv_istore_n (lv' := [(2, .int 0), (1, .int 0), (0, .ref a0)]) hx hb dX1_turnOver_3 rfl hl (by decide) rfl (fun ls hl => ?_)
  have lp4 : ∀ (n4 : Nat) (H4 : Heap) (locs : List Loc) (ls : Array Slot) (j4_1 : Int32) (j4_2 : Int32), th_B G Γ Γ [(7, 0)] H0 H4 locs → th_RC G Γ H4 → lv_has ls 3 [(0, .ref a0), (1, .int j4_1), (2, .int j4_2)] → F = dv_lp f_X1_turnOver_4b (dv G Γ H4, (a0 : Int), j4_1.toInt, j4_2.toInt) → 0 ≤ j4_2.toInt → j4_2.toInt ≤ 9 → (2147483648 : Int) - j4_2.toInt ≤ (n4 : Int) → W p l e ({ frames := 2, cells := 0, slots := 0, locals := 42 } : Room) s m ([.ref a0] : List Value).toArray below meth c H4 locs 0 0 (MQ below (th_Q (fun (v : Option Value) (H1 : Heap) => ∃ r : Int32, v = some (.int r) ∧ th_I G Γ H1 ∧ th_F G Γ [(7, 0)] H0 H1 ∧ th_RC G Γ H1 ∧ (f_X1_turnOver (dv G Γ H0) (a0 : Int) = (dv G Γ H1, r.toInt))) G) ([.ref a0] : List Value).toArray s 0 0 (fun q => G.2.2 ≤ q)) (F0 m 4 ls []) := by
    intro n4
    induction n4 with
    | zero => intro H4 locs ls j4_1 j4_2 hB hR hl hF g4_0 g4_1 hm4; exact absurd hm4 (by have := ti_hi j4_2; omega)
    | succ n4 ih4 =>
      intro H4 locs ls j4_1 j4_2 hB hR hl hF g4_0 g4_1 hm4
      have lj4_1 := ti_lo j4_1; have uj4_1 := ti_hi j4_1
      have lj4_2 := ti_lo j4_2; have uj4_2 := ti_hi j4_2
      have hm4 : (2147483648 : Int) - j4_2.toInt ≤ (n4 : Int) + 1 := by omega
      replace hF := hF.trans (dv_lp_eq)
      replace hF := hF.trans (congrArg (dv_k f_X1_turnOver_4b) (f_X1_turnOver_4c.eq_1 (dv G Γ H4) ((a0 : Int)) (j4_1.toInt) (j4_2.toInt)))
      refine lv_iload_n hx hb dX1_turnOver_4 rfl (lv_at hl 2 rfl) ?_
      refine lv_aload_n hx hb dX1_turnOver_5 rfl (lv_at hl 0 rfl) ?_
      refine th_getI (j := 7) hC cf_X1 hB.1 h0 ro_3 rfl rfl kf_X1_33 dX1_turnOver_6 (fun x1 mx1 lx1 ux1 => ?_)
      replace hF := hF.trans (congrArg (dv_k f_X1_turnOver_4b) (dv_bn (dv_getI h0 ro_3 (j := 7) rfl mx1 (by decide))))
      have sx1 := (th_F_o hB.2.2 h0 ro_3 (j := 7) (by decide) (by decide)).symm.trans mx1
      refine tr_icmp_ge (tgt := 53) hx hb dX1_turnOver_9 (by decide) (Eq.refl _) (Eq.refl _) (fun c9 => ?_) (fun c9 => ?_)
      · replace hF := hF.trans (congrArg (dv_k f_X1_turnOver_4b) (if_pos c9))
        refine lv_iload_n hx hb dX1_turnOver_53 rfl (lv_at hl 1 rfl) ?_
        replace hF := hF.trans (dv_kr)
        exact th_iret hC hH hr hlocks rfl hB.2.1 ⟨_, rfl, hB.1, hB.2.2, hR, (hF0.symm.trans hF)⟩ dX1_turnOver_54
      · replace hF := hF.trans (congrArg (dv_k f_X1_turnOver_4b) (if_neg (Int.not_le.mpr c9)))
        refine lv_aload_n hx hb dX1_turnOver_12 rfl (lv_at hl 0 rfl) ?_
        refine lv_iload_n hx hb dX1_turnOver_13 rfl (lv_at hl 2 rfl) ?_
        refine th_call (th_runV (As := [.int j4_2]) (rest := []) hC mf_X1_isLaid km_X1_56 im_X1_isLaid se_X1_isLaid (c_X1_isLaid l G Γ H4 hB.1 hU a0 h0 j4_2) rfl rfl ⟨Nat.le_of_ble_eq_true rfl, Nat.le_of_ble_eq_true rfl⟩ hB.1 h0 ro_3 rfl rfl hl.1 rfl (Nat.le_of_ble_eq_true rfl) dX1_turnOver_14 ⟨Nat.le_refl _, Nat.le_refl _⟩) hB.2.1 (fun v14 H14 locs hp hz hS => ?_)
        obtain ⟨x2, rfl, lx2, ux2, q14_0, q14_1, q14_2, rfl⟩ := hp
        have hB := th_B_s hB hS
        replace hF := hF.trans (congrArg (dv_k f_X1_turnOver_4b) (dv_bn2 (q14_2)))
        refine W.eq (g2 := F0 m 17 ls [.int x2]) rfl ?_
        have jn47 : ∀ (H47 : Heap) (locs : List Loc) (ls : Array Slot) (j47_1 : Int32), th_B G Γ Γ [(7, 0)] H0 H47 locs → th_RC G Γ H47 → lv_has ls 3 [(0, .ref a0), (2, .int j4_2), (1, .int j47_1)] → F = dv_k f_X1_turnOver_4b (f_X1_turnOver_47 (dv G Γ H47) ((a0 : Int)) (j4_2.toInt) (j47_1.toInt)) → W p l e ({ frames := 2, cells := 0, slots := 0, locals := 42 } : Room) s m ([.ref a0] : List Value).toArray below meth c H47 locs 0 0 (MQ below (th_Q (fun (v : Option Value) (H1 : Heap) => ∃ r : Int32, v = some (.int r) ∧ th_I G Γ H1 ∧ th_F G Γ [(7, 0)] H0 H1 ∧ th_RC G Γ H1 ∧ (f_X1_turnOver (dv G Γ H0) (a0 : Int) = (dv G Γ H1, r.toInt))) G) ([.ref a0] : List Value).toArray s 0 0 (fun q => G.2.2 ≤ q)) (F0 m 47 ls []) := by
          intro H47 locs ls j47_1 hB hR hl hF
          have lj47_1 := ti_lo j47_1; have uj47_1 := ti_hi j47_1
          have mm3 := (th_F_o hB.2.2 h0 ro_3 (j := 7) (by decide) (by decide)).trans sx1
          replace hF := hF.trans (congrArg (dv_k f_X1_turnOver_4b) (f_X1_turnOver_47.eq_1 (dv G Γ H47) ((a0 : Int)) (j4_2.toInt) (j47_1.toInt)))
          refine tr_iinc (fun x4 => [(2, .int x4), (0, .ref a0), (1, .int j47_1)]) hx hb dX1_turnOver_47 hl (k := 1) rfl (Eq.refl _) tk_1 (by omega) (by omega) (by decide) (fun _ => rfl) (fun x4 ls ex4 hl => ?_)
          replace hF := hF.trans (congrArg (dv_k f_X1_turnOver_4b) (dv_bn (ex4.symm)))
          refine lv_goto (tgt := 4) hx hb dX1_turnOver_50 (by decide) ?_
          replace hF := hF.trans (dv_kl)
          exact ih4 H47 locs ls j47_1 x4 hB hR (lv_sub hl [1, 2, 0] rfl) hF (by omega) (by omega) (by omega)
        refine tr_if_eq (tgt := 47) hx hb dX1_turnOver_17 (by decide) (Eq.refl _) (fun c17 => ?_) (fun c17 => ?_)
        · replace hF := hF.trans (congrArg (dv_k f_X1_turnOver_4b) (if_pos c17))
          exact jn47 H4 locs ls j4_1 hB hR (lv_sub hl [0, 2, 1] rfl) hF
        · replace hF := hF.trans (congrArg (dv_k f_X1_turnOver_4b) (if_neg c17))
          refine lv_aload_n hx hb dX1_turnOver_20 rfl (lv_at hl 0 rfl) ?_
          refine th_getO (j := 3) (r2 := 7) hC cf_X1 hB.1 h0 ro_3 rfl rfl kf_X1_21 dX1_turnOver_21 (fun b5 mb5 hb5 => ?_)
          have sb5 := (th_F_o hB.2.2 h0 ro_3 (j := 3) (by decide) (by decide)).symm.trans mb5
          refine lv_iload_n hx hb dX1_turnOver_24 rfl (lv_at hl 2 rfl) ?_
          refine lv_aload_n hx hb dX1_turnOver_25 rfl (lv_at hl 0 rfl) ?_
          refine th_getI (j := 8) hC cf_X1 hB.1 h0 ro_3 rfl rfl kf_X1_37 dX1_turnOver_26 (fun x6 mx6 lx6 ux6 => ?_)
          replace hF := hF.trans (congrArg (dv_k f_X1_turnOver_4b) (dv_bn (dv_getI h0 ro_3 (j := 8) rfl mx6 (by decide))))
          have sx6 := (th_F_o hB.2.2 h0 ro_3 (j := 8) (by decide) (by decide)).symm.trans mx6
          refine lv_aload_n hx hb dX1_turnOver_29 rfl (lv_at hl 0 rfl) ?_
          refine th_getK hC cf_X1 hB.1 h0 ro_3 rfl (j := 3) (by decide) mb5 kf_X1_21 dX1_turnOver_30 ?_
          refine lv_iload_n hx hb dX1_turnOver_33 rfl (lv_at hl 2 rfl) ?_
          refine th_ialdF hC hB.1 hb5 ro_7 rfl (Eq.refl _) (by omega) (by omega) rfl dX1_turnOver_34 (fun x7 mx7 lx7 ux7 => ?_)
          replace hF := hF.trans (congrArg (dv_k f_X1_turnOver_4b) (dv_bn (dv_aldI hB.1 hU hb5 ow_7 (z := j4_2.toInt) mx7 (by omega))))
          refine lv_isub hx hb dX1_turnOver_35 ?_
          refine lv_topi (fun x8 ex8 => ?_)
          have lx8 := ti_lo x8; have ux8 := ti_hi x8
          replace hF := hF.trans (congrArg (dv_k f_X1_turnOver_4b) (dv_bn (dv_sub_e (Eq.refl _) (Eq.refl _) ex8)))
          refine lv_aload_n hx hb dX1_turnOver_36 rfl (lv_at hl 0 rfl) ?_
          refine th_getO (j := 0) (r2 := 4) hC cf_X1 hB.1 h0 ro_3 rfl rfl kf_X1_9 dX1_turnOver_37 (fun b9 mb9 hb9 => ?_)
          have sb9 := (th_F_o hB.2.2 h0 ro_3 (j := 0) (by decide) (by decide)).symm.trans mb9
          refine lv_iload_n hx hb dX1_turnOver_40 rfl (lv_at hl 2 rfl) ?_
          refine th_ialdF hC hB.1 hb9 ro_4 rfl (Eq.refl _) (by omega) (by omega) rfl dX1_turnOver_41 (fun x10 mx10 lx10 ux10 => ?_)
          replace hF := hF.trans (congrArg (dv_k f_X1_turnOver_4b) (dv_bn (dv_aldI hB.1 hU hb9 ow_4 (z := j4_2.toInt) mx10 (by omega))))
          refine lv_isub hx hb dX1_turnOver_42 ?_
          refine lv_topi (fun x11 ex11 => ?_)
          have lx11 := ti_lo x11; have ux11 := ti_hi x11
          replace hF := hF.trans (congrArg (dv_k f_X1_turnOver_4b) (dv_bn (dv_sub_e (Eq.refl _) (Eq.refl _) ex11)))
          have hIo := hB.1
          refine th_iastF hC hB hb5 (Or.inl hb5) ro_7 rfl (by decide) (Eq.refl _) (by omega) (by omega) th_sIa dX1_turnOver_43 (fun H43 locs hB hf43 hst43 => ?_)
          have hf := hf43
          have mm12 := (th_F_o hf h0 ro_3 (j := 7) (by decide) (by decide)).trans mx1
          have mm13 := (th_F_o hf h0 ro_3 (j := 3) (by decide) (by decide)).trans mb5
          have mm14 := (th_F_o hf h0 ro_3 (j := 8) (by decide) (by decide)).trans mx6
          have mm15 := (th_F_o hf h0 ro_3 (j := 0) (by decide) (by decide)).trans mb9
          replace hF := hF.trans (congrArg (dv_k f_X1_turnOver_4b) (dv_bn (dv_stoI hIo hB.1 hU hb5 ow_7 (i := j4_2.toInt) hst43 (Eq.refl _) (by omega))))
          have hR : th_RC G Γ H43 := by obtain ⟨bx9, v9, w1, w2, w3⟩ := q14_1 (by omega); cases w1.symm.trans mb5; exact th_RC_x hB.1 hR h0 hb5 mb5 hst43 hf43 w2 w3
          refine tr_iincE (fun x16 => [(1, .int x16), (0, .ref a0), (2, .int j4_2)]) hx hb dX1_turnOver_44 hl (k := 1) rfl (Eq.refl _) (by decide) (fun _ => rfl) (fun x16 ls ex16 hl => ?_)
          have lx16 := ti_lo x16; have ux16 := ti_hi x16
          replace hF := hF.trans (congrArg (dv_k f_X1_turnOver_4b) (dv_bn (ex16)))
          exact jn47 H43 locs ls x16 hB hR (lv_sub hl [1, 2, 0] rfl) hF
  exact lp4 ((2147483648 : Int) - (0)).toNat H0 [] ls 0 0 hB hR (lv_sub hl [2, 1, 0] rfl) (by rw [tk_0]; exact hF) (by decide) (by decide) (by have w0 := tk_0; omega)

set_option maxHeartbeats 4000000 in
set_option maxRecDepth 100000 in
theorem c_X1_drawRows (l : Launch) (G : th_G) (Γ : th_Ga) (H0 : Heap) (hI : th_I G Γ H0) (hR : th_RC G Γ H0) (hU : dv_U Γ) (a0 : Nat) (h0 : Γ a0 = (3, 0)) : Met l yX1_drawRows (.code yX1_drawRows cX1_drawRows 4 (none) :: th_tb) ({ frames := 2, cells := 0, slots := 0, locals := 42 } : Room) (th_P [.ref a0] G H0) (th_Q (fun (v : Option Value) (H1 : Heap) => v = none ∧ th_I G Γ H1 ∧ th_F G Γ [(10, 0)] H0 H1 ∧ th_RC G Γ H1 ∧ (f_X1_drawRows (dv G Γ H0) (a0 : Int) = (dv G Γ H1, 0))) G) 0 0 (fun q => G.2.2 ≤ q) := by
  refine th_met RX1 (by decide) rfl (Nat.le_of_ble_eq_true rfl) ?_
  intro p e s m below meth c hC hH hr hlocks hnm ls hl
  have hx := hC.1
  have hb := hC.2.1
  have hB : th_B G Γ Γ [(10, 0)] H0 H0 [] := ⟨hI, va_S.rf, th_F_rf⟩
  have hl : lv_has ls 4 [(0, .ref a0)] := hl
  obtain ⟨F, hF0⟩ : ∃ F, F = f_X1_drawRows (dv G Γ H0) ((a0 : Int)) := ⟨_, rfl⟩
  have hF := hF0.trans (f_X1_drawRows.eq_1 (dv G Γ H0) ((a0 : Int)))
  refine lv_aload_n hx hb dX1_drawRows_0 rfl (lv_at hl 0 rfl) ?_
  refine th_getO (j := 6) (r2 := 10) hC cf_X1 hB.1 h0 ro_3 rfl rfl kf_X1_30 dX1_drawRows_1 (fun b1 mb1 hb1 => ?_)
  refine lv_iconst (v := 0) hx hb dX1_drawRows_4 (by decide) ?_
  refine th_call (th_runS (As := [.ref b1, .int 0]) (rest := []) hC mf_J7_fill_53178 km_X1_78 st_J7_fill_53178 (c_J7_fill_53178_Frows l G Γ H0 hB.1 hR hU b1 a0 hb1 0) rfl rfl ⟨Nat.le_of_ble_eq_true rfl, Nat.le_of_ble_eq_true rfl⟩ rfl hl.1 rfl (Nat.le_of_ble_eq_true rfl) dX1_drawRows_5 ⟨Nat.le_refl _, Nat.le_refl _⟩) hB.2.1 (fun v5 H5 locs hp hz hS => ?_)
  obtain ⟨rfl, hI1, hf, hR, z5_0⟩ := hp
  have hB := th_B_c hB hI1 hS hf (by decide)
  have mm2 := (th_F_o hf h0 ro_3 (j := 6) (by decide) (by decide)).trans mb1
  have zf5 := z5_0
  rw [tk_0] at zf5
  replace hF := hF.trans (dv_bn2 (zf5))
  refine W.eq (g2 := F0 m 8 ls []) rfl ?_
  refine lv_iconst (v := 0) hx hb dX1_drawRows_8 (by decide) ?_
  refine lv_istore_n (lv' := [(1, .int 0), (0, .ref a0)]) hx hb dX1_drawRows_9 rfl hl (by decide) rfl (fun ls hl => ?_)
  have lp10 : ∀ (n10 : Nat) (H10 : Heap) (locs : List Loc) (ls : Array Slot) (j10_1 : Int32), th_B G Γ Γ [(10, 0)] H0 H10 locs → th_RC G Γ H10 → lv_has ls 4 [(0, .ref a0), (1, .int j10_1)] → F = dv_lp f_X1_drawRows_10b (dv G Γ H10, (a0 : Int), j10_1.toInt) → 0 ≤ j10_1.toInt → j10_1.toInt ≤ 9 → (2147483648 : Int) - j10_1.toInt ≤ (n10 : Int) → W p l e ({ frames := 2, cells := 0, slots := 0, locals := 42 } : Room) s m ([.ref a0] : List Value).toArray below meth c H10 locs 0 0 (MQ below (th_Q (fun (v : Option Value) (H1 : Heap) => v = none ∧ th_I G Γ H1 ∧ th_F G Γ [(10, 0)] H0 H1 ∧ th_RC G Γ H1 ∧ (f_X1_drawRows (dv G Γ H0) (a0 : Int) = (dv G Γ H1, 0))) G) ([.ref a0] : List Value).toArray s 0 0 (fun q => G.2.2 ≤ q)) (F0 m 10 ls []) := by
    intro n10
    induction n10 with
    | zero => intro H10 locs ls j10_1 hB hR hl hF g10_0 g10_1 hm10; exact absurd hm10 (by have := ti_hi j10_1; omega)
    | succ n10 ih10 =>
      intro H10 locs ls j10_1 hB hR hl hF g10_0 g10_1 hm10
      have lj10_1 := ti_lo j10_1; have uj10_1 := ti_hi j10_1
      have mm3 := (th_F_o hB.2.2 h0 ro_3 (j := 6) (by decide) (by decide)).trans mb1
      have hm10 : (2147483648 : Int) - j10_1.toInt ≤ (n10 : Int) + 1 := by omega
      replace hF := hF.trans (dv_lp_eq)
      replace hF := hF.trans (congrArg (dv_k f_X1_drawRows_10b) (f_X1_drawRows_10c.eq_1 (dv G Γ H10) ((a0 : Int)) (j10_1.toInt)))
      refine lv_iload_n hx hb dX1_drawRows_10 rfl (lv_at hl 1 rfl) ?_
      refine lv_aload_n hx hb dX1_drawRows_11 rfl (lv_at hl 0 rfl) ?_
      refine th_getI (j := 7) hC cf_X1 hB.1 h0 ro_3 rfl rfl kf_X1_33 dX1_drawRows_12 (fun x4 mx4 lx4 ux4 => ?_)
      replace hF := hF.trans (congrArg (dv_k f_X1_drawRows_10b) (dv_bn (dv_getI h0 ro_3 (j := 7) rfl mx4 (by decide))))
      have sx4 := (th_F_o hB.2.2 h0 ro_3 (j := 7) (by decide) (by decide)).symm.trans mx4
      refine tr_icmp_ge (tgt := 99) hx hb dX1_drawRows_15 (by decide) (Eq.refl _) (Eq.refl _) (fun c15 => ?_) (fun c15 => ?_)
      · replace hF := hF.trans (congrArg (dv_k f_X1_drawRows_10b) (if_pos c15))
        replace hF := hF.trans (dv_kr)
        exact th_vret hC hH hr hlocks hB.2.1 ⟨rfl, hB.1, hB.2.2, hR, (hF0.symm.trans hF)⟩ dX1_drawRows_99
      · replace hF := hF.trans (congrArg (dv_k f_X1_drawRows_10b) (if_neg (Int.not_le.mpr c15)))
        refine lv_aload_n hx hb dX1_drawRows_18 rfl (lv_at hl 0 rfl) ?_
        refine lv_iload_n hx hb dX1_drawRows_19 rfl (lv_at hl 1 rfl) ?_
        refine th_call (th_runV (As := [.int j10_1]) (rest := []) hC mf_X1_isLaid km_X1_56 im_X1_isLaid se_X1_isLaid (c_X1_isLaid l G Γ H10 hB.1 hU a0 h0 j10_1) rfl rfl ⟨Nat.le_of_ble_eq_true rfl, Nat.le_of_ble_eq_true rfl⟩ hB.1 h0 ro_3 rfl rfl hl.1 rfl (Nat.le_of_ble_eq_true rfl) dX1_drawRows_20 ⟨Nat.le_refl _, Nat.le_refl _⟩) hB.2.1 (fun v20 H20 locs hp hz hS => ?_)
        obtain ⟨x5, rfl, lx5, ux5, q20_0, q20_1, q20_2, rfl⟩ := hp
        have hB := th_B_s hB hS
        replace hF := hF.trans (congrArg (dv_k f_X1_drawRows_10b) (dv_bn2 (q20_2)))
        refine W.eq (g2 := F0 m 23 ls [.int x5]) rfl ?_
        have jn93 : ∀ (H93 : Heap) (locs : List Loc) (ls : Array Slot) , th_B G Γ Γ [(10, 0)] H0 H93 locs → th_RC G Γ H93 → lv_has ls 4 [(0, .ref a0), (1, .int j10_1)] → F = dv_k f_X1_drawRows_10b (f_X1_drawRows_93 (dv G Γ H93) ((a0 : Int)) (j10_1.toInt)) → W p l e ({ frames := 2, cells := 0, slots := 0, locals := 42 } : Room) s m ([.ref a0] : List Value).toArray below meth c H93 locs 0 0 (MQ below (th_Q (fun (v : Option Value) (H1 : Heap) => v = none ∧ th_I G Γ H1 ∧ th_F G Γ [(10, 0)] H0 H1 ∧ th_RC G Γ H1 ∧ (f_X1_drawRows (dv G Γ H0) (a0 : Int) = (dv G Γ H1, 0))) G) ([.ref a0] : List Value).toArray s 0 0 (fun q => G.2.2 ≤ q)) (F0 m 93 ls []) := by
          intro H93 locs ls hB hR hl hF
          have mm6 := (th_F_o hB.2.2 h0 ro_3 (j := 6) (by decide) (by decide)).trans mb1
          have mm7 := (th_F_o hB.2.2 h0 ro_3 (j := 7) (by decide) (by decide)).trans sx4
          replace hF := hF.trans (congrArg (dv_k f_X1_drawRows_10b) (f_X1_drawRows_93.eq_1 (dv G Γ H93) ((a0 : Int)) (j10_1.toInt)))
          refine tr_iinc (fun x8 => [(1, .int x8), (0, .ref a0)]) hx hb dX1_drawRows_93 hl (k := 1) rfl (Eq.refl _) tk_1 (by omega) (by omega) (by decide) (fun _ => rfl) (fun x8 ls ex8 hl => ?_)
          replace hF := hF.trans (congrArg (dv_k f_X1_drawRows_10b) (dv_bn (ex8.symm)))
          refine lv_goto (tgt := 10) hx hb dX1_drawRows_96 (by decide) ?_
          replace hF := hF.trans (dv_kl)
          exact ih10 H93 locs ls x8 hB hR (lv_sub hl [1, 0] rfl) hF (by omega) (by omega) (by omega)
        refine tr_if_ne (tgt := 29) hx hb dX1_drawRows_23 (by decide) (Eq.refl _) (fun c23 => ?_) (fun c23 => ?_)
        · replace hF := hF.trans (congrArg (dv_k f_X1_drawRows_10b) (if_pos c23))
          refine lv_iconst (v := 1) hx hb dX1_drawRows_29 (by decide) ?_
          refine lv_aload_n hx hb dX1_drawRows_30 rfl (lv_at hl 0 rfl) ?_
          refine th_getO (j := 0) (r2 := 4) hC cf_X1 hB.1 h0 ro_3 rfl rfl kf_X1_9 dX1_drawRows_31 (fun b9 mb9 hb9 => ?_)
          have sb9 := (th_F_o hB.2.2 h0 ro_3 (j := 0) (by decide) (by decide)).symm.trans mb9
          refine lv_iload_n hx hb dX1_drawRows_34 rfl (lv_at hl 1 rfl) ?_
          refine th_ialdF hC hB.1 hb9 ro_4 rfl (Eq.refl _) (by omega) (by omega) rfl dX1_drawRows_35 (fun x10 mx10 lx10 ux10 => ?_)
          replace hF := hF.trans (congrArg (dv_k f_X1_drawRows_10b) (dv_bn (dv_aldI hB.1 hU hb9 ow_4 (z := j10_1.toInt) mx10 (by omega))))
          refine lv_ishl hx hb dX1_drawRows_36 ?_
          refine lv_topi (fun x11 ex11 => ?_)
          have lx11 := ti_lo x11; have ux11 := ti_hi x11
          replace hF := hF.trans (congrArg (dv_k f_X1_drawRows_10b) (dv_bn (dv_shl_e tk_1 (Eq.refl _) ex11)))
          refine lv_iconst (v := 1) hx hb dX1_drawRows_37 (by decide) ?_
          refine lv_isub hx hb dX1_drawRows_38 ?_
          refine lv_topi (fun x12 ex12 => ?_)
          have lx12 := ti_lo x12; have ux12 := ti_hi x12
          replace hF := hF.trans (congrArg (dv_k f_X1_drawRows_10b) (dv_bn (dv_sub_e (Eq.refl _) tk_1 ex12)))
          refine lv_aload_n hx hb dX1_drawRows_39 rfl (lv_at hl 0 rfl) ?_
          refine th_getO (j := 3) (r2 := 7) hC cf_X1 hB.1 h0 ro_3 rfl rfl kf_X1_21 dX1_drawRows_40 (fun b13 mb13 hb13 => ?_)
          have sb13 := (th_F_o hB.2.2 h0 ro_3 (j := 3) (by decide) (by decide)).symm.trans mb13
          refine lv_iload_n hx hb dX1_drawRows_43 rfl (lv_at hl 1 rfl) ?_
          refine th_ialdF hC hB.1 hb13 ro_7 rfl (Eq.refl _) (by omega) (by omega) rfl dX1_drawRows_44 (fun x14 mx14 lx14 ux14 => ?_)
          replace hF := hF.trans (congrArg (dv_k f_X1_drawRows_10b) (dv_bn (dv_aldI hB.1 hU hb13 ow_7 (z := j10_1.toInt) mx14 (by omega))))
          refine lv_ishl hx hb dX1_drawRows_45 ?_
          refine lv_topi (fun x15 ex15 => ?_)
          have lx15 := ti_lo x15; have ux15 := ti_hi x15
          replace hF := hF.trans (congrArg (dv_k f_X1_drawRows_10b) (dv_bn (dv_shl_e (Eq.refl _) (Eq.refl _) ex15)))
          refine lv_istore_n (lv' := [(2, .int x15), (0, .ref a0), (1, .int j10_1)]) hx hb dX1_drawRows_46 rfl hl (by decide) rfl (fun ls hl => ?_)
          refine lv_aload_n hx hb dX1_drawRows_47 rfl (lv_at hl 1 rfl) ?_
          refine th_getO (j := 4) (r2 := 8) hC cf_X1 hB.1 h0 ro_3 rfl rfl kf_X1_24 dX1_drawRows_48 (fun b16 mb16 hb16 => ?_)
          have sb16 := (th_F_o hB.2.2 h0 ro_3 (j := 4) (by decide) (by decide)).symm.trans mb16
          refine lv_iload_n hx hb dX1_drawRows_51 rfl (lv_at hl 2 rfl) ?_
          refine th_ialdF hC hB.1 hb16 ro_8 rfl (Eq.refl _) (by omega) (by omega) rfl dX1_drawRows_52 (fun x17 mx17 lx17 ux17 => ?_)
          replace hF := hF.trans (congrArg (dv_k f_X1_drawRows_10b) (dv_bn (dv_aldI hB.1 hU hb16 ow_8 (z := j10_1.toInt) mx17 (by omega))))
          have y52 : 0 ≤ x17.toInt := (by obtain ⟨bx9, v9, w1, w2, w3⟩ := q20_1 (by omega); exact th_XYu hR h0 w1 mb16 (by omega) (by omega) w2 w3 mx17)
          refine lv_istore_n (lv' := [(3, .int x17), (2, .int x15), (0, .ref a0), (1, .int j10_1)]) hx hb dX1_drawRows_53 rfl hl (by decide) rfl (fun ls hl => ?_)
          have lp54 : ∀ (n54 : Nat) (H54 : Heap) (locs : List Loc) (ls : Array Slot) (j54_3 : Int32), th_B G Γ Γ [(10, 0)] H0 H54 locs → th_RC G Γ H54 → lv_has ls 4 [(2, .int x15), (0, .ref a0), (1, .int j10_1), (3, .int j54_3)] → F = dv_k f_X1_drawRows_10b (dv_lp f_X1_drawRows_54b (dv G Γ H54, x15.toInt, (a0 : Int), j10_1.toInt, j54_3.toInt)) → 0 ≤ j54_3.toInt → (2147483648 : Int) - j54_3.toInt ≤ (n54 : Int) → W p l e ({ frames := 2, cells := 0, slots := 0, locals := 42 } : Room) s m ([.ref a0] : List Value).toArray below meth c H54 locs 0 0 (MQ below (th_Q (fun (v : Option Value) (H1 : Heap) => v = none ∧ th_I G Γ H1 ∧ th_F G Γ [(10, 0)] H0 H1 ∧ th_RC G Γ H1 ∧ (f_X1_drawRows (dv G Γ H0) (a0 : Int) = (dv G Γ H1, 0))) G) ([.ref a0] : List Value).toArray s 0 0 (fun q => G.2.2 ≤ q)) (F0 m 54 ls []) := by
            intro n54
            induction n54 with
            | zero => intro H54 locs ls j54_3 hB hR hl hF g54_0 hm54; exact absurd hm54 (by have := ti_hi j54_3; omega)
            | succ n54 ih54 =>
              intro H54 locs ls j54_3 hB hR hl hF g54_0 hm54
              have lj54_3 := ti_lo j54_3; have uj54_3 := ti_hi j54_3
              have mm18 := (th_F_o hB.2.2 h0 ro_3 (j := 6) (by decide) (by decide)).trans mb1
              have mm19 := (th_F_o hB.2.2 h0 ro_3 (j := 7) (by decide) (by decide)).trans sx4
              have mm20 := (th_F_o hB.2.2 h0 ro_3 (j := 0) (by decide) (by decide)).trans sb9
              have mm21 := (th_F_o hB.2.2 h0 ro_3 (j := 3) (by decide) (by decide)).trans sb13
              have mm22 := (th_F_o hB.2.2 h0 ro_3 (j := 4) (by decide) (by decide)).trans sb16
              have hm54 : (2147483648 : Int) - j54_3.toInt ≤ (n54 : Int) + 1 := by omega
              replace hF := hF.trans (congrArg (dv_k f_X1_drawRows_10b) (dv_lp_eq))
              replace hF := hF.trans (congrArg (dv_k f_X1_drawRows_10b) (congrArg (dv_k f_X1_drawRows_54b) (f_X1_drawRows_54c.eq_1 (dv G Γ H54) (x15.toInt) ((a0 : Int)) (j10_1.toInt) (j54_3.toInt))))
              refine lv_iload_n hx hb dX1_drawRows_54 rfl (lv_at hl 3 rfl) ?_
              refine lv_aload_n hx hb dX1_drawRows_55 rfl (lv_at hl 1 rfl) ?_
              refine th_getK hC cf_X1 hB.1 h0 ro_3 rfl (j := 4) (by decide) mm22 kf_X1_24 dX1_drawRows_56 ?_
              refine lv_iload_n hx hb dX1_drawRows_59 rfl (lv_at hl 2 rfl) ?_
              refine th_ialdF hC hB.1 hb16 ro_8 rfl (Eq.refl _) (by omega) (by omega) rfl dX1_drawRows_60 (fun x23 mx23 lx23 ux23 => ?_)
              replace hF := hF.trans (congrArg (dv_k f_X1_drawRows_10b) (congrArg (dv_k f_X1_drawRows_54b) (dv_bn (dv_aldI hB.1 hU hb16 ow_8 (z := j10_1.toInt) mx23 (by omega)))))
              refine lv_aload_n hx hb dX1_drawRows_61 rfl (lv_at hl 1 rfl) ?_
              refine th_getK hC cf_X1 hB.1 h0 ro_3 rfl (j := 0) (by decide) mm20 kf_X1_9 dX1_drawRows_62 ?_
              refine lv_iload_n hx hb dX1_drawRows_65 rfl (lv_at hl 2 rfl) ?_
              refine th_ialdF hC hB.1 hb9 ro_4 rfl (Eq.refl _) (by omega) (by omega) rfl dX1_drawRows_66 (fun x24 mx24 lx24 ux24 => ?_)
              replace hF := hF.trans (congrArg (dv_k f_X1_drawRows_10b) (congrArg (dv_k f_X1_drawRows_54b) (dv_bn (dv_aldI hB.1 hU hb9 ow_4 (z := j10_1.toInt) mx24 (by omega)))))
              refine lv_iadd hx hb dX1_drawRows_67 ?_
              refine lv_topi (fun x25 ex25 => ?_)
              have lx25 := ti_lo x25; have ux25 := ti_hi x25
              replace hF := hF.trans (congrArg (dv_k f_X1_drawRows_10b) (congrArg (dv_k f_X1_drawRows_54b) (dv_bn (dv_add_e (Eq.refl _) (Eq.refl _) ex25))))
              refine tr_icmp_ge (tgt := 93) hx hb dX1_drawRows_68 (by decide) (Eq.refl _) (Eq.refl _) (fun c68 => ?_) (fun c68 => ?_)
              · replace hF := hF.trans (congrArg (dv_k f_X1_drawRows_10b) (congrArg (dv_k f_X1_drawRows_54b) (if_pos c68)))
                replace hF := hF.trans (congrArg (dv_k f_X1_drawRows_10b) (dv_kr))
                exact jn93 H54 locs ls hB hR (lv_sub hl [1, 2] rfl) hF
              · replace hF := hF.trans (congrArg (dv_k f_X1_drawRows_10b) (congrArg (dv_k f_X1_drawRows_54b) (if_neg (Int.not_le.mpr c68))))
                refine lv_iload_n hx hb dX1_drawRows_71 rfl (lv_at hl 3 rfl) ?_
                refine lv_bipush (v := 12) hx hb dX1_drawRows_72 (by decide) ?_
                refine tr_icmp_ge (tgt := 93) hx hb dX1_drawRows_74 (by decide) (Eq.refl _) tk_12 (fun c74 => ?_) (fun c74 => ?_)
                · replace hF := hF.trans (congrArg (dv_k f_X1_drawRows_10b) (congrArg (dv_k f_X1_drawRows_54b) (if_pos c74)))
                  replace hF := hF.trans (congrArg (dv_k f_X1_drawRows_10b) (dv_kr))
                  exact jn93 H54 locs ls hB hR (lv_sub hl [1, 2] rfl) hF
                · replace hF := hF.trans (congrArg (dv_k f_X1_drawRows_10b) (congrArg (dv_k f_X1_drawRows_54b) (if_neg (Int.not_le.mpr c74))))
                  refine lv_aload_n hx hb dX1_drawRows_77 rfl (lv_at hl 1 rfl) ?_
                  refine th_getK hC cf_X1 hB.1 h0 ro_3 rfl (j := 6) (by decide) mm18 kf_X1_30 dX1_drawRows_78 ?_
                  refine lv_iload_n hx hb dX1_drawRows_81 rfl (lv_at hl 3 rfl) ?_
                  refine lv_dup2_11 hx hb dX1_drawRows_82 rfl rfl ?_
                  refine th_ialdF hC hB.1 hb1 ro_10 rfl (Eq.refl _) (by omega) (by omega) rfl dX1_drawRows_83 (fun x26 mx26 lx26 ux26 => ?_)
                  replace hF := hF.trans (congrArg (dv_k f_X1_drawRows_10b) (congrArg (dv_k f_X1_drawRows_54b) (dv_bn (dv_aldI hB.1 hU hb1 ow_10 (z := j54_3.toInt) mx26 (by omega)))))
                  refine lv_iload_n hx hb dX1_drawRows_84 rfl (lv_at hl 0 rfl) ?_
                  refine lv_ior hx hb dX1_drawRows_85 ?_
                  refine lv_topi (fun x27 ex27 => ?_)
                  have lx27 := ti_lo x27; have ux27 := ti_hi x27
                  replace hF := hF.trans (congrArg (dv_k f_X1_drawRows_10b) (congrArg (dv_k f_X1_drawRows_54b) (dv_bn (dv_or_e (Eq.refl _) (Eq.refl _) ex27))))
                  have hIo := hB.1
                  refine th_iastF hC hB hb1 (Or.inl hb1) ro_10 rfl (by decide) (Eq.refl _) (by omega) (by omega) th_sIa dX1_drawRows_86 (fun H86 locs hB hf86 hst86 => ?_)
                  have hf := hf86
                  have mm28 := (th_F_o hf h0 ro_3 (j := 6) (by decide) (by decide)).trans mm18
                  have mm29 := (th_F_o hf h0 ro_3 (j := 7) (by decide) (by decide)).trans mm19
                  have mm30 := (th_F_o hf h0 ro_3 (j := 0) (by decide) (by decide)).trans mm20
                  have mm31 := (th_F_o hf h0 ro_3 (j := 3) (by decide) (by decide)).trans mm21
                  have mm32 := (th_F_o hf h0 ro_3 (j := 4) (by decide) (by decide)).trans mm22
                  have hR := th_RC_F hB.1 hR hf (th_T_s hb1 ro_10 hst86) (by decide)
                  replace hF := hF.trans (congrArg (dv_k f_X1_drawRows_10b) (congrArg (dv_k f_X1_drawRows_54b) (dv_bn (dv_stoI hIo hB.1 hU hb1 ow_10 (i := j54_3.toInt) hst86 (Eq.refl _) (by omega)))))
                  refine tr_iinc (fun x33 => [(3, .int x33), (2, .int x15), (0, .ref a0), (1, .int j10_1)]) hx hb dX1_drawRows_87 hl (k := 3) rfl (Eq.refl _) tk_1 (by omega) (by omega) (by decide) (fun _ => rfl) (fun x33 ls ex33 hl => ?_)
                  replace hF := hF.trans (congrArg (dv_k f_X1_drawRows_10b) (congrArg (dv_k f_X1_drawRows_54b) (dv_bn (ex33.symm))))
                  refine lv_goto (tgt := 54) hx hb dX1_drawRows_90 (by decide) ?_
                  replace hF := hF.trans (congrArg (dv_k f_X1_drawRows_10b) (dv_kl))
                  exact ih54 H86 locs ls x33 hB hR (lv_sub hl [1, 2, 3, 0] rfl) hF (by omega) (by omega)
          exact lp54 ((2147483648 : Int) - (x17.toInt)).toNat H10 locs ls x17 hB hR (lv_sub hl [1, 2, 3, 0] rfl) hF (by omega) (by omega)
        · replace hF := hF.trans (congrArg (dv_k f_X1_drawRows_10b) (if_neg (not_not_intro c23)))
          refine lv_goto (tgt := 93) hx hb dX1_drawRows_26 (by decide) ?_
          exact jn93 H10 locs ls hB hR (lv_sub hl [0, 1] rfl) hF
  exact lp10 ((2147483648 : Int) - (0)).toNat H5 locs ls 0 hB hR (lv_sub hl [1, 0] rfl) (by rw [tk_0]; exact hF) (by decide) (by decide) (by have w0 := tk_0; omega)

set_option maxHeartbeats 4000000 in
set_option maxRecDepth 100000 in
theorem c_X1_firstBareCell (l : Launch) (G : th_G) (Γ : th_Ga) (H0 : Heap) (hI : th_I G Γ H0) (hR : th_RC G Γ H0) (hU : dv_U Γ) (a0 : Nat) (h0 : Γ a0 = (3, 0)) : Met l yX1_firstBareCell (.code yX1_firstBareCell cX1_firstBareCell 4 (some FieldType.int) :: th_tb) ({ frames := 3, cells := 0, slots := 0, locals := 65 } : Room) (th_P [.ref a0] G H0) (th_Q (fun (v : Option Value) (H1 : Heap) => ∃ r : Int32, v = some (.int r) ∧ (-1) ≤ r.toInt ∧ r.toInt ≤ 143 ∧ th_I G Γ H1 ∧ th_F G Γ [(10, 0)] H0 H1 ∧ th_RC G Γ H1 ∧ (f_X1_firstBareCell (dv G Γ H0) (a0 : Int) = (dv G Γ H1, r.toInt))) G) 0 0 (fun q => G.2.2 ≤ q) := by
  refine th_met RX1 (by decide) rfl (Nat.le_of_ble_eq_true rfl) ?_
  intro p e s m below meth c hC hH hr hlocks hnm ls hl
  have hx := hC.1
  have hb := hC.2.1
  have hB : th_B G Γ Γ [(10, 0)] H0 H0 [] := ⟨hI, va_S.rf, th_F_rf⟩
  have hl : lv_has ls 4 [(0, .ref a0)] := hl
  obtain ⟨F, hF0⟩ : ∃ F, F = f_X1_firstBareCell (dv G Γ H0) ((a0 : Int)) := ⟨_, rfl⟩
  have hF := hF0.trans (f_X1_firstBareCell.eq_1 (dv G Γ H0) ((a0 : Int)))
  refine lv_aload_n hx hb dX1_firstBareCell_0 rfl (lv_at hl 0 rfl) ?_
  refine th_call (th_runV (As := []) (rest := []) hC mf_X1_drawRows km_X1_84 im_X1_drawRows se_X1_drawRows (c_X1_drawRows l G Γ H0 hB.1 hR hU a0 h0) rfl rfl ⟨Nat.le_of_ble_eq_true rfl, Nat.le_of_ble_eq_true rfl⟩ hB.1 h0 ro_3 rfl rfl hl.1 rfl (Nat.le_of_ble_eq_true rfl) dX1_firstBareCell_1 ⟨Nat.le_refl _, Nat.le_refl _⟩) hB.2.1 (fun v1 H1 locs hp hz hS => ?_)
  obtain ⟨rfl, hI1, hf, hR, z1_0⟩ := hp
  have hB := th_B_c hB hI1 hS hf (by decide)
  replace hF := hF.trans (dv_bn2 (z1_0))
  refine W.eq (g2 := F0 m 4 ls []) rfl ?_
  refine lv_iconst (v := 0) hx hb dX1_firstBareCell_4 (by decide) ?_
  refine lv_istore_n (lv' := [(1, .int 0), (0, .ref a0)]) hx hb dX1_firstBareCell_5 rfl hl (by decide) rfl (fun ls hl => ?_)
  have lp6 : ∀ (n6 : Nat) (locs : List Loc) (ls : Array Slot) (j6_1 : Int32), th_B G Γ Γ [(10, 0)] H0 H1 locs → lv_has ls 4 [(0, .ref a0), (1, .int j6_1)] → F = dv_lp f_X1_firstBareCell_6b (dv G Γ H1, (a0 : Int), j6_1.toInt) → 0 ≤ j6_1.toInt → j6_1.toInt ≤ 144 → (2147483648 : Int) - j6_1.toInt ≤ (n6 : Int) → W p l e ({ frames := 3, cells := 0, slots := 0, locals := 65 } : Room) s m ([.ref a0] : List Value).toArray below meth c H1 locs 0 0 (MQ below (th_Q (fun (v : Option Value) (H1 : Heap) => ∃ r : Int32, v = some (.int r) ∧ (-1) ≤ r.toInt ∧ r.toInt ≤ 143 ∧ th_I G Γ H1 ∧ th_F G Γ [(10, 0)] H0 H1 ∧ th_RC G Γ H1 ∧ (f_X1_firstBareCell (dv G Γ H0) (a0 : Int) = (dv G Γ H1, r.toInt))) G) ([.ref a0] : List Value).toArray s 0 0 (fun q => G.2.2 ≤ q)) (F0 m 6 ls []) := by
    intro n6
    induction n6 with
    | zero => intro locs ls j6_1 hB hl hF g6_0 g6_1 hm6; exact absurd hm6 (by have := ti_hi j6_1; omega)
    | succ n6 ih6 =>
      intro locs ls j6_1 hB hl hF g6_0 g6_1 hm6
      have lj6_1 := ti_lo j6_1; have uj6_1 := ti_hi j6_1
      have hm6 : (2147483648 : Int) - j6_1.toInt ≤ (n6 : Int) + 1 := by omega
      replace hF := hF.trans (dv_lp_eq)
      replace hF := hF.trans (congrArg (dv_k f_X1_firstBareCell_6b) (f_X1_firstBareCell_6c.eq_1 (dv G Γ H1) ((a0 : Int)) (j6_1.toInt)))
      refine lv_iload_n hx hb dX1_firstBareCell_6 rfl (lv_at hl 1 rfl) ?_
      refine lv_sipush (v := 144) hx hb dX1_firstBareCell_7 (by decide) ?_
      refine tr_icmp_ge (tgt := 60) hx hb dX1_firstBareCell_10 (by decide) (Eq.refl _) tk_144 (fun c10 => ?_) (fun c10 => ?_)
      · replace hF := hF.trans (congrArg (dv_k f_X1_firstBareCell_6b) (if_pos c10))
        refine lv_iconst (v := (-1)) hx hb dX1_firstBareCell_60 (by decide) ?_
        replace hF := hF.trans (dv_kr)
        exact th_iret hC hH hr hlocks rfl hB.2.1 ⟨_, rfl, by decide, by decide, hB.1, hB.2.2, hR, (hF0.symm.trans (hF.trans (by rw [tk_m1])))⟩ dX1_firstBareCell_61
      · replace hF := hF.trans (congrArg (dv_k f_X1_firstBareCell_6b) (if_neg (Int.not_le.mpr c10)))
        refine lv_iload_n hx hb dX1_firstBareCell_13 rfl (lv_at hl 1 rfl) ?_
        refine lv_bipush (v := 12) hx hb dX1_firstBareCell_14 (by decide) ?_
        refine tr_irem hx hb dX1_firstBareCell_16 (Eq.refl _) tk_12 (by omega) (by omega) (fun x1 ex1 => ?_)
        replace hF := hF.trans (congrArg (dv_k f_X1_firstBareCell_6b) (dv_bn (ex1.symm)))
        refine lv_istore_n (lv' := [(2, .int x1), (0, .ref a0), (1, .int j6_1)]) hx hb dX1_firstBareCell_17 rfl hl (by decide) rfl (fun ls hl => ?_)
        refine lv_iload_n hx hb dX1_firstBareCell_18 rfl (lv_at hl 2 rfl) ?_
        refine lv_bipush (v := 12) hx hb dX1_firstBareCell_19 (by decide) ?_
        refine tr_idiv hx hb dX1_firstBareCell_21 (Eq.refl _) tk_12 (by omega) (by omega) (fun x2 ex2 => ?_)
        replace hF := hF.trans (congrArg (dv_k f_X1_firstBareCell_6b) (dv_bn (ex2.symm)))
        refine lv_istore_n (lv' := [(3, .int x2), (2, .int x1), (0, .ref a0), (1, .int j6_1)]) hx hb dX1_firstBareCell_22 rfl hl (by decide) rfl (fun ls hl => ?_)
        refine lv_iload_n hx hb dX1_firstBareCell_23 rfl (lv_at hl 1 rfl) ?_
        refine lv_aload_n hx hb dX1_firstBareCell_24 rfl (lv_at hl 2 rfl) ?_
        refine th_getI (j := 8) hC cf_X1 hB.1 h0 ro_3 rfl rfl kf_X1_37 dX1_firstBareCell_25 (fun x3 mx3 lx3 ux3 => ?_)
        replace hF := hF.trans (congrArg (dv_k f_X1_firstBareCell_6b) (dv_bn (dv_getI h0 ro_3 (j := 8) rfl mx3 (by decide))))
        have sx3 := (th_F_o hB.2.2 h0 ro_3 (j := 8) (by decide) (by decide)).symm.trans mx3
        have jn54 : ∀ (locs : List Loc) (ls : Array Slot) , th_B G Γ Γ [(10, 0)] H0 H1 locs → lv_has ls 4 [(0, .ref a0), (1, .int j6_1)] → F = dv_k f_X1_firstBareCell_6b (f_X1_firstBareCell_54 (dv G Γ H1) ((a0 : Int)) (j6_1.toInt)) → W p l e ({ frames := 3, cells := 0, slots := 0, locals := 65 } : Room) s m ([.ref a0] : List Value).toArray below meth c H1 locs 0 0 (MQ below (th_Q (fun (v : Option Value) (H1 : Heap) => ∃ r : Int32, v = some (.int r) ∧ (-1) ≤ r.toInt ∧ r.toInt ≤ 143 ∧ th_I G Γ H1 ∧ th_F G Γ [(10, 0)] H0 H1 ∧ th_RC G Γ H1 ∧ (f_X1_firstBareCell (dv G Γ H0) (a0 : Int) = (dv G Γ H1, r.toInt))) G) ([.ref a0] : List Value).toArray s 0 0 (fun q => G.2.2 ≤ q)) (F0 m 54 ls []) := by
          intro locs ls hB hl hF
          replace hF := hF.trans (congrArg (dv_k f_X1_firstBareCell_6b) (f_X1_firstBareCell_54.eq_1 (dv G Γ H1) ((a0 : Int)) (j6_1.toInt)))
          refine tr_iinc (fun x4 => [(1, .int x4), (0, .ref a0)]) hx hb dX1_firstBareCell_54 hl (k := 1) rfl (Eq.refl _) tk_1 (by omega) (by omega) (by decide) (fun _ => rfl) (fun x4 ls ex4 hl => ?_)
          replace hF := hF.trans (congrArg (dv_k f_X1_firstBareCell_6b) (dv_bn (ex4.symm)))
          refine lv_goto (tgt := 6) hx hb dX1_firstBareCell_57 (by decide) ?_
          replace hF := hF.trans (dv_kl)
          exact ih6 locs ls x4 hB (lv_sub hl [1, 0] rfl) hF (by omega) (by omega) (by omega)
        refine tr_icmp_ge (tgt := 54) hx hb dX1_firstBareCell_28 (by decide) (Eq.refl _) (Eq.refl _) (fun c28 => ?_) (fun c28 => ?_)
        · replace hF := hF.trans (congrArg (dv_k f_X1_firstBareCell_6b) (if_pos c28))
          exact jn54 locs ls hB (lv_sub hl [2, 3] rfl) hF
        · replace hF := hF.trans (congrArg (dv_k f_X1_firstBareCell_6b) (if_neg (Int.not_le.mpr c28)))
          refine lv_iload_n hx hb dX1_firstBareCell_31 rfl (lv_at hl 0 rfl) ?_
          refine lv_aload_n hx hb dX1_firstBareCell_32 rfl (lv_at hl 2 rfl) ?_
          refine th_getI (j := 9) hC cf_X1 hB.1 h0 ro_3 rfl rfl kf_X1_40 dX1_firstBareCell_33 (fun x5 mx5 lx5 ux5 => ?_)
          replace hF := hF.trans (congrArg (dv_k f_X1_firstBareCell_6b) (dv_bn (dv_getI h0 ro_3 (j := 9) rfl mx5 (by decide))))
          have sx5 := (th_F_o hB.2.2 h0 ro_3 (j := 9) (by decide) (by decide)).symm.trans mx5
          refine tr_icmp_ge (tgt := 54) hx hb dX1_firstBareCell_36 (by decide) (Eq.refl _) (Eq.refl _) (fun c36 => ?_) (fun c36 => ?_)
          · replace hF := hF.trans (congrArg (dv_k f_X1_firstBareCell_6b) (if_pos c36))
            exact jn54 locs ls hB (lv_sub hl [2, 3] rfl) hF
          · replace hF := hF.trans (congrArg (dv_k f_X1_firstBareCell_6b) (if_neg (Int.not_le.mpr c36)))
            refine lv_aload_n hx hb dX1_firstBareCell_39 rfl (lv_at hl 2 rfl) ?_
            refine th_getO (j := 6) (r2 := 10) hC cf_X1 hB.1 h0 ro_3 rfl rfl kf_X1_30 dX1_firstBareCell_40 (fun b6 mb6 hb6 => ?_)
            have sb6 := (th_F_o hB.2.2 h0 ro_3 (j := 6) (by decide) (by decide)).symm.trans mb6
            refine lv_iload_n hx hb dX1_firstBareCell_43 rfl (lv_at hl 0 rfl) ?_
            refine th_ialdF hC hB.1 hb6 ro_10 rfl (Eq.refl _) (by omega) (by omega) rfl dX1_firstBareCell_44 (fun x7 mx7 lx7 ux7 => ?_)
            replace hF := hF.trans (congrArg (dv_k f_X1_firstBareCell_6b) (dv_bn (dv_aldI hB.1 hU hb6 ow_10 (z := x2.toInt) mx7 (by omega))))
            refine lv_iload_n hx hb dX1_firstBareCell_45 rfl (lv_at hl 1 rfl) ?_
            refine lv_ishr hx hb dX1_firstBareCell_46 ?_
            refine lv_topi (fun x8 ex8 => ?_)
            have lx8 := ti_lo x8; have ux8 := ti_hi x8
            replace hF := hF.trans (congrArg (dv_k f_X1_firstBareCell_6b) (dv_bn (dv_shr_e (Eq.refl _) (Eq.refl _) ex8)))
            refine lv_iconst (v := 1) hx hb dX1_firstBareCell_47 (by decide) ?_
            refine lv_iand hx hb dX1_firstBareCell_48 ?_
            refine lv_topi (fun x9 ex9 => ?_)
            have lx9 := ti_lo x9; have ux9 := ti_hi x9
            replace hF := hF.trans (congrArg (dv_k f_X1_firstBareCell_6b) (dv_bn (dv_and_e (Eq.refl _) tk_1 ex9)))
            have fx9 := ti_and x8 1 (m := 1) (by decide) (by decide)
            rw [← ex9] at fx9
            refine tr_if_ne (tgt := 54) hx hb dX1_firstBareCell_49 (by decide) (Eq.refl _) (fun c49 => ?_) (fun c49 => ?_)
            · replace hF := hF.trans (congrArg (dv_k f_X1_firstBareCell_6b) (if_pos c49))
              exact jn54 locs ls hB (lv_sub hl [2, 3] rfl) hF
            · replace hF := hF.trans (congrArg (dv_k f_X1_firstBareCell_6b) (if_neg (not_not_intro c49)))
              refine lv_iload_n hx hb dX1_firstBareCell_52 rfl (lv_at hl 3 rfl) ?_
              replace hF := hF.trans (dv_kr)
              exact th_iret hC hH hr hlocks rfl hB.2.1 ⟨_, rfl, by omega, by omega, hB.1, hB.2.2, hR, (hF0.symm.trans hF)⟩ dX1_firstBareCell_53
  exact lp6 ((2147483648 : Int) - (0)).toNat locs ls 0 hB (lv_sub hl [1, 0] rfl) (by rw [tk_0]; exact hF) (by decide) (by decide) (by have w0 := tk_0; omega)

set_option maxHeartbeats 4000000 in
set_option maxRecDepth 100000 in
theorem c_X1_placesFor (l : Launch) (G : th_G) (Γ : th_Ga) (H0 : Heap) (hI : th_I G Γ H0) (hR : th_RC G Γ H0) (hU : dv_U Γ) (a0 : Nat) (h0 : Γ a0 = (3, 0)) (p1 : Int32) (f1 : 1 ≤ p1.toInt) (g1 : p1.toInt ≤ 12) : Met l yX1_placesFor (.code yX1_placesFor cX1_placesFor 7 (some FieldType.int) :: th_tb) ({ frames := 3, cells := 0, slots := 0, locals := 65 } : Room) (th_P [.ref a0, .int p1] G H0) (th_Q (fun (v : Option Value) (H1 : Heap) => ∃ r : Int32, v = some (.int r) ∧ th_I G Γ H1 ∧ th_F G Γ [(10, 0)] H0 H1 ∧ th_RC G Γ H1 ∧ (f_X1_placesFor (dv G Γ H0) (a0 : Int) p1.toInt = (dv G Γ H1, r.toInt))) G) 0 0 (fun q => G.2.2 ≤ q) := by
  refine th_met RX1 (by decide) rfl (Nat.le_of_ble_eq_true rfl) ?_
  intro p e s m below meth c hC hH hr hlocks hnm ls hl
  have hx := hC.1
  have hb := hC.2.1
  have hB : th_B G Γ Γ [(10, 0)] H0 H0 [] := ⟨hI, va_S.rf, th_F_rf⟩
  have hl : lv_has ls 7 [(0, .ref a0), (1, .int p1)] := hl
  have lp1 := ti_lo p1; have up1 := ti_hi p1
  obtain ⟨F, hF0⟩ : ∃ F, F = f_X1_placesFor (dv G Γ H0) ((a0 : Int)) (p1.toInt) := ⟨_, rfl⟩
  have hF := hF0.trans (f_X1_placesFor.eq_1 (dv G Γ H0) ((a0 : Int)) (p1.toInt))
  refine lv_aload_n hx hb dX1_placesFor_0 rfl (lv_at hl 0 rfl) ?_
  refine th_call (th_runV (As := []) (rest := []) hC mf_X1_drawRows km_X1_84 im_X1_drawRows se_X1_drawRows (c_X1_drawRows l G Γ H0 hB.1 hR hU a0 h0) rfl rfl ⟨Nat.le_of_ble_eq_true rfl, Nat.le_of_ble_eq_true rfl⟩ hB.1 h0 ro_3 rfl rfl hl.1 rfl (Nat.le_of_ble_eq_true rfl) dX1_placesFor_1 ⟨Nat.le_refl _, Nat.le_refl _⟩) hB.2.1 (fun v1 H1 locs hp hz hS => ?_)
  obtain ⟨rfl, hI1, hf, hR, z1_0⟩ := hp
  have hB := th_B_c hB hI1 hS hf (by decide)
  replace hF := hF.trans (dv_bn2 (z1_0))
  refine W.eq (g2 := F0 m 4 ls []) rfl ?_
  refine lv_iconst (v := 1) hx hb dX1_placesFor_4 (by decide) ?_
  refine lv_iload_n hx hb dX1_placesFor_5 rfl (lv_at hl 1 rfl) ?_
  refine lv_ishl hx hb dX1_placesFor_6 ?_
  refine lv_topi (fun x1 ex1 => ?_)
  have lx1 := ti_lo x1; have ux1 := ti_hi x1
  replace hF := hF.trans (dv_bn (dv_shl_e tk_1 (Eq.refl _) ex1))
  refine lv_iconst (v := 1) hx hb dX1_placesFor_7 (by decide) ?_
  refine lv_isub hx hb dX1_placesFor_8 ?_
  refine lv_topi (fun x2 ex2 => ?_)
  have lx2 := ti_lo x2; have ux2 := ti_hi x2
  replace hF := hF.trans (dv_bn (dv_sub_e (Eq.refl _) tk_1 ex2))
  refine lv_istore_n (lv' := [(2, .int x2), (0, .ref a0), (1, .int p1)]) hx hb dX1_placesFor_9 rfl hl (by decide) rfl (fun ls hl => ?_)
  refine lv_iconst (v := 0) hx hb dX1_placesFor_10 (by decide) ?_
  refine lv_istore_n (lv' := [(3, .int 0), (2, .int x2), (0, .ref a0), (1, .int p1)]) hx hb dX1_placesFor_11 rfl hl (by decide) rfl (fun ls hl => ?_)
  refine lv_iconst (v := 0) hx hb dX1_placesFor_12 (by decide) ?_
  refine lv_istore (lv' := [(4, .int 0), (3, .int 0), (2, .int x2), (0, .ref a0), (1, .int p1)]) hx hb dX1_placesFor_13 hl (by decide) rfl (fun ls hl => ?_)
  have lp15 : ∀ (n15 : Nat) (locs : List Loc) (ls : Array Slot) (j15_3 : Int32) (j15_4 : Int32), th_B G Γ Γ [(10, 0)] H0 H1 locs → lv_has ls 7 [(2, .int x2), (0, .ref a0), (1, .int p1), (3, .int j15_3), (4, .int j15_4)] → F = dv_lp f_X1_placesFor_15b (dv G Γ H1, x2.toInt, (a0 : Int), p1.toInt, j15_3.toInt, j15_4.toInt) → 0 ≤ j15_4.toInt → j15_4.toInt ≤ 12 → (2147483648 : Int) - j15_4.toInt ≤ (n15 : Int) → W p l e ({ frames := 3, cells := 0, slots := 0, locals := 65 } : Room) s m ([.ref a0, .int p1] : List Value).toArray below meth c H1 locs 0 0 (MQ below (th_Q (fun (v : Option Value) (H1 : Heap) => ∃ r : Int32, v = some (.int r) ∧ th_I G Γ H1 ∧ th_F G Γ [(10, 0)] H0 H1 ∧ th_RC G Γ H1 ∧ (f_X1_placesFor (dv G Γ H0) (a0 : Int) p1.toInt = (dv G Γ H1, r.toInt))) G) ([.ref a0, .int p1] : List Value).toArray s 0 0 (fun q => G.2.2 ≤ q)) (F0 m 15 ls []) := by
    intro n15
    induction n15 with
    | zero => intro locs ls j15_3 j15_4 hB hl hF g15_0 g15_1 hm15; exact absurd hm15 (by have := ti_hi j15_4; omega)
    | succ n15 ih15 =>
      intro locs ls j15_3 j15_4 hB hl hF g15_0 g15_1 hm15
      have lj15_3 := ti_lo j15_3; have uj15_3 := ti_hi j15_3
      have lj15_4 := ti_lo j15_4; have uj15_4 := ti_hi j15_4
      have hm15 : (2147483648 : Int) - j15_4.toInt ≤ (n15 : Int) + 1 := by omega
      replace hF := hF.trans (dv_lp_eq)
      replace hF := hF.trans (congrArg (dv_k f_X1_placesFor_15b) (f_X1_placesFor_15c.eq_1 (dv G Γ H1) (x2.toInt) ((a0 : Int)) (p1.toInt) (j15_3.toInt) (j15_4.toInt)))
      refine lv_iload hx hb dX1_placesFor_15 (lv_at hl 4 rfl) ?_
      refine lv_iload_n hx hb dX1_placesFor_17 rfl (lv_at hl 2 rfl) ?_
      refine tr_iadd hx hb dX1_placesFor_18 (Eq.refl _) (Eq.refl _) (by omega) (by omega) (fun x3 ex3 => ?_)
      replace hF := hF.trans (congrArg (dv_k f_X1_placesFor_15b) (dv_bn (ex3.symm)))
      refine lv_aload_n hx hb dX1_placesFor_19 rfl (lv_at hl 1 rfl) ?_
      refine th_getI (j := 9) hC cf_X1 hB.1 h0 ro_3 rfl rfl kf_X1_40 dX1_placesFor_20 (fun x4 mx4 lx4 ux4 => ?_)
      replace hF := hF.trans (congrArg (dv_k f_X1_placesFor_15b) (dv_bn (dv_getI h0 ro_3 (j := 9) rfl mx4 (by decide))))
      have sx4 := (th_F_o hB.2.2 h0 ro_3 (j := 9) (by decide) (by decide)).symm.trans mx4
      refine tr_icmp_gt (tgt := 111) hx hb dX1_placesFor_23 (by decide) (Eq.refl _) (Eq.refl _) (fun c23 => ?_) (fun c23 => ?_)
      · replace hF := hF.trans (congrArg (dv_k f_X1_placesFor_15b) (if_pos c23))
        refine lv_iload_n hx hb dX1_placesFor_111 rfl (lv_at hl 3 rfl) ?_
        replace hF := hF.trans (dv_kr)
        exact th_iret hC hH hr hlocks rfl hB.2.1 ⟨_, rfl, hB.1, hB.2.2, hR, (hF0.symm.trans hF)⟩ dX1_placesFor_112
      · replace hF := hF.trans (congrArg (dv_k f_X1_placesFor_15b) (if_neg (Int.not_lt.mpr c23)))
        refine lv_iconst (v := 0) hx hb dX1_placesFor_26 (by decide) ?_
        refine lv_istore (lv' := [(5, .int 0), (2, .int x2), (0, .ref a0), (1, .int p1), (3, .int j15_3), (4, .int j15_4)]) hx hb dX1_placesFor_27 hl (by decide) rfl (fun ls hl => ?_)
        refine lv_iload hx hb dX1_placesFor_29 (lv_at hl 5 rfl) ?_
        refine lv_istore (lv' := [(6, .int j15_4), (5, .int 0), (2, .int x2), (0, .ref a0), (1, .int p1), (3, .int j15_3), (4, .int j15_4)]) hx hb dX1_placesFor_31 hl (by decide) rfl (fun ls hl => ?_)
        have lp33 : ∀ (n33 : Nat) (locs : List Loc) (ls : Array Slot) (j33_5 : Int32) (j33_6 : Int32), th_B G Γ Γ [(10, 0)] H0 H1 locs → lv_has ls 7 [(2, .int x2), (0, .ref a0), (1, .int p1), (3, .int j15_3), (4, .int j15_4), (5, .int j33_5), (6, .int j33_6)] → F = dv_k f_X1_placesFor_15b (dv_lp f_X1_placesFor_33b (dv G Γ H1, x2.toInt, (a0 : Int), p1.toInt, j15_3.toInt, j15_4.toInt, j33_5.toInt, j33_6.toInt)) → 0 ≤ j33_6.toInt → j33_6.toInt ≤ 12 → (2147483648 : Int) - j33_6.toInt ≤ (n33 : Int) → W p l e ({ frames := 3, cells := 0, slots := 0, locals := 65 } : Room) s m ([.ref a0, .int p1] : List Value).toArray below meth c H1 locs 0 0 (MQ below (th_Q (fun (v : Option Value) (H1 : Heap) => ∃ r : Int32, v = some (.int r) ∧ th_I G Γ H1 ∧ th_F G Γ [(10, 0)] H0 H1 ∧ th_RC G Γ H1 ∧ (f_X1_placesFor (dv G Γ H0) (a0 : Int) p1.toInt = (dv G Γ H1, r.toInt))) G) ([.ref a0, .int p1] : List Value).toArray s 0 0 (fun q => G.2.2 ≤ q)) (F0 m 33 ls []) := by
          intro n33
          induction n33 with
          | zero => intro locs ls j33_5 j33_6 hB hl hF g33_0 g33_1 hm33; exact absurd hm33 (by have := ti_hi j33_6; omega)
          | succ n33 ih33 =>
            intro locs ls j33_5 j33_6 hB hl hF g33_0 g33_1 hm33
            have lj33_5 := ti_lo j33_5; have uj33_5 := ti_hi j33_5
            have lj33_6 := ti_lo j33_6; have uj33_6 := ti_hi j33_6
            have hm33 : (2147483648 : Int) - j33_6.toInt ≤ (n33 : Int) + 1 := by omega
            replace hF := hF.trans (congrArg (dv_k f_X1_placesFor_15b) (dv_lp_eq))
            replace hF := hF.trans (congrArg (dv_k f_X1_placesFor_15b) (congrArg (dv_k f_X1_placesFor_33b) (f_X1_placesFor_33c.eq_1 (dv G Γ H1) (x2.toInt) ((a0 : Int)) (p1.toInt) (j15_3.toInt) (j15_4.toInt) (j33_5.toInt) (j33_6.toInt))))
            refine lv_iload hx hb dX1_placesFor_33 (lv_at hl 6 rfl) ?_
            refine lv_iload hx hb dX1_placesFor_35 (lv_at hl 4 rfl) ?_
            refine lv_iload_n hx hb dX1_placesFor_37 rfl (lv_at hl 2 rfl) ?_
            refine tr_iadd hx hb dX1_placesFor_38 (Eq.refl _) (Eq.refl _) (by omega) (by omega) (fun x5 ex5 => ?_)
            replace hF := hF.trans (congrArg (dv_k f_X1_placesFor_15b) (congrArg (dv_k f_X1_placesFor_33b) (dv_bn (ex5.symm))))
            have jn67 : ∀ (locs : List Loc) (ls : Array Slot) , th_B G Γ Γ [(10, 0)] H0 H1 locs → lv_has ls 7 [(2, .int x2), (0, .ref a0), (1, .int p1), (3, .int j15_3), (4, .int j15_4), (5, .int j33_5)] → F = dv_k f_X1_placesFor_15b (dv_k f_X1_placesFor_33b (f_X1_placesFor_67 (dv G Γ H1) (x2.toInt) ((a0 : Int)) (p1.toInt) (j15_3.toInt) (j15_4.toInt) (j33_5.toInt))) → W p l e ({ frames := 3, cells := 0, slots := 0, locals := 65 } : Room) s m ([.ref a0, .int p1] : List Value).toArray below meth c H1 locs 0 0 (MQ below (th_Q (fun (v : Option Value) (H1 : Heap) => ∃ r : Int32, v = some (.int r) ∧ th_I G Γ H1 ∧ th_F G Γ [(10, 0)] H0 H1 ∧ th_RC G Γ H1 ∧ (f_X1_placesFor (dv G Γ H0) (a0 : Int) p1.toInt = (dv G Γ H1, r.toInt))) G) ([.ref a0, .int p1] : List Value).toArray s 0 0 (fun q => G.2.2 ≤ q)) (F0 m 67 ls []) := by
              intro locs ls hB hl hF
              replace hF := hF.trans (congrArg (dv_k f_X1_placesFor_15b) (congrArg (dv_k f_X1_placesFor_33b) (f_X1_placesFor_67.eq_1 (dv G Γ H1) (x2.toInt) ((a0 : Int)) (p1.toInt) (j15_3.toInt) (j15_4.toInt) (j33_5.toInt))))
              refine lv_iconst (v := 0) hx hb dX1_placesFor_67 (by decide) ?_
              refine lv_istore (lv' := [(6, .int 0), (2, .int x2), (0, .ref a0), (1, .int p1), (3, .int j15_3), (4, .int j15_4), (5, .int j33_5)]) hx hb dX1_placesFor_68 hl (by decide) rfl (fun ls hl => ?_)
              have lp70 : ∀ (n70 : Nat) (locs : List Loc) (ls : Array Slot) (j70_3 : Int32) (j70_6 : Int32), th_B G Γ Γ [(10, 0)] H0 H1 locs → lv_has ls 7 [(2, .int x2), (0, .ref a0), (1, .int p1), (4, .int j15_4), (5, .int j33_5), (3, .int j70_3), (6, .int j70_6)] → F = dv_k f_X1_placesFor_15b (dv_k f_X1_placesFor_33b (dv_lp f_X1_placesFor_70b (dv G Γ H1, x2.toInt, (a0 : Int), p1.toInt, j15_4.toInt, j33_5.toInt, j70_3.toInt, j70_6.toInt))) → 0 ≤ j70_6.toInt → j70_6.toInt ≤ 12 → (2147483648 : Int) - j70_6.toInt ≤ (n70 : Int) → W p l e ({ frames := 3, cells := 0, slots := 0, locals := 65 } : Room) s m ([.ref a0, .int p1] : List Value).toArray below meth c H1 locs 0 0 (MQ below (th_Q (fun (v : Option Value) (H1 : Heap) => ∃ r : Int32, v = some (.int r) ∧ th_I G Γ H1 ∧ th_F G Γ [(10, 0)] H0 H1 ∧ th_RC G Γ H1 ∧ (f_X1_placesFor (dv G Γ H0) (a0 : Int) p1.toInt = (dv G Γ H1, r.toInt))) G) ([.ref a0, .int p1] : List Value).toArray s 0 0 (fun q => G.2.2 ≤ q)) (F0 m 70 ls []) := by
                intro n70
                induction n70 with
                | zero => intro locs ls j70_3 j70_6 hB hl hF g70_0 g70_1 hm70; exact absurd hm70 (by have := ti_hi j70_6; omega)
                | succ n70 ih70 =>
                  intro locs ls j70_3 j70_6 hB hl hF g70_0 g70_1 hm70
                  have lj70_3 := ti_lo j70_3; have uj70_3 := ti_hi j70_3
                  have lj70_6 := ti_lo j70_6; have uj70_6 := ti_hi j70_6
                  have hm70 : (2147483648 : Int) - j70_6.toInt ≤ (n70 : Int) + 1 := by omega
                  replace hF := hF.trans (congrArg (dv_k f_X1_placesFor_15b) (congrArg (dv_k f_X1_placesFor_33b) (dv_lp_eq)))
                  replace hF := hF.trans (congrArg (dv_k f_X1_placesFor_15b) (congrArg (dv_k f_X1_placesFor_33b) (congrArg (dv_k f_X1_placesFor_70b) (f_X1_placesFor_70c.eq_1 (dv G Γ H1) (x2.toInt) ((a0 : Int)) (p1.toInt) (j15_4.toInt) (j33_5.toInt) (j70_3.toInt) (j70_6.toInt)))))
                  refine lv_iload hx hb dX1_placesFor_70 (lv_at hl 6 rfl) ?_
                  refine lv_iload_n hx hb dX1_placesFor_72 rfl (lv_at hl 2 rfl) ?_
                  refine tr_iadd hx hb dX1_placesFor_73 (Eq.refl _) (Eq.refl _) (by omega) (by omega) (fun x6 ex6 => ?_)
                  replace hF := hF.trans (congrArg (dv_k f_X1_placesFor_15b) (congrArg (dv_k f_X1_placesFor_33b) (congrArg (dv_k f_X1_placesFor_70b) (dv_bn (ex6.symm)))))
                  refine lv_aload_n hx hb dX1_placesFor_74 rfl (lv_at hl 1 rfl) ?_
                  refine th_getI (j := 8) hC cf_X1 hB.1 h0 ro_3 rfl rfl kf_X1_37 dX1_placesFor_75 (fun x7 mx7 lx7 ux7 => ?_)
                  replace hF := hF.trans (congrArg (dv_k f_X1_placesFor_15b) (congrArg (dv_k f_X1_placesFor_33b) (congrArg (dv_k f_X1_placesFor_70b) (dv_bn (dv_getI h0 ro_3 (j := 8) rfl mx7 (by decide))))))
                  have sx7 := (th_F_o hB.2.2 h0 ro_3 (j := 8) (by decide) (by decide)).symm.trans mx7
                  refine tr_icmp_gt (tgt := 105) hx hb dX1_placesFor_78 (by decide) (Eq.refl _) (Eq.refl _) (fun c78 => ?_) (fun c78 => ?_)
                  · replace hF := hF.trans (congrArg (dv_k f_X1_placesFor_15b) (congrArg (dv_k f_X1_placesFor_33b) (congrArg (dv_k f_X1_placesFor_70b) (if_pos c78))))
                    refine tr_iinc (fun x8 => [(4, .int x8), (2, .int x2), (0, .ref a0), (1, .int p1), (5, .int j33_5), (3, .int j70_3), (6, .int j70_6)]) hx hb dX1_placesFor_105 hl (k := 3) rfl (Eq.refl _) tk_1 (by omega) (by omega) (by decide) (fun _ => rfl) (fun x8 ls ex8 hl => ?_)
                    replace hF := hF.trans (congrArg (dv_k f_X1_placesFor_15b) (congrArg (dv_k f_X1_placesFor_33b) (congrArg (dv_k f_X1_placesFor_70b) (dv_bn (ex8.symm)))))
                    refine lv_goto (tgt := 15) hx hb dX1_placesFor_108 (by decide) ?_
                    replace hF := hF.trans (congrArg (dv_k f_X1_placesFor_15b) (congrArg (dv_k f_X1_placesFor_33b) (dv_kr)))
                    replace hF := hF.trans (congrArg (dv_k f_X1_placesFor_15b) (dv_kr))
                    replace hF := hF.trans (dv_kl)
                    exact ih15 locs ls j70_3 x8 hB (lv_sub hl [1, 2, 3, 5, 0] rfl) hF (by omega) (by omega) (by omega)
                  · replace hF := hF.trans (congrArg (dv_k f_X1_placesFor_15b) (congrArg (dv_k f_X1_placesFor_33b) (congrArg (dv_k f_X1_placesFor_70b) (if_neg (Int.not_lt.mpr c78)))))
                    refine lv_iload_n hx hb dX1_placesFor_81 rfl (lv_at hl 5 rfl) ?_
                    refine lv_iload hx hb dX1_placesFor_82 (lv_at hl 4 rfl) ?_
                    refine lv_iload hx hb dX1_placesFor_84 (lv_at hl 6 rfl) ?_
                    refine lv_ishr hx hb dX1_placesFor_86 ?_
                    refine lv_topi (fun x9 ex9 => ?_)
                    have lx9 := ti_lo x9; have ux9 := ti_hi x9
                    replace hF := hF.trans (congrArg (dv_k f_X1_placesFor_15b) (congrArg (dv_k f_X1_placesFor_33b) (congrArg (dv_k f_X1_placesFor_70b) (dv_bn (dv_shr_e (Eq.refl _) (Eq.refl _) ex9)))))
                    refine lv_iload_n hx hb dX1_placesFor_87 rfl (lv_at hl 0 rfl) ?_
                    refine lv_iand hx hb dX1_placesFor_88 ?_
                    refine lv_topi (fun x10 ex10 => ?_)
                    have lx10 := ti_lo x10; have ux10 := ti_hi x10
                    replace hF := hF.trans (congrArg (dv_k f_X1_placesFor_15b) (congrArg (dv_k f_X1_placesFor_33b) (congrArg (dv_k f_X1_placesFor_70b) (dv_bn (dv_and_e (Eq.refl _) (Eq.refl _) ex10)))))
                    have jn97 : ∀ (locs : List Loc) (ls : Array Slot) (s97_1 : Int32), th_B G Γ Γ [(10, 0)] H0 H1 locs → lv_has ls 7 [(2, .int x2), (0, .ref a0), (1, .int p1), (4, .int j15_4), (5, .int j33_5), (6, .int j70_6)] → F = dv_k f_X1_placesFor_15b (dv_k f_X1_placesFor_33b (dv_k f_X1_placesFor_70b (f_X1_placesFor_97 (dv G Γ H1) (x2.toInt) ((a0 : Int)) (p1.toInt) (j15_4.toInt) (j33_5.toInt) (j70_6.toInt) (j70_3.toInt) (s97_1.toInt)))) → 0 ≤ s97_1.toInt → s97_1.toInt ≤ 1 → W p l e ({ frames := 3, cells := 0, slots := 0, locals := 65 } : Room) s m ([.ref a0, .int p1] : List Value).toArray below meth c H1 locs 0 0 (MQ below (th_Q (fun (v : Option Value) (H1 : Heap) => ∃ r : Int32, v = some (.int r) ∧ th_I G Γ H1 ∧ th_F G Γ [(10, 0)] H0 H1 ∧ th_RC G Γ H1 ∧ (f_X1_placesFor (dv G Γ H0) (a0 : Int) p1.toInt = (dv G Γ H1, r.toInt))) G) ([.ref a0, .int p1] : List Value).toArray s 0 0 (fun q => G.2.2 ≤ q)) (F0 m 97 ls [.int s97_1, .int j70_3]) := by
                      intro locs ls s97_1 hB hl hF g97_0 g97_1
                      have ls97_1 := ti_lo s97_1; have us97_1 := ti_hi s97_1
                      replace hF := hF.trans (congrArg (dv_k f_X1_placesFor_15b) (congrArg (dv_k f_X1_placesFor_33b) (congrArg (dv_k f_X1_placesFor_70b) (f_X1_placesFor_97.eq_1 (dv G Γ H1) (x2.toInt) ((a0 : Int)) (p1.toInt) (j15_4.toInt) (j33_5.toInt) (j70_6.toInt) (j70_3.toInt) (s97_1.toInt)))))
                      refine lv_iadd hx hb dX1_placesFor_97 ?_
                      refine lv_topi (fun x11 ex11 => ?_)
                      have lx11 := ti_lo x11; have ux11 := ti_hi x11
                      replace hF := hF.trans (congrArg (dv_k f_X1_placesFor_15b) (congrArg (dv_k f_X1_placesFor_33b) (congrArg (dv_k f_X1_placesFor_70b) (dv_bn (dv_add_e (Eq.refl _) (Eq.refl _) ex11)))))
                      refine lv_istore_n (lv' := [(3, .int x11), (2, .int x2), (0, .ref a0), (1, .int p1), (4, .int j15_4), (5, .int j33_5), (6, .int j70_6)]) hx hb dX1_placesFor_98 rfl hl (by decide) rfl (fun ls hl => ?_)
                      refine tr_iinc (fun x12 => [(6, .int x12), (3, .int x11), (2, .int x2), (0, .ref a0), (1, .int p1), (4, .int j15_4), (5, .int j33_5)]) hx hb dX1_placesFor_99 hl (k := 6) rfl (Eq.refl _) tk_1 (by omega) (by omega) (by decide) (fun _ => rfl) (fun x12 ls ex12 hl => ?_)
                      replace hF := hF.trans (congrArg (dv_k f_X1_placesFor_15b) (congrArg (dv_k f_X1_placesFor_33b) (congrArg (dv_k f_X1_placesFor_70b) (dv_bn (ex12.symm)))))
                      refine lv_goto (tgt := 70) hx hb dX1_placesFor_102 (by decide) ?_
                      replace hF := hF.trans (congrArg (dv_k f_X1_placesFor_15b) (congrArg (dv_k f_X1_placesFor_33b) (dv_kl)))
                      exact ih70 locs ls x11 x12 hB (lv_sub hl [2, 3, 4, 5, 6, 1, 0] rfl) hF (by omega) (by omega) (by omega)
                    refine tr_if_ne (tgt := 96) hx hb dX1_placesFor_89 (by decide) (Eq.refl _) (fun c89 => ?_) (fun c89 => ?_)
                    · replace hF := hF.trans (congrArg (dv_k f_X1_placesFor_15b) (congrArg (dv_k f_X1_placesFor_33b) (congrArg (dv_k f_X1_placesFor_70b) (if_pos c89))))
                      refine lv_iconst (v := 0) hx hb dX1_placesFor_96 (by decide) ?_
                      exact jn97 locs ls 0 hB (lv_sub hl [0, 1, 2, 3, 4, 6] rfl) (by rw [tk_0]; exact hF) (by decide) (by decide)
                    · replace hF := hF.trans (congrArg (dv_k f_X1_placesFor_15b) (congrArg (dv_k f_X1_placesFor_33b) (congrArg (dv_k f_X1_placesFor_70b) (if_neg (not_not_intro c89)))))
                      refine lv_iconst (v := 1) hx hb dX1_placesFor_92 (by decide) ?_
                      refine lv_goto (tgt := 97) hx hb dX1_placesFor_93 (by decide) ?_
                      exact jn97 locs ls 1 hB (lv_sub hl [0, 1, 2, 3, 4, 6] rfl) (by rw [tk_1]; exact hF) (by decide) (by decide)
              exact lp70 ((2147483648 : Int) - (0)).toNat locs ls j15_3 0 hB (lv_sub hl [1, 2, 3, 5, 6, 4, 0] rfl) (by rw [tk_0]; exact hF) (by decide) (by decide) (by have w0 := tk_0; omega)
            refine tr_icmp_ge (tgt := 67) hx hb dX1_placesFor_39 (by decide) (Eq.refl _) (Eq.refl _) (fun c39 => ?_) (fun c39 => ?_)
            · replace hF := hF.trans (congrArg (dv_k f_X1_placesFor_15b) (congrArg (dv_k f_X1_placesFor_33b) (if_pos c39)))
              exact jn67 locs ls hB (lv_sub hl [0, 1, 2, 3, 4, 5] rfl) hF
            · replace hF := hF.trans (congrArg (dv_k f_X1_placesFor_15b) (congrArg (dv_k f_X1_placesFor_33b) (if_neg (Int.not_le.mpr c39))))
              refine lv_iload hx hb dX1_placesFor_42 (lv_at hl 6 rfl) ?_
              refine lv_bipush (v := 12) hx hb dX1_placesFor_44 (by decide) ?_
              refine tr_icmp_ge (tgt := 67) hx hb dX1_placesFor_46 (by decide) (Eq.refl _) tk_12 (fun c46 => ?_) (fun c46 => ?_)
              · replace hF := hF.trans (congrArg (dv_k f_X1_placesFor_15b) (congrArg (dv_k f_X1_placesFor_33b) (if_pos c46)))
                exact jn67 locs ls hB (lv_sub hl [0, 1, 2, 3, 4, 5] rfl) hF
              · replace hF := hF.trans (congrArg (dv_k f_X1_placesFor_15b) (congrArg (dv_k f_X1_placesFor_33b) (if_neg (Int.not_le.mpr c46))))
                refine lv_iload hx hb dX1_placesFor_49 (lv_at hl 5 rfl) ?_
                refine lv_aload_n hx hb dX1_placesFor_51 rfl (lv_at hl 1 rfl) ?_
                refine th_getO (j := 6) (r2 := 10) hC cf_X1 hB.1 h0 ro_3 rfl rfl kf_X1_30 dX1_placesFor_52 (fun b13 mb13 hb13 => ?_)
                have sb13 := (th_F_o hB.2.2 h0 ro_3 (j := 6) (by decide) (by decide)).symm.trans mb13
                refine lv_iload hx hb dX1_placesFor_55 (lv_at hl 6 rfl) ?_
                refine th_ialdF hC hB.1 hb13 ro_10 rfl (Eq.refl _) (by omega) (by omega) rfl dX1_placesFor_57 (fun x14 mx14 lx14 ux14 => ?_)
                replace hF := hF.trans (congrArg (dv_k f_X1_placesFor_15b) (congrArg (dv_k f_X1_placesFor_33b) (dv_bn (dv_aldI hB.1 hU hb13 ow_10 (z := j33_6.toInt) mx14 (by omega)))))
                refine lv_ior hx hb dX1_placesFor_58 ?_
                refine lv_topi (fun x15 ex15 => ?_)
                have lx15 := ti_lo x15; have ux15 := ti_hi x15
                replace hF := hF.trans (congrArg (dv_k f_X1_placesFor_15b) (congrArg (dv_k f_X1_placesFor_33b) (dv_bn (dv_or_e (Eq.refl _) (Eq.refl _) ex15))))
                refine lv_istore (lv' := [(5, .int x15), (2, .int x2), (0, .ref a0), (1, .int p1), (3, .int j15_3), (4, .int j15_4), (6, .int j33_6)]) hx hb dX1_placesFor_59 hl (by decide) rfl (fun ls hl => ?_)
                refine tr_iinc (fun x16 => [(6, .int x16), (5, .int x15), (2, .int x2), (0, .ref a0), (1, .int p1), (3, .int j15_3), (4, .int j15_4)]) hx hb dX1_placesFor_61 hl (k := 6) rfl (Eq.refl _) tk_1 (by omega) (by omega) (by decide) (fun _ => rfl) (fun x16 ls ex16 hl => ?_)
                replace hF := hF.trans (congrArg (dv_k f_X1_placesFor_15b) (congrArg (dv_k f_X1_placesFor_33b) (dv_bn (ex16.symm))))
                refine lv_goto (tgt := 33) hx hb dX1_placesFor_64 (by decide) ?_
                replace hF := hF.trans (congrArg (dv_k f_X1_placesFor_15b) (dv_kl))
                exact ih33 locs ls x15 x16 hB (lv_sub hl [2, 3, 4, 5, 6, 1, 0] rfl) hF (by omega) (by omega) (by omega)
        exact lp33 ((2147483648 : Int) - (j15_4.toInt)).toNat locs ls 0 j15_4 hB (lv_sub hl [2, 3, 4, 5, 6, 1, 0] rfl) (by rw [tk_0]; exact hF) (by omega) (by omega) (by have w0 := tk_0; omega)
  exact lp15 ((2147483648 : Int) - (0)).toNat locs ls 0 0 hB (lv_sub hl [2, 3, 4, 1, 0] rfl) (by rw [tk_0]; exact hF) (by decide) (by decide) (by have w0 := tk_0; omega)
