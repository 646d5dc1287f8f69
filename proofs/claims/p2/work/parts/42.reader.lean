set_option maxHeartbeats 4000000 in
set_option maxRecDepth 100000 in
theorem c_X5_is (l : Launch) (G : th_G) (Γ : th_Ga) (H0 : Heap) (hI : th_I G Γ H0) (hU : dv_U Γ) (a0 : Nat) (h0 : Γ a0 = (20, 0)) (p1 : Nat) (w1 : List Int32) (p2 : Int32) (f2 : 0 ≤ p2.toInt) (g2 : p2.toInt ≤ 400) (p3 : Int32) (f3 : 0 ≤ p3.toInt) (g3 : p3.toInt ≤ 400) (nn2 : ∃ b : Nat, th_sl H0 a0 (G.1.2 5 2) = .ref b ∧ Γ b = (37, 0)) : Met l yX5_is (.code yX5_is cX5_is 5 (some FieldType.boolean) :: th_tb) ({ frames := 4, cells := 0, slots := 0, locals := 85 } : Room) (th_PX [.ref a0, .ref p1, .int p2, .int p3] G H0 (fun U => th_Zc G U H0 ∧ th_Zq G p1 w1 U H0)) (th_Q (fun (v : Option Value) (H1 : Heap) => ∃ r : Int32, v = some (.int r) ∧ 0 ≤ r.toInt ∧ r.toInt ≤ 1 ∧ (f_X5_is w1 (dv G Γ H0) (a0 : Int) p2.toInt p3.toInt = (r.toInt, ())) ∧ H0 = H1) G) 0 0 (fun q => G.2.2 ≤ q) := by
  refine th_metX RX5 (by decide) rfl (Nat.le_of_ble_eq_true rfl) ?_
  intro p e s m below meth c hC hX hH hr hlocks hnm ls hl
  have hx := hC.1
  have hb := hC.2.1
  have hB : th_B G Γ Γ [] H0 H0 [] := ⟨hI, va_S.rf, th_F_rf⟩
  have hl : lv_has ls 5 [(0, .ref a0), (1, .ref p1), (2, .int p2), (3, .int p3)] := hl
  have lp2 := ti_lo p2; have up2 := ti_hi p2
  have lp3 := ti_lo p3; have up3 := ti_hi p3
  obtain ⟨bn2, mbn2, hbn2⟩ := nn2
  obtain ⟨F, hF0⟩ : ∃ F, F = f_X5_is w1 (dv G Γ H0) ((a0 : Int)) (p2.toInt) (p3.toInt) := ⟨_, rfl⟩
  have hF := hF0.trans (f_X5_is.eq_1 w1 (dv G Γ H0) ((a0 : Int)) (p2.toInt) (p3.toInt))
  refine lv_iload_n hx hb dX5_is_0 rfl (lv_at hl 3 rfl) ?_
  refine lv_iload_n hx hb dX5_is_1 rfl (lv_at hl 2 rfl) ?_
  refine tr_isub hx hb dX5_is_2 (Eq.refl _) (Eq.refl _) (by omega) (by omega) (fun x1 ex1 => ?_)
  replace hF := hF.trans (dv_bn (ex1.symm))
  refine lv_aload_n hx hb dX5_is_3 rfl (lv_at hl 1 rfl) ?_
  have n8 := hX.2.1
  refine th_call (th_runQ (As := []) (rest := [.int x1]) th_mvq hX hX.2 hC rfl mf_J0_length_8abf5 km_X5_151 im_J0_length_8abf5 se_J0_length_8abf5 (c_J0_length l G H0 p1 w1) rfl rfl ⟨Nat.le_of_ble_eq_true rfl, Nat.le_of_ble_eq_true rfl⟩ rfl hl.1 rfl (Nat.le_of_ble_eq_true rfl) dX5_is_4 ⟨Nat.le_refl _, Nat.le_refl _⟩) hB.2.1 (fun v4 H4 locs hp hz hS => ?_)
  obtain ⟨x2, rfl, ex2, rfl⟩ := hp
  have hB := th_B_s hB hS
  replace hF := hF.trans (dv_bn (ex2.symm))
  refine W.eq (g2 := F0 m 7 ls [.int x2, .int x1]) rfl ?_
  refine tr_icmp_eq (tgt := 12) hx hb dX5_is_7 (by decide) (Eq.refl _) (Eq.refl _) (fun c7 => ?_) (fun c7 => ?_)
  · replace hF := hF.trans (if_pos c7)
    refine lv_iload_n hx hb dX5_is_12 rfl (lv_at hl 2 rfl) ?_
    refine lv_istore (lv' := [(4, .int p2), (0, .ref a0), (1, .ref p1), (2, .int p2), (3, .int p3)]) hx hb dX5_is_13 hl (by decide) rfl (fun ls hl => ?_)
    have lp15 : ∀ (n15 : Nat) (locs : List Loc) (ls : Array Slot) (j15_4 : Int32), th_B G Γ Γ [] H0 H0 locs → lv_has ls 5 [(0, .ref a0), (1, .ref p1), (2, .int p2), (3, .int p3), (4, .int j15_4)] → F = dv_lp (f_X5_is_15b w1) (dv G Γ H0, (a0 : Int), p2.toInt, p3.toInt, j15_4.toInt) → 0 ≤ j15_4.toInt → j15_4.toInt ≤ 400 → p2.toInt ≤ j15_4.toInt → (2147483648 : Int) - j15_4.toInt ≤ (n15 : Int) → W p l e ({ frames := 4, cells := 0, slots := 0, locals := 85 } : Room) s m ([.ref a0, .ref p1, .int p2, .int p3] : List Value).toArray below meth c H0 locs 0 0 (MQ below (th_Q (fun (v : Option Value) (H1 : Heap) => ∃ r : Int32, v = some (.int r) ∧ 0 ≤ r.toInt ∧ r.toInt ≤ 1 ∧ (f_X5_is w1 (dv G Γ H0) (a0 : Int) p2.toInt p3.toInt = (r.toInt, ())) ∧ H0 = H1) G) ([.ref a0, .ref p1, .int p2, .int p3] : List Value).toArray s 0 0 (fun q => G.2.2 ≤ q)) (F0 m 15 ls []) := by
      intro n15
      induction n15 with
      | zero => intro locs ls j15_4 hB hl hF g15_0 g15_1 g15_2 hm15; exact absurd hm15 (by have := ti_hi j15_4; omega)
      | succ n15 ih15 =>
        intro locs ls j15_4 hB hl hF g15_0 g15_1 g15_2 hm15
        have lj15_4 := ti_lo j15_4; have uj15_4 := ti_hi j15_4
        have hm15 : (2147483648 : Int) - j15_4.toInt ≤ (n15 : Int) + 1 := by omega
        replace hF := hF.trans (dv_lp_eq)
        replace hF := hF.trans (congrArg (dv_k (f_X5_is_15b w1)) (f_X5_is_15c.eq_1 w1 (dv G Γ H0) ((a0 : Int)) (p2.toInt) (p3.toInt) (j15_4.toInt)))
        refine lv_iload hx hb dX5_is_15 (lv_at hl 4 rfl) ?_
        refine lv_iload_n hx hb dX5_is_17 rfl (lv_at hl 3 rfl) ?_
        refine tr_icmp_ge (tgt := 50) hx hb dX5_is_18 (by decide) (Eq.refl _) (Eq.refl _) (fun c18 => ?_) (fun c18 => ?_)
        · replace hF := hF.trans (congrArg (dv_k (f_X5_is_15b w1)) (if_pos c18))
          refine lv_iconst (v := 1) hx hb dX5_is_50 (by decide) ?_
          replace hF := hF.trans (dv_kr)
          exact th_iret hC hH hr hlocks narrow_b1 hB.2.1 ⟨_, rfl, by decide, by decide, (hF0.symm.trans (hF.trans (by rw [tk_1]))), rfl⟩ dX5_is_51
        · replace hF := hF.trans (congrArg (dv_k (f_X5_is_15b w1)) (if_neg (Int.not_le.mpr c18)))
          refine lv_aload_n hx hb dX5_is_21 rfl (lv_at hl 0 rfl) ?_
          refine th_getK hC cf_X5 hB.1 h0 ro_20 rfl (j := 2) (by decide) mbn2 kf_X5_18 dX5_is_22 ?_
          replace hF := hF.trans (congrArg (dv_k (f_X5_is_15b w1)) (dv_bn (dv_getR h0 ro_20 (j := 2) rfl mbn2 (by decide))))
          refine th_getO (j := 0) (r2 := 38) hC cf_X9 hB.1 hbn2 ro_37 rfl rfl kf_X5_66 dX5_is_25 (fun b3 mb3 hb3 => ?_)
          refine lv_iload hx hb dX5_is_28 (lv_at hl 4 rfl) ?_
          refine th_ialdF hC hB.1 hb3 ro_38 rfl (Eq.refl _) (by omega) (by omega) rfl dX5_is_30 (fun x4 mx4 lx4 ux4 => ?_)
          replace hF := hF.trans (congrArg (dv_k (f_X5_is_15b w1)) (dv_bn (dv_aldI hB.1 hU hb3 ow_38 (z := j15_4.toInt) mx4 (by omega))))
          refine lv_aload_n hx hb dX5_is_31 rfl (lv_at hl 1 rfl) ?_
          refine lv_iload hx hb dX5_is_32 (lv_at hl 4 rfl) ?_
          refine lv_iload_n hx hb dX5_is_34 rfl (lv_at hl 2 rfl) ?_
          refine tr_isub hx hb dX5_is_35 (Eq.refl _) (Eq.refl _) (by omega) (by omega) (fun x5 ex5 => ?_)
          replace hF := hF.trans (congrArg (dv_k (f_X5_is_15b w1)) (dv_bn (ex5.symm)))
          have n8 := hX.2.1
          refine th_call (th_runQ (As := [.int x5]) (rest := [.int x4]) th_mvq hX hX.2 hC rfl mf_J0_charAt_5068e km_X5_156 im_J0_charAt_5068e se_J0_charAt_5068e (c_J0_charAt l G H0 p1 w1 x5 (by omega) (by omega)) rfl rfl ⟨Nat.le_of_ble_eq_true rfl, Nat.le_of_ble_eq_true rfl⟩ rfl hl.1 rfl (Nat.le_of_ble_eq_true rfl) dX5_is_36 ⟨Nat.le_refl _, Nat.le_refl _⟩) hB.2.1 (fun v36 H36 locs hp hz hS => ?_)
          obtain ⟨⟨x6, rfl, ex6⟩, rfl⟩ := hp
          have lx6 := ti_lo x6; have ux6 := ti_hi x6
          have hB := th_B_s hB hS
          replace hF := hF.trans (congrArg (dv_k (f_X5_is_15b w1)) (dv_bn (ex6.symm)))
          refine W.eq (g2 := F0 m 39 ls [.int x6, .int x4]) rfl ?_
          refine tr_icmp_eq (tgt := 44) hx hb dX5_is_39 (by decide) (Eq.refl _) (Eq.refl _) (fun c39 => ?_) (fun c39 => ?_)
          · replace hF := hF.trans (congrArg (dv_k (f_X5_is_15b w1)) (if_pos c39))
            refine tr_iinc (fun x7 => [(4, .int x7), (0, .ref a0), (1, .ref p1), (2, .int p2), (3, .int p3)]) hx hb dX5_is_44 hl (k := 4) rfl (Eq.refl _) tk_1 (by omega) (by omega) (by decide) (fun _ => rfl) (fun x7 ls ex7 hl => ?_)
            replace hF := hF.trans (congrArg (dv_k (f_X5_is_15b w1)) (dv_bn (ex7.symm)))
            refine lv_goto (tgt := 15) hx hb dX5_is_47 (by decide) ?_
            replace hF := hF.trans (dv_kl)
            exact ih15 locs ls x7 hB (lv_sub hl [1, 2, 3, 4, 0] rfl) hF (by omega) (by omega) (by omega) (by omega)
          · replace hF := hF.trans (congrArg (dv_k (f_X5_is_15b w1)) (if_neg c39))
            refine lv_iconst (v := 0) hx hb dX5_is_42 (by decide) ?_
            replace hF := hF.trans (dv_kr)
            exact th_iret hC hH hr hlocks narrow_b0 hB.2.1 ⟨_, rfl, by decide, by decide, (hF0.symm.trans (hF.trans (by rw [tk_0]))), rfl⟩ dX5_is_43
    exact lp15 ((2147483648 : Int) - (p2.toInt)).toNat locs ls p2 hB (lv_sub hl [1, 2, 3, 4, 0] rfl) hF (by omega) (by omega) (by omega) (by omega)
  · replace hF := hF.trans (if_neg c7)
    refine lv_iconst (v := 0) hx hb dX5_is_10 (by decide) ?_
    exact th_iret hC hH hr hlocks narrow_b0 hB.2.1 ⟨_, rfl, by decide, by decide, (hF0.symm.trans (hF.trans (by rw [tk_0]))), rfl⟩ dX5_is_11

set_option maxHeartbeats 4000000 in
set_option maxRecDepth 100000 in
theorem c_X5_wordFrom (l : Launch) (G : th_G) (Γ : th_Ga) (H0 : Heap) (hI : th_I G Γ H0) (hU : dv_U Γ) (a0 : Nat) (h0 : Γ a0 = (20, 0)) (p1 : Int32) (f1 : 0 ≤ p1.toInt) (g1 : p1.toInt ≤ 400) (p2 : Int32) (f2 : 0 ≤ p2.toInt) (g2 : p2.toInt ≤ 400) (nn2 : ∃ b : Nat, th_sl H0 a0 (G.1.2 5 2) = .ref b ∧ Γ b = (37, 0)) : Met l yX5_wordFrom (.code yX5_wordFrom cX5_wordFrom 3 (some FieldType.int) :: th_tb) ({ frames := 5, cells := 0, slots := 0, locals := 109 } : Room) (th_PX [.ref a0, .int p1, .int p2] G H0 (fun U => th_Z G U H0)) (th_Q (fun (v : Option Value) (H1 : Heap) => ∃ r : Int32, v = some (.int r) ∧ 300 ≤ r.toInt ∧ r.toInt ≤ 327 ∧ (f_X5_wordFrom (dv G Γ H0) (a0 : Int) p1.toInt p2.toInt = (r.toInt, ())) ∧ H0 = H1) G) 0 0 (fun q => G.2.2 ≤ q) := by
  refine th_metX RX5 (by decide) rfl (Nat.le_of_ble_eq_true rfl) ?_
  intro p e s m below meth c hC hX hH hr hlocks hnm ls hl
  have hx := hC.1
  have hb := hC.2.1
  have hB : th_B G Γ Γ [] H0 H0 [] := ⟨hI, va_S.rf, th_F_rf⟩
  have hl : lv_has ls 3 [(0, .ref a0), (1, .int p1), (2, .int p2)] := hl
  have lp1 := ti_lo p1; have up1 := ti_hi p1
  have lp2 := ti_lo p2; have up2 := ti_hi p2
  obtain ⟨bn2, mbn2, hbn2⟩ := nn2
  obtain ⟨F, hF0⟩ : ∃ F, F = f_X5_wordFrom (dv G Γ H0) ((a0 : Int)) (p1.toInt) (p2.toInt) := ⟨_, rfl⟩
  have hF := hF0.trans (f_X5_wordFrom.eq_1 (dv G Γ H0) ((a0 : Int)) (p1.toInt) (p2.toInt))
  refine lv_aload_n hx hb dX5_wordFrom_0 rfl (lv_at hl 0 rfl) ?_
  obtain ⟨qs1, hq1, hr1⟩ := hX.2 (94, "costs", [99, 111, 115, 116, 115]) (List.mem_of_getElem? (i := 0) rfl)
  refine va_ldcS hx hb hC.2.2.2.1 hr1 dX5_wordFrom_1 ?_
  refine lv_iload_n hx hb dX5_wordFrom_3 rfl (lv_at hl 1 rfl) ?_
  refine lv_iload_n hx hb dX5_wordFrom_4 rfl (lv_at hl 2 rfl) ?_
  refine th_call (th_runVX (As := [.ref qs1, .int p1, .int p2]) (rest := []) th_mvq (show th_Zc G s H0 ∧ th_Zq G qs1 [99, 111, 115, 116, 115] s H0 from ⟨hX.1, hq1⟩) hC mf_X5_is km_X5_96 im_X5_is se_X5_is (c_X5_is l G Γ H0 hB.1 hU a0 h0 qs1 [99, 111, 115, 116, 115] p1 (by omega) (by omega) p2 (by omega) (by omega) ⟨_, mbn2, hbn2⟩) rfl rfl ⟨Nat.le_of_ble_eq_true rfl, Nat.le_of_ble_eq_true rfl⟩ hB.1 h0 ro_20 rfl rfl hl.1 rfl (Nat.le_of_ble_eq_true rfl) dX5_wordFrom_5 ⟨Nat.le_refl _, Nat.le_refl _⟩) hB.2.1 (fun v5 H5 locs hp hz hS => ?_)
  obtain ⟨x1, rfl, lx1, ux1, q5_0, rfl⟩ := hp
  have hB := th_B_s hB hS
  replace hF := hF.trans (dv_bn2 (q5_0))
  refine W.eq (g2 := F0 m 8 ls [.int x1]) rfl ?_
  refine tr_if_eq (tgt := 17) hx hb dX5_wordFrom_8 (by decide) (Eq.refl _) (fun c8 => ?_) (fun c8 => ?_)
  · replace hF := hF.trans (if_pos c8)
    refine lv_aload_n hx hb dX5_wordFrom_17 rfl (lv_at hl 0 rfl) ?_
    obtain ⟨qs18, hq18, hr18⟩ := hX.2 (100, "wears", [119, 101, 97, 114, 115]) (List.mem_of_getElem? (i := 1) rfl)
    refine va_ldcS hx hb hC.2.2.2.1 hr18 dX5_wordFrom_18 ?_
    refine lv_iload_n hx hb dX5_wordFrom_20 rfl (lv_at hl 1 rfl) ?_
    refine lv_iload_n hx hb dX5_wordFrom_21 rfl (lv_at hl 2 rfl) ?_
    refine th_call (th_runVX (As := [.ref qs18, .int p1, .int p2]) (rest := []) th_mvq (show th_Zc G s H0 ∧ th_Zq G qs18 [119, 101, 97, 114, 115] s H0 from ⟨hX.1, hq18⟩) hC mf_X5_is km_X5_96 im_X5_is se_X5_is (c_X5_is l G Γ H0 hB.1 hU a0 h0 qs18 [119, 101, 97, 114, 115] p1 (by omega) (by omega) p2 (by omega) (by omega) ⟨_, mbn2, hbn2⟩) rfl rfl ⟨Nat.le_of_ble_eq_true rfl, Nat.le_of_ble_eq_true rfl⟩ hB.1 h0 ro_20 rfl rfl hl.1 rfl (Nat.le_of_ble_eq_true rfl) dX5_wordFrom_22 ⟨Nat.le_refl _, Nat.le_refl _⟩) hB.2.1 (fun v22 H22 locs hp hz hS => ?_)
    obtain ⟨x2, rfl, lx2, ux2, q22_0, rfl⟩ := hp
    have hB := th_B_s hB hS
    replace hF := hF.trans (dv_bn2 (q22_0))
    refine W.eq (g2 := F0 m 25 ls [.int x2]) rfl ?_
    refine tr_if_eq (tgt := 34) hx hb dX5_wordFrom_25 (by decide) (Eq.refl _) (fun c25 => ?_) (fun c25 => ?_)
    · replace hF := hF.trans (if_pos c25)
      refine lv_aload_n hx hb dX5_wordFrom_34 rfl (lv_at hl 0 rfl) ?_
      obtain ⟨qs35, hq35, hr35⟩ := hX.2 (102, "bars", [98, 97, 114, 115]) (List.mem_of_getElem? (i := 2) rfl)
      refine va_ldcS hx hb hC.2.2.2.1 hr35 dX5_wordFrom_35 ?_
      refine lv_iload_n hx hb dX5_wordFrom_37 rfl (lv_at hl 1 rfl) ?_
      refine lv_iload_n hx hb dX5_wordFrom_38 rfl (lv_at hl 2 rfl) ?_
      refine th_call (th_runVX (As := [.ref qs35, .int p1, .int p2]) (rest := []) th_mvq (show th_Zc G s H0 ∧ th_Zq G qs35 [98, 97, 114, 115] s H0 from ⟨hX.1, hq35⟩) hC mf_X5_is km_X5_96 im_X5_is se_X5_is (c_X5_is l G Γ H0 hB.1 hU a0 h0 qs35 [98, 97, 114, 115] p1 (by omega) (by omega) p2 (by omega) (by omega) ⟨_, mbn2, hbn2⟩) rfl rfl ⟨Nat.le_of_ble_eq_true rfl, Nat.le_of_ble_eq_true rfl⟩ hB.1 h0 ro_20 rfl rfl hl.1 rfl (Nat.le_of_ble_eq_true rfl) dX5_wordFrom_39 ⟨Nat.le_refl _, Nat.le_refl _⟩) hB.2.1 (fun v39 H39 locs hp hz hS => ?_)
      obtain ⟨x3, rfl, lx3, ux3, q39_0, rfl⟩ := hp
      have hB := th_B_s hB hS
      replace hF := hF.trans (dv_bn2 (q39_0))
      refine W.eq (g2 := F0 m 42 ls [.int x3]) rfl ?_
      refine tr_if_eq (tgt := 51) hx hb dX5_wordFrom_42 (by decide) (Eq.refl _) (fun c42 => ?_) (fun c42 => ?_)
      · replace hF := hF.trans (if_pos c42)
        refine lv_aload_n hx hb dX5_wordFrom_51 rfl (lv_at hl 0 rfl) ?_
        obtain ⟨qs52, hq52, hr52⟩ := hX.2 (104, "lay", [108, 97, 121]) (List.mem_of_getElem? (i := 3) rfl)
        refine va_ldcS hx hb hC.2.2.2.1 hr52 dX5_wordFrom_52 ?_
        refine lv_iload_n hx hb dX5_wordFrom_54 rfl (lv_at hl 1 rfl) ?_
        refine lv_iload_n hx hb dX5_wordFrom_55 rfl (lv_at hl 2 rfl) ?_
        refine th_call (th_runVX (As := [.ref qs52, .int p1, .int p2]) (rest := []) th_mvq (show th_Zc G s H0 ∧ th_Zq G qs52 [108, 97, 121] s H0 from ⟨hX.1, hq52⟩) hC mf_X5_is km_X5_96 im_X5_is se_X5_is (c_X5_is l G Γ H0 hB.1 hU a0 h0 qs52 [108, 97, 121] p1 (by omega) (by omega) p2 (by omega) (by omega) ⟨_, mbn2, hbn2⟩) rfl rfl ⟨Nat.le_of_ble_eq_true rfl, Nat.le_of_ble_eq_true rfl⟩ hB.1 h0 ro_20 rfl rfl hl.1 rfl (Nat.le_of_ble_eq_true rfl) dX5_wordFrom_56 ⟨Nat.le_refl _, Nat.le_refl _⟩) hB.2.1 (fun v56 H56 locs hp hz hS => ?_)
        obtain ⟨x4, rfl, lx4, ux4, q56_0, rfl⟩ := hp
        have hB := th_B_s hB hS
        replace hF := hF.trans (dv_bn2 (q56_0))
        refine W.eq (g2 := F0 m 59 ls [.int x4]) rfl ?_
        refine tr_if_eq (tgt := 68) hx hb dX5_wordFrom_59 (by decide) (Eq.refl _) (fun c59 => ?_) (fun c59 => ?_)
        · replace hF := hF.trans (if_pos c59)
          refine lv_aload_n hx hb dX5_wordFrom_68 rfl (lv_at hl 0 rfl) ?_
          obtain ⟨qs69, hq69, hr69⟩ := hX.2 (106, "roll", [114, 111, 108, 108]) (List.mem_of_getElem? (i := 4) rfl)
          refine va_ldcS hx hb hC.2.2.2.1 hr69 dX5_wordFrom_69 ?_
          refine lv_iload_n hx hb dX5_wordFrom_71 rfl (lv_at hl 1 rfl) ?_
          refine lv_iload_n hx hb dX5_wordFrom_72 rfl (lv_at hl 2 rfl) ?_
          refine th_call (th_runVX (As := [.ref qs69, .int p1, .int p2]) (rest := []) th_mvq (show th_Zc G s H0 ∧ th_Zq G qs69 [114, 111, 108, 108] s H0 from ⟨hX.1, hq69⟩) hC mf_X5_is km_X5_96 im_X5_is se_X5_is (c_X5_is l G Γ H0 hB.1 hU a0 h0 qs69 [114, 111, 108, 108] p1 (by omega) (by omega) p2 (by omega) (by omega) ⟨_, mbn2, hbn2⟩) rfl rfl ⟨Nat.le_of_ble_eq_true rfl, Nat.le_of_ble_eq_true rfl⟩ hB.1 h0 ro_20 rfl rfl hl.1 rfl (Nat.le_of_ble_eq_true rfl) dX5_wordFrom_73 ⟨Nat.le_refl _, Nat.le_refl _⟩) hB.2.1 (fun v73 H73 locs hp hz hS => ?_)
          obtain ⟨x5, rfl, lx5, ux5, q73_0, rfl⟩ := hp
          have hB := th_B_s hB hS
          replace hF := hF.trans (dv_bn2 (q73_0))
          refine W.eq (g2 := F0 m 76 ls [.int x5]) rfl ?_
          refine tr_if_eq (tgt := 85) hx hb dX5_wordFrom_76 (by decide) (Eq.refl _) (fun c76 => ?_) (fun c76 => ?_)
          · replace hF := hF.trans (if_pos c76)
            refine lv_aload_n hx hb dX5_wordFrom_85 rfl (lv_at hl 0 rfl) ?_
            obtain ⟨qs86, hq86, hr86⟩ := hX.2 (108, "mirror", [109, 105, 114, 114, 111, 114]) (List.mem_of_getElem? (i := 5) rfl)
            refine va_ldcS hx hb hC.2.2.2.1 hr86 dX5_wordFrom_86 ?_
            refine lv_iload_n hx hb dX5_wordFrom_88 rfl (lv_at hl 1 rfl) ?_
            refine lv_iload_n hx hb dX5_wordFrom_89 rfl (lv_at hl 2 rfl) ?_
            refine th_call (th_runVX (As := [.ref qs86, .int p1, .int p2]) (rest := []) th_mvq (show th_Zc G s H0 ∧ th_Zq G qs86 [109, 105, 114, 114, 111, 114] s H0 from ⟨hX.1, hq86⟩) hC mf_X5_is km_X5_96 im_X5_is se_X5_is (c_X5_is l G Γ H0 hB.1 hU a0 h0 qs86 [109, 105, 114, 114, 111, 114] p1 (by omega) (by omega) p2 (by omega) (by omega) ⟨_, mbn2, hbn2⟩) rfl rfl ⟨Nat.le_of_ble_eq_true rfl, Nat.le_of_ble_eq_true rfl⟩ hB.1 h0 ro_20 rfl rfl hl.1 rfl (Nat.le_of_ble_eq_true rfl) dX5_wordFrom_90 ⟨Nat.le_refl _, Nat.le_refl _⟩) hB.2.1 (fun v90 H90 locs hp hz hS => ?_)
            obtain ⟨x6, rfl, lx6, ux6, q90_0, rfl⟩ := hp
            have hB := th_B_s hB hS
            replace hF := hF.trans (dv_bn2 (q90_0))
            refine W.eq (g2 := F0 m 93 ls [.int x6]) rfl ?_
            refine tr_if_eq (tgt := 102) hx hb dX5_wordFrom_93 (by decide) (Eq.refl _) (fun c93 => ?_) (fun c93 => ?_)
            · replace hF := hF.trans (if_pos c93)
              refine lv_aload_n hx hb dX5_wordFrom_102 rfl (lv_at hl 0 rfl) ?_
              obtain ⟨qs103, hq103, hr103⟩ := hX.2 (110, "pass", [112, 97, 115, 115]) (List.mem_of_getElem? (i := 6) rfl)
              refine va_ldcS hx hb hC.2.2.2.1 hr103 dX5_wordFrom_103 ?_
              refine lv_iload_n hx hb dX5_wordFrom_105 rfl (lv_at hl 1 rfl) ?_
              refine lv_iload_n hx hb dX5_wordFrom_106 rfl (lv_at hl 2 rfl) ?_
              refine th_call (th_runVX (As := [.ref qs103, .int p1, .int p2]) (rest := []) th_mvq (show th_Zc G s H0 ∧ th_Zq G qs103 [112, 97, 115, 115] s H0 from ⟨hX.1, hq103⟩) hC mf_X5_is km_X5_96 im_X5_is se_X5_is (c_X5_is l G Γ H0 hB.1 hU a0 h0 qs103 [112, 97, 115, 115] p1 (by omega) (by omega) p2 (by omega) (by omega) ⟨_, mbn2, hbn2⟩) rfl rfl ⟨Nat.le_of_ble_eq_true rfl, Nat.le_of_ble_eq_true rfl⟩ hB.1 h0 ro_20 rfl rfl hl.1 rfl (Nat.le_of_ble_eq_true rfl) dX5_wordFrom_107 ⟨Nat.le_refl _, Nat.le_refl _⟩) hB.2.1 (fun v107 H107 locs hp hz hS => ?_)
              obtain ⟨x7, rfl, lx7, ux7, q107_0, rfl⟩ := hp
              have hB := th_B_s hB hS
              replace hF := hF.trans (dv_bn2 (q107_0))
              refine W.eq (g2 := F0 m 110 ls [.int x7]) rfl ?_
              refine tr_if_eq (tgt := 119) hx hb dX5_wordFrom_110 (by decide) (Eq.refl _) (fun c110 => ?_) (fun c110 => ?_)
              · replace hF := hF.trans (if_pos c110)
                refine lv_aload_n hx hb dX5_wordFrom_119 rfl (lv_at hl 0 rfl) ?_
                obtain ⟨qs120, hq120, hr120⟩ := hX.2 (112, "if", [105, 102]) (List.mem_of_getElem? (i := 7) rfl)
                refine va_ldcS hx hb hC.2.2.2.1 hr120 dX5_wordFrom_120 ?_
                refine lv_iload_n hx hb dX5_wordFrom_122 rfl (lv_at hl 1 rfl) ?_
                refine lv_iload_n hx hb dX5_wordFrom_123 rfl (lv_at hl 2 rfl) ?_
                refine th_call (th_runVX (As := [.ref qs120, .int p1, .int p2]) (rest := []) th_mvq (show th_Zc G s H0 ∧ th_Zq G qs120 [105, 102] s H0 from ⟨hX.1, hq120⟩) hC mf_X5_is km_X5_96 im_X5_is se_X5_is (c_X5_is l G Γ H0 hB.1 hU a0 h0 qs120 [105, 102] p1 (by omega) (by omega) p2 (by omega) (by omega) ⟨_, mbn2, hbn2⟩) rfl rfl ⟨Nat.le_of_ble_eq_true rfl, Nat.le_of_ble_eq_true rfl⟩ hB.1 h0 ro_20 rfl rfl hl.1 rfl (Nat.le_of_ble_eq_true rfl) dX5_wordFrom_124 ⟨Nat.le_refl _, Nat.le_refl _⟩) hB.2.1 (fun v124 H124 locs hp hz hS => ?_)
                obtain ⟨x8, rfl, lx8, ux8, q124_0, rfl⟩ := hp
                have hB := th_B_s hB hS
                replace hF := hF.trans (dv_bn2 (q124_0))
                refine W.eq (g2 := F0 m 127 ls [.int x8]) rfl ?_
                refine tr_if_eq (tgt := 136) hx hb dX5_wordFrom_127 (by decide) (Eq.refl _) (fun c127 => ?_) (fun c127 => ?_)
                · replace hF := hF.trans (if_pos c127)
                  refine lv_aload_n hx hb dX5_wordFrom_136 rfl (lv_at hl 0 rfl) ?_
                  obtain ⟨qs137, hq137, hr137⟩ := hX.2 (114, "times", [116, 105, 109, 101, 115]) (List.mem_of_getElem? (i := 8) rfl)
                  refine va_ldcS hx hb hC.2.2.2.1 hr137 dX5_wordFrom_137 ?_
                  refine lv_iload_n hx hb dX5_wordFrom_139 rfl (lv_at hl 1 rfl) ?_
                  refine lv_iload_n hx hb dX5_wordFrom_140 rfl (lv_at hl 2 rfl) ?_
                  refine th_call (th_runVX (As := [.ref qs137, .int p1, .int p2]) (rest := []) th_mvq (show th_Zc G s H0 ∧ th_Zq G qs137 [116, 105, 109, 101, 115] s H0 from ⟨hX.1, hq137⟩) hC mf_X5_is km_X5_96 im_X5_is se_X5_is (c_X5_is l G Γ H0 hB.1 hU a0 h0 qs137 [116, 105, 109, 101, 115] p1 (by omega) (by omega) p2 (by omega) (by omega) ⟨_, mbn2, hbn2⟩) rfl rfl ⟨Nat.le_of_ble_eq_true rfl, Nat.le_of_ble_eq_true rfl⟩ hB.1 h0 ro_20 rfl rfl hl.1 rfl (Nat.le_of_ble_eq_true rfl) dX5_wordFrom_141 ⟨Nat.le_refl _, Nat.le_refl _⟩) hB.2.1 (fun v141 H141 locs hp hz hS => ?_)
                  obtain ⟨x9, rfl, lx9, ux9, q141_0, rfl⟩ := hp
                  have hB := th_B_s hB hS
                  replace hF := hF.trans (dv_bn2 (q141_0))
                  refine W.eq (g2 := F0 m 144 ls [.int x9]) rfl ?_
                  refine tr_if_eq (tgt := 153) hx hb dX5_wordFrom_144 (by decide) (Eq.refl _) (fun c144 => ?_) (fun c144 => ?_)
                  · replace hF := hF.trans (if_pos c144)
                    refine lv_aload_n hx hb dX5_wordFrom_153 rfl (lv_at hl 0 rfl) ?_
                    obtain ⟨qs154, hq154, hr154⟩ := hX.2 (116, "at", [97, 116]) (List.mem_of_getElem? (i := 9) rfl)
                    refine va_ldcS hx hb hC.2.2.2.1 hr154 dX5_wordFrom_154 ?_
                    refine lv_iload_n hx hb dX5_wordFrom_156 rfl (lv_at hl 1 rfl) ?_
                    refine lv_iload_n hx hb dX5_wordFrom_157 rfl (lv_at hl 2 rfl) ?_
                    refine th_call (th_runVX (As := [.ref qs154, .int p1, .int p2]) (rest := []) th_mvq (show th_Zc G s H0 ∧ th_Zq G qs154 [97, 116] s H0 from ⟨hX.1, hq154⟩) hC mf_X5_is km_X5_96 im_X5_is se_X5_is (c_X5_is l G Γ H0 hB.1 hU a0 h0 qs154 [97, 116] p1 (by omega) (by omega) p2 (by omega) (by omega) ⟨_, mbn2, hbn2⟩) rfl rfl ⟨Nat.le_of_ble_eq_true rfl, Nat.le_of_ble_eq_true rfl⟩ hB.1 h0 ro_20 rfl rfl hl.1 rfl (Nat.le_of_ble_eq_true rfl) dX5_wordFrom_158 ⟨Nat.le_refl _, Nat.le_refl _⟩) hB.2.1 (fun v158 H158 locs hp hz hS => ?_)
                    obtain ⟨x10, rfl, lx10, ux10, q158_0, rfl⟩ := hp
                    have hB := th_B_s hB hS
                    replace hF := hF.trans (dv_bn2 (q158_0))
                    refine W.eq (g2 := F0 m 161 ls [.int x10]) rfl ?_
                    refine tr_if_eq (tgt := 170) hx hb dX5_wordFrom_161 (by decide) (Eq.refl _) (fun c161 => ?_) (fun c161 => ?_)
                    · replace hF := hF.trans (if_pos c161)
                      refine lv_aload_n hx hb dX5_wordFrom_170 rfl (lv_at hl 0 rfl) ?_
                      obtain ⟨qs171, hq171, hr171⟩ := hX.2 (117, "by", [98, 121]) (List.mem_of_getElem? (i := 10) rfl)
                      refine va_ldcS hx hb hC.2.2.2.1 hr171 dX5_wordFrom_171 ?_
                      refine lv_iload_n hx hb dX5_wordFrom_173 rfl (lv_at hl 1 rfl) ?_
                      refine lv_iload_n hx hb dX5_wordFrom_174 rfl (lv_at hl 2 rfl) ?_
                      refine th_call (th_runVX (As := [.ref qs171, .int p1, .int p2]) (rest := []) th_mvq (show th_Zc G s H0 ∧ th_Zq G qs171 [98, 121] s H0 from ⟨hX.1, hq171⟩) hC mf_X5_is km_X5_96 im_X5_is se_X5_is (c_X5_is l G Γ H0 hB.1 hU a0 h0 qs171 [98, 121] p1 (by omega) (by omega) p2 (by omega) (by omega) ⟨_, mbn2, hbn2⟩) rfl rfl ⟨Nat.le_of_ble_eq_true rfl, Nat.le_of_ble_eq_true rfl⟩ hB.1 h0 ro_20 rfl rfl hl.1 rfl (Nat.le_of_ble_eq_true rfl) dX5_wordFrom_175 ⟨Nat.le_refl _, Nat.le_refl _⟩) hB.2.1 (fun v175 H175 locs hp hz hS => ?_)
                      obtain ⟨x11, rfl, lx11, ux11, q175_0, rfl⟩ := hp
                      have hB := th_B_s hB hS
                      replace hF := hF.trans (dv_bn2 (q175_0))
                      refine W.eq (g2 := F0 m 178 ls [.int x11]) rfl ?_
                      refine tr_if_eq (tgt := 187) hx hb dX5_wordFrom_178 (by decide) (Eq.refl _) (fun c178 => ?_) (fun c178 => ?_)
                      · replace hF := hF.trans (if_pos c178)
                        refine lv_aload_n hx hb dX5_wordFrom_187 rfl (lv_at hl 0 rfl) ?_
                        obtain ⟨qs188, hq188, hr188⟩ := hX.2 (119, "or", [111, 114]) (List.mem_of_getElem? (i := 11) rfl)
                        refine va_ldcS hx hb hC.2.2.2.1 hr188 dX5_wordFrom_188 ?_
                        refine lv_iload_n hx hb dX5_wordFrom_190 rfl (lv_at hl 1 rfl) ?_
                        refine lv_iload_n hx hb dX5_wordFrom_191 rfl (lv_at hl 2 rfl) ?_
                        refine th_call (th_runVX (As := [.ref qs188, .int p1, .int p2]) (rest := []) th_mvq (show th_Zc G s H0 ∧ th_Zq G qs188 [111, 114] s H0 from ⟨hX.1, hq188⟩) hC mf_X5_is km_X5_96 im_X5_is se_X5_is (c_X5_is l G Γ H0 hB.1 hU a0 h0 qs188 [111, 114] p1 (by omega) (by omega) p2 (by omega) (by omega) ⟨_, mbn2, hbn2⟩) rfl rfl ⟨Nat.le_of_ble_eq_true rfl, Nat.le_of_ble_eq_true rfl⟩ hB.1 h0 ro_20 rfl rfl hl.1 rfl (Nat.le_of_ble_eq_true rfl) dX5_wordFrom_192 ⟨Nat.le_refl _, Nat.le_refl _⟩) hB.2.1 (fun v192 H192 locs hp hz hS => ?_)
                        obtain ⟨x12, rfl, lx12, ux12, q192_0, rfl⟩ := hp
                        have hB := th_B_s hB hS
                        replace hF := hF.trans (dv_bn2 (q192_0))
                        refine W.eq (g2 := F0 m 195 ls [.int x12]) rfl ?_
                        refine tr_if_eq (tgt := 204) hx hb dX5_wordFrom_195 (by decide) (Eq.refl _) (fun c195 => ?_) (fun c195 => ?_)
                        · replace hF := hF.trans (if_pos c195)
                          refine lv_aload_n hx hb dX5_wordFrom_204 rfl (lv_at hl 0 rfl) ?_
                          obtain ⟨qs205, hq205, hr205⟩ := hX.2 (121, "and", [97, 110, 100]) (List.mem_of_getElem? (i := 12) rfl)
                          refine va_ldcS hx hb hC.2.2.2.1 hr205 dX5_wordFrom_205 ?_
                          refine lv_iload_n hx hb dX5_wordFrom_207 rfl (lv_at hl 1 rfl) ?_
                          refine lv_iload_n hx hb dX5_wordFrom_208 rfl (lv_at hl 2 rfl) ?_
                          refine th_call (th_runVX (As := [.ref qs205, .int p1, .int p2]) (rest := []) th_mvq (show th_Zc G s H0 ∧ th_Zq G qs205 [97, 110, 100] s H0 from ⟨hX.1, hq205⟩) hC mf_X5_is km_X5_96 im_X5_is se_X5_is (c_X5_is l G Γ H0 hB.1 hU a0 h0 qs205 [97, 110, 100] p1 (by omega) (by omega) p2 (by omega) (by omega) ⟨_, mbn2, hbn2⟩) rfl rfl ⟨Nat.le_of_ble_eq_true rfl, Nat.le_of_ble_eq_true rfl⟩ hB.1 h0 ro_20 rfl rfl hl.1 rfl (Nat.le_of_ble_eq_true rfl) dX5_wordFrom_209 ⟨Nat.le_refl _, Nat.le_refl _⟩) hB.2.1 (fun v209 H209 locs hp hz hS => ?_)
                          obtain ⟨x13, rfl, lx13, ux13, q209_0, rfl⟩ := hp
                          have hB := th_B_s hB hS
                          replace hF := hF.trans (dv_bn2 (q209_0))
                          refine W.eq (g2 := F0 m 212 ls [.int x13]) rfl ?_
                          refine tr_if_eq (tgt := 221) hx hb dX5_wordFrom_212 (by decide) (Eq.refl _) (fun c212 => ?_) (fun c212 => ?_)
                          · replace hF := hF.trans (if_pos c212)
                            refine lv_aload_n hx hb dX5_wordFrom_221 rfl (lv_at hl 0 rfl) ?_
                            obtain ⟨qs222, hq222, hr222⟩ := hX.2 (123, "not", [110, 111, 116]) (List.mem_of_getElem? (i := 13) rfl)
                            refine va_ldcS hx hb hC.2.2.2.1 hr222 dX5_wordFrom_222 ?_
                            refine lv_iload_n hx hb dX5_wordFrom_224 rfl (lv_at hl 1 rfl) ?_
                            refine lv_iload_n hx hb dX5_wordFrom_225 rfl (lv_at hl 2 rfl) ?_
                            refine th_call (th_runVX (As := [.ref qs222, .int p1, .int p2]) (rest := []) th_mvq (show th_Zc G s H0 ∧ th_Zq G qs222 [110, 111, 116] s H0 from ⟨hX.1, hq222⟩) hC mf_X5_is km_X5_96 im_X5_is se_X5_is (c_X5_is l G Γ H0 hB.1 hU a0 h0 qs222 [110, 111, 116] p1 (by omega) (by omega) p2 (by omega) (by omega) ⟨_, mbn2, hbn2⟩) rfl rfl ⟨Nat.le_of_ble_eq_true rfl, Nat.le_of_ble_eq_true rfl⟩ hB.1 h0 ro_20 rfl rfl hl.1 rfl (Nat.le_of_ble_eq_true rfl) dX5_wordFrom_226 ⟨Nat.le_refl _, Nat.le_refl _⟩) hB.2.1 (fun v226 H226 locs hp hz hS => ?_)
                            obtain ⟨x14, rfl, lx14, ux14, q226_0, rfl⟩ := hp
                            have hB := th_B_s hB hS
                            replace hF := hF.trans (dv_bn2 (q226_0))
                            refine W.eq (g2 := F0 m 229 ls [.int x14]) rfl ?_
                            refine tr_if_eq (tgt := 238) hx hb dX5_wordFrom_229 (by decide) (Eq.refl _) (fun c229 => ?_) (fun c229 => ?_)
                            · replace hF := hF.trans (if_pos c229)
                              refine lv_aload_n hx hb dX5_wordFrom_238 rfl (lv_at hl 0 rfl) ?_
                              obtain ⟨qs239, hq239, hr239⟩ := hX.2 (125, "carpet", [99, 97, 114, 112, 101, 116]) (List.mem_of_getElem? (i := 14) rfl)
                              refine va_ldcS hx hb hC.2.2.2.1 hr239 dX5_wordFrom_239 ?_
                              refine lv_iload_n hx hb dX5_wordFrom_241 rfl (lv_at hl 1 rfl) ?_
                              refine lv_iload_n hx hb dX5_wordFrom_242 rfl (lv_at hl 2 rfl) ?_
                              refine th_call (th_runVX (As := [.ref qs239, .int p1, .int p2]) (rest := []) th_mvq (show th_Zc G s H0 ∧ th_Zq G qs239 [99, 97, 114, 112, 101, 116] s H0 from ⟨hX.1, hq239⟩) hC mf_X5_is km_X5_96 im_X5_is se_X5_is (c_X5_is l G Γ H0 hB.1 hU a0 h0 qs239 [99, 97, 114, 112, 101, 116] p1 (by omega) (by omega) p2 (by omega) (by omega) ⟨_, mbn2, hbn2⟩) rfl rfl ⟨Nat.le_of_ble_eq_true rfl, Nat.le_of_ble_eq_true rfl⟩ hB.1 h0 ro_20 rfl rfl hl.1 rfl (Nat.le_of_ble_eq_true rfl) dX5_wordFrom_243 ⟨Nat.le_refl _, Nat.le_refl _⟩) hB.2.1 (fun v243 H243 locs hp hz hS => ?_)
                              obtain ⟨x15, rfl, lx15, ux15, q243_0, rfl⟩ := hp
                              have hB := th_B_s hB hS
                              replace hF := hF.trans (dv_bn2 (q243_0))
                              refine W.eq (g2 := F0 m 246 ls [.int x15]) rfl ?_
                              refine tr_if_eq (tgt := 255) hx hb dX5_wordFrom_246 (by decide) (Eq.refl _) (fun c246 => ?_) (fun c246 => ?_)
                              · replace hF := hF.trans (if_pos c246)
                                refine lv_aload_n hx hb dX5_wordFrom_255 rfl (lv_at hl 0 rfl) ?_
                                obtain ⟨qs256, hq256, hr256⟩ := hX.2 (127, "side", [115, 105, 100, 101]) (List.mem_of_getElem? (i := 15) rfl)
                                refine va_ldcS hx hb hC.2.2.2.1 hr256 dX5_wordFrom_256 ?_
                                refine lv_iload_n hx hb dX5_wordFrom_258 rfl (lv_at hl 1 rfl) ?_
                                refine lv_iload_n hx hb dX5_wordFrom_259 rfl (lv_at hl 2 rfl) ?_
                                refine th_call (th_runVX (As := [.ref qs256, .int p1, .int p2]) (rest := []) th_mvq (show th_Zc G s H0 ∧ th_Zq G qs256 [115, 105, 100, 101] s H0 from ⟨hX.1, hq256⟩) hC mf_X5_is km_X5_96 im_X5_is se_X5_is (c_X5_is l G Γ H0 hB.1 hU a0 h0 qs256 [115, 105, 100, 101] p1 (by omega) (by omega) p2 (by omega) (by omega) ⟨_, mbn2, hbn2⟩) rfl rfl ⟨Nat.le_of_ble_eq_true rfl, Nat.le_of_ble_eq_true rfl⟩ hB.1 h0 ro_20 rfl rfl hl.1 rfl (Nat.le_of_ble_eq_true rfl) dX5_wordFrom_260 ⟨Nat.le_refl _, Nat.le_refl _⟩) hB.2.1 (fun v260 H260 locs hp hz hS => ?_)
                                obtain ⟨x16, rfl, lx16, ux16, q260_0, rfl⟩ := hp
                                have hB := th_B_s hB hS
                                replace hF := hF.trans (dv_bn2 (q260_0))
                                refine W.eq (g2 := F0 m 263 ls [.int x16]) rfl ?_
                                refine tr_if_eq (tgt := 272) hx hb dX5_wordFrom_263 (by decide) (Eq.refl _) (fun c263 => ?_) (fun c263 => ?_)
                                · replace hF := hF.trans (if_pos c263)
                                  refine lv_aload_n hx hb dX5_wordFrom_272 rfl (lv_at hl 0 rfl) ?_
                                  obtain ⟨qs273, hq273, hr273⟩ := hX.2 (129, "kind", [107, 105, 110, 100]) (List.mem_of_getElem? (i := 16) rfl)
                                  refine va_ldcS hx hb hC.2.2.2.1 hr273 dX5_wordFrom_273 ?_
                                  refine lv_iload_n hx hb dX5_wordFrom_275 rfl (lv_at hl 1 rfl) ?_
                                  refine lv_iload_n hx hb dX5_wordFrom_276 rfl (lv_at hl 2 rfl) ?_
                                  refine th_call (th_runVX (As := [.ref qs273, .int p1, .int p2]) (rest := []) th_mvq (show th_Zc G s H0 ∧ th_Zq G qs273 [107, 105, 110, 100] s H0 from ⟨hX.1, hq273⟩) hC mf_X5_is km_X5_96 im_X5_is se_X5_is (c_X5_is l G Γ H0 hB.1 hU a0 h0 qs273 [107, 105, 110, 100] p1 (by omega) (by omega) p2 (by omega) (by omega) ⟨_, mbn2, hbn2⟩) rfl rfl ⟨Nat.le_of_ble_eq_true rfl, Nat.le_of_ble_eq_true rfl⟩ hB.1 h0 ro_20 rfl rfl hl.1 rfl (Nat.le_of_ble_eq_true rfl) dX5_wordFrom_277 ⟨Nat.le_refl _, Nat.le_refl _⟩) hB.2.1 (fun v277 H277 locs hp hz hS => ?_)
                                  obtain ⟨x17, rfl, lx17, ux17, q277_0, rfl⟩ := hp
                                  have hB := th_B_s hB hS
                                  replace hF := hF.trans (dv_bn2 (q277_0))
                                  refine W.eq (g2 := F0 m 280 ls [.int x17]) rfl ?_
                                  refine tr_if_eq (tgt := 289) hx hb dX5_wordFrom_280 (by decide) (Eq.refl _) (fun c280 => ?_) (fun c280 => ?_)
                                  · replace hF := hF.trans (if_pos c280)
                                    refine lv_aload_n hx hb dX5_wordFrom_289 rfl (lv_at hl 0 rfl) ?_
                                    obtain ⟨qs290, hq290, hr290⟩ := hX.2 (131, "pile", [112, 105, 108, 101]) (List.mem_of_getElem? (i := 17) rfl)
                                    refine va_ldcS hx hb hC.2.2.2.1 hr290 dX5_wordFrom_290 ?_
                                    refine lv_iload_n hx hb dX5_wordFrom_292 rfl (lv_at hl 1 rfl) ?_
                                    refine lv_iload_n hx hb dX5_wordFrom_293 rfl (lv_at hl 2 rfl) ?_
                                    refine th_call (th_runVX (As := [.ref qs290, .int p1, .int p2]) (rest := []) th_mvq (show th_Zc G s H0 ∧ th_Zq G qs290 [112, 105, 108, 101] s H0 from ⟨hX.1, hq290⟩) hC mf_X5_is km_X5_96 im_X5_is se_X5_is (c_X5_is l G Γ H0 hB.1 hU a0 h0 qs290 [112, 105, 108, 101] p1 (by omega) (by omega) p2 (by omega) (by omega) ⟨_, mbn2, hbn2⟩) rfl rfl ⟨Nat.le_of_ble_eq_true rfl, Nat.le_of_ble_eq_true rfl⟩ hB.1 h0 ro_20 rfl rfl hl.1 rfl (Nat.le_of_ble_eq_true rfl) dX5_wordFrom_294 ⟨Nat.le_refl _, Nat.le_refl _⟩) hB.2.1 (fun v294 H294 locs hp hz hS => ?_)
                                    obtain ⟨x18, rfl, lx18, ux18, q294_0, rfl⟩ := hp
                                    have hB := th_B_s hB hS
                                    replace hF := hF.trans (dv_bn2 (q294_0))
                                    refine W.eq (g2 := F0 m 297 ls [.int x18]) rfl ?_
                                    refine tr_if_eq (tgt := 306) hx hb dX5_wordFrom_297 (by decide) (Eq.refl _) (fun c297 => ?_) (fun c297 => ?_)
                                    · replace hF := hF.trans (if_pos c297)
                                      refine lv_aload_n hx hb dX5_wordFrom_306 rfl (lv_at hl 0 rfl) ?_
                                      obtain ⟨qs307, hq307, hr307⟩ := hX.2 (133, "x", [120]) (List.mem_of_getElem? (i := 18) rfl)
                                      refine va_ldcS hx hb hC.2.2.2.1 hr307 dX5_wordFrom_307 ?_
                                      refine lv_iload_n hx hb dX5_wordFrom_309 rfl (lv_at hl 1 rfl) ?_
                                      refine lv_iload_n hx hb dX5_wordFrom_310 rfl (lv_at hl 2 rfl) ?_
                                      refine th_call (th_runVX (As := [.ref qs307, .int p1, .int p2]) (rest := []) th_mvq (show th_Zc G s H0 ∧ th_Zq G qs307 [120] s H0 from ⟨hX.1, hq307⟩) hC mf_X5_is km_X5_96 im_X5_is se_X5_is (c_X5_is l G Γ H0 hB.1 hU a0 h0 qs307 [120] p1 (by omega) (by omega) p2 (by omega) (by omega) ⟨_, mbn2, hbn2⟩) rfl rfl ⟨Nat.le_of_ble_eq_true rfl, Nat.le_of_ble_eq_true rfl⟩ hB.1 h0 ro_20 rfl rfl hl.1 rfl (Nat.le_of_ble_eq_true rfl) dX5_wordFrom_311 ⟨Nat.le_refl _, Nat.le_refl _⟩) hB.2.1 (fun v311 H311 locs hp hz hS => ?_)
                                      obtain ⟨x19, rfl, lx19, ux19, q311_0, rfl⟩ := hp
                                      have hB := th_B_s hB hS
                                      replace hF := hF.trans (dv_bn2 (q311_0))
                                      refine W.eq (g2 := F0 m 314 ls [.int x19]) rfl ?_
                                      refine tr_if_eq (tgt := 323) hx hb dX5_wordFrom_314 (by decide) (Eq.refl _) (fun c314 => ?_) (fun c314 => ?_)
                                      · replace hF := hF.trans (if_pos c314)
                                        refine lv_aload_n hx hb dX5_wordFrom_323 rfl (lv_at hl 0 rfl) ?_
                                        obtain ⟨qs324, hq324, hr324⟩ := hX.2 (135, "y", [121]) (List.mem_of_getElem? (i := 19) rfl)
                                        refine va_ldcS hx hb hC.2.2.2.1 hr324 dX5_wordFrom_324 ?_
                                        refine lv_iload_n hx hb dX5_wordFrom_326 rfl (lv_at hl 1 rfl) ?_
                                        refine lv_iload_n hx hb dX5_wordFrom_327 rfl (lv_at hl 2 rfl) ?_
                                        refine th_call (th_runVX (As := [.ref qs324, .int p1, .int p2]) (rest := []) th_mvq (show th_Zc G s H0 ∧ th_Zq G qs324 [121] s H0 from ⟨hX.1, hq324⟩) hC mf_X5_is km_X5_96 im_X5_is se_X5_is (c_X5_is l G Γ H0 hB.1 hU a0 h0 qs324 [121] p1 (by omega) (by omega) p2 (by omega) (by omega) ⟨_, mbn2, hbn2⟩) rfl rfl ⟨Nat.le_of_ble_eq_true rfl, Nat.le_of_ble_eq_true rfl⟩ hB.1 h0 ro_20 rfl rfl hl.1 rfl (Nat.le_of_ble_eq_true rfl) dX5_wordFrom_328 ⟨Nat.le_refl _, Nat.le_refl _⟩) hB.2.1 (fun v328 H328 locs hp hz hS => ?_)
                                        obtain ⟨x20, rfl, lx20, ux20, q328_0, rfl⟩ := hp
                                        have hB := th_B_s hB hS
                                        replace hF := hF.trans (dv_bn2 (q328_0))
                                        refine W.eq (g2 := F0 m 331 ls [.int x20]) rfl ?_
                                        refine tr_if_eq (tgt := 340) hx hb dX5_wordFrom_331 (by decide) (Eq.refl _) (fun c331 => ?_) (fun c331 => ?_)
                                        · replace hF := hF.trans (if_pos c331)
                                          refine lv_aload_n hx hb dX5_wordFrom_340 rfl (lv_at hl 0 rfl) ?_
                                          obtain ⟨qs341, hq341, hr341⟩ := hX.2 (137, "year", [121, 101, 97, 114]) (List.mem_of_getElem? (i := 20) rfl)
                                          refine va_ldcS hx hb hC.2.2.2.1 hr341 dX5_wordFrom_341 ?_
                                          refine lv_iload_n hx hb dX5_wordFrom_343 rfl (lv_at hl 1 rfl) ?_
                                          refine lv_iload_n hx hb dX5_wordFrom_344 rfl (lv_at hl 2 rfl) ?_
                                          refine th_call (th_runVX (As := [.ref qs341, .int p1, .int p2]) (rest := []) th_mvq (show th_Zc G s H0 ∧ th_Zq G qs341 [121, 101, 97, 114] s H0 from ⟨hX.1, hq341⟩) hC mf_X5_is km_X5_96 im_X5_is se_X5_is (c_X5_is l G Γ H0 hB.1 hU a0 h0 qs341 [121, 101, 97, 114] p1 (by omega) (by omega) p2 (by omega) (by omega) ⟨_, mbn2, hbn2⟩) rfl rfl ⟨Nat.le_of_ble_eq_true rfl, Nat.le_of_ble_eq_true rfl⟩ hB.1 h0 ro_20 rfl rfl hl.1 rfl (Nat.le_of_ble_eq_true rfl) dX5_wordFrom_345 ⟨Nat.le_refl _, Nat.le_refl _⟩) hB.2.1 (fun v345 H345 locs hp hz hS => ?_)
                                          obtain ⟨x21, rfl, lx21, ux21, q345_0, rfl⟩ := hp
                                          have hB := th_B_s hB hS
                                          replace hF := hF.trans (dv_bn2 (q345_0))
                                          refine W.eq (g2 := F0 m 348 ls [.int x21]) rfl ?_
                                          refine tr_if_eq (tgt := 357) hx hb dX5_wordFrom_348 (by decide) (Eq.refl _) (fun c348 => ?_) (fun c348 => ?_)
                                          · replace hF := hF.trans (if_pos c348)
                                            refine lv_aload_n hx hb dX5_wordFrom_357 rfl (lv_at hl 0 rfl) ?_
                                            obtain ⟨qs358, hq358, hr358⟩ := hX.2 (139, "mood", [109, 111, 111, 100]) (List.mem_of_getElem? (i := 21) rfl)
                                            refine va_ldcS hx hb hC.2.2.2.1 hr358 dX5_wordFrom_358 ?_
                                            refine lv_iload_n hx hb dX5_wordFrom_360 rfl (lv_at hl 1 rfl) ?_
                                            refine lv_iload_n hx hb dX5_wordFrom_361 rfl (lv_at hl 2 rfl) ?_
                                            refine th_call (th_runVX (As := [.ref qs358, .int p1, .int p2]) (rest := []) th_mvq (show th_Zc G s H0 ∧ th_Zq G qs358 [109, 111, 111, 100] s H0 from ⟨hX.1, hq358⟩) hC mf_X5_is km_X5_96 im_X5_is se_X5_is (c_X5_is l G Γ H0 hB.1 hU a0 h0 qs358 [109, 111, 111, 100] p1 (by omega) (by omega) p2 (by omega) (by omega) ⟨_, mbn2, hbn2⟩) rfl rfl ⟨Nat.le_of_ble_eq_true rfl, Nat.le_of_ble_eq_true rfl⟩ hB.1 h0 ro_20 rfl rfl hl.1 rfl (Nat.le_of_ble_eq_true rfl) dX5_wordFrom_362 ⟨Nat.le_refl _, Nat.le_refl _⟩) hB.2.1 (fun v362 H362 locs hp hz hS => ?_)
                                            obtain ⟨x22, rfl, lx22, ux22, q362_0, rfl⟩ := hp
                                            have hB := th_B_s hB hS
                                            replace hF := hF.trans (dv_bn2 (q362_0))
                                            refine W.eq (g2 := F0 m 365 ls [.int x22]) rfl ?_
                                            refine tr_if_eq (tgt := 374) hx hb dX5_wordFrom_365 (by decide) (Eq.refl _) (fun c365 => ?_) (fun c365 => ?_)
                                            · replace hF := hF.trans (if_pos c365)
                                              refine lv_aload_n hx hb dX5_wordFrom_374 rfl (lv_at hl 0 rfl) ?_
                                              obtain ⟨qs375, hq375, hr375⟩ := hX.2 (141, "done", [100, 111, 110, 101]) (List.mem_of_getElem? (i := 22) rfl)
                                              refine va_ldcS hx hb hC.2.2.2.1 hr375 dX5_wordFrom_375 ?_
                                              refine lv_iload_n hx hb dX5_wordFrom_377 rfl (lv_at hl 1 rfl) ?_
                                              refine lv_iload_n hx hb dX5_wordFrom_378 rfl (lv_at hl 2 rfl) ?_
                                              refine th_call (th_runVX (As := [.ref qs375, .int p1, .int p2]) (rest := []) th_mvq (show th_Zc G s H0 ∧ th_Zq G qs375 [100, 111, 110, 101] s H0 from ⟨hX.1, hq375⟩) hC mf_X5_is km_X5_96 im_X5_is se_X5_is (c_X5_is l G Γ H0 hB.1 hU a0 h0 qs375 [100, 111, 110, 101] p1 (by omega) (by omega) p2 (by omega) (by omega) ⟨_, mbn2, hbn2⟩) rfl rfl ⟨Nat.le_of_ble_eq_true rfl, Nat.le_of_ble_eq_true rfl⟩ hB.1 h0 ro_20 rfl rfl hl.1 rfl (Nat.le_of_ble_eq_true rfl) dX5_wordFrom_379 ⟨Nat.le_refl _, Nat.le_refl _⟩) hB.2.1 (fun v379 H379 locs hp hz hS => ?_)
                                              obtain ⟨x23, rfl, lx23, ux23, q379_0, rfl⟩ := hp
                                              have hB := th_B_s hB hS
                                              replace hF := hF.trans (dv_bn2 (q379_0))
                                              refine W.eq (g2 := F0 m 382 ls [.int x23]) rfl ?_
                                              refine tr_if_eq (tgt := 391) hx hb dX5_wordFrom_382 (by decide) (Eq.refl _) (fun c382 => ?_) (fun c382 => ?_)
                                              · replace hF := hF.trans (if_pos c382)
                                                refine lv_aload_n hx hb dX5_wordFrom_391 rfl (lv_at hl 0 rfl) ?_
                                                obtain ⟨qs392, hq392, hr392⟩ := hX.2 (143, "latest", [108, 97, 116, 101, 115, 116]) (List.mem_of_getElem? (i := 23) rfl)
                                                refine va_ldcS hx hb hC.2.2.2.1 hr392 dX5_wordFrom_392 ?_
                                                refine lv_iload_n hx hb dX5_wordFrom_394 rfl (lv_at hl 1 rfl) ?_
                                                refine lv_iload_n hx hb dX5_wordFrom_395 rfl (lv_at hl 2 rfl) ?_
                                                refine th_call (th_runVX (As := [.ref qs392, .int p1, .int p2]) (rest := []) th_mvq (show th_Zc G s H0 ∧ th_Zq G qs392 [108, 97, 116, 101, 115, 116] s H0 from ⟨hX.1, hq392⟩) hC mf_X5_is km_X5_96 im_X5_is se_X5_is (c_X5_is l G Γ H0 hB.1 hU a0 h0 qs392 [108, 97, 116, 101, 115, 116] p1 (by omega) (by omega) p2 (by omega) (by omega) ⟨_, mbn2, hbn2⟩) rfl rfl ⟨Nat.le_of_ble_eq_true rfl, Nat.le_of_ble_eq_true rfl⟩ hB.1 h0 ro_20 rfl rfl hl.1 rfl (Nat.le_of_ble_eq_true rfl) dX5_wordFrom_396 ⟨Nat.le_refl _, Nat.le_refl _⟩) hB.2.1 (fun v396 H396 locs hp hz hS => ?_)
                                                obtain ⟨x24, rfl, lx24, ux24, q396_0, rfl⟩ := hp
                                                have hB := th_B_s hB hS
                                                replace hF := hF.trans (dv_bn2 (q396_0))
                                                refine W.eq (g2 := F0 m 399 ls [.int x24]) rfl ?_
                                                refine tr_if_eq (tgt := 408) hx hb dX5_wordFrom_399 (by decide) (Eq.refl _) (fun c399 => ?_) (fun c399 => ?_)
                                                · replace hF := hF.trans (if_pos c399)
                                                  refine lv_aload_n hx hb dX5_wordFrom_408 rfl (lv_at hl 0 rfl) ?_
                                                  obtain ⟨qs409, hq409, hr409⟩ := hX.2 (145, "bare", [98, 97, 114, 101]) (List.mem_of_getElem? (i := 24) rfl)
                                                  refine va_ldcS hx hb hC.2.2.2.1 hr409 dX5_wordFrom_409 ?_
                                                  refine lv_iload_n hx hb dX5_wordFrom_411 rfl (lv_at hl 1 rfl) ?_
                                                  refine lv_iload_n hx hb dX5_wordFrom_412 rfl (lv_at hl 2 rfl) ?_
                                                  refine th_call (th_runVX (As := [.ref qs409, .int p1, .int p2]) (rest := []) th_mvq (show th_Zc G s H0 ∧ th_Zq G qs409 [98, 97, 114, 101] s H0 from ⟨hX.1, hq409⟩) hC mf_X5_is km_X5_96 im_X5_is se_X5_is (c_X5_is l G Γ H0 hB.1 hU a0 h0 qs409 [98, 97, 114, 101] p1 (by omega) (by omega) p2 (by omega) (by omega) ⟨_, mbn2, hbn2⟩) rfl rfl ⟨Nat.le_of_ble_eq_true rfl, Nat.le_of_ble_eq_true rfl⟩ hB.1 h0 ro_20 rfl rfl hl.1 rfl (Nat.le_of_ble_eq_true rfl) dX5_wordFrom_413 ⟨Nat.le_refl _, Nat.le_refl _⟩) hB.2.1 (fun v413 H413 locs hp hz hS => ?_)
                                                  obtain ⟨x25, rfl, lx25, ux25, q413_0, rfl⟩ := hp
                                                  have hB := th_B_s hB hS
                                                  replace hF := hF.trans (dv_bn2 (q413_0))
                                                  refine W.eq (g2 := F0 m 416 ls [.int x25]) rfl ?_
                                                  refine tr_if_eq (tgt := 425) hx hb dX5_wordFrom_416 (by decide) (Eq.refl _) (fun c416 => ?_) (fun c416 => ?_)
                                                  · replace hF := hF.trans (if_pos c416)
                                                    refine lv_aload_n hx hb dX5_wordFrom_425 rfl (lv_at hl 0 rfl) ?_
                                                    obtain ⟨qs426, hq426, hr426⟩ := hX.2 (147, "paid", [112, 97, 105, 100]) (List.mem_of_getElem? (i := 25) rfl)
                                                    refine va_ldcS hx hb hC.2.2.2.1 hr426 dX5_wordFrom_426 ?_
                                                    refine lv_iload_n hx hb dX5_wordFrom_428 rfl (lv_at hl 1 rfl) ?_
                                                    refine lv_iload_n hx hb dX5_wordFrom_429 rfl (lv_at hl 2 rfl) ?_
                                                    refine th_call (th_runVX (As := [.ref qs426, .int p1, .int p2]) (rest := []) th_mvq (show th_Zc G s H0 ∧ th_Zq G qs426 [112, 97, 105, 100] s H0 from ⟨hX.1, hq426⟩) hC mf_X5_is km_X5_96 im_X5_is se_X5_is (c_X5_is l G Γ H0 hB.1 hU a0 h0 qs426 [112, 97, 105, 100] p1 (by omega) (by omega) p2 (by omega) (by omega) ⟨_, mbn2, hbn2⟩) rfl rfl ⟨Nat.le_of_ble_eq_true rfl, Nat.le_of_ble_eq_true rfl⟩ hB.1 h0 ro_20 rfl rfl hl.1 rfl (Nat.le_of_ble_eq_true rfl) dX5_wordFrom_430 ⟨Nat.le_refl _, Nat.le_refl _⟩) hB.2.1 (fun v430 H430 locs hp hz hS => ?_)
                                                    obtain ⟨x26, rfl, lx26, ux26, q430_0, rfl⟩ := hp
                                                    have hB := th_B_s hB hS
                                                    replace hF := hF.trans (dv_bn2 (q430_0))
                                                    refine W.eq (g2 := F0 m 433 ls [.int x26]) rfl ?_
                                                    refine tr_if_eq (tgt := 442) hx hb dX5_wordFrom_433 (by decide) (Eq.refl _) (fun c433 => ?_) (fun c433 => ?_)
                                                    · replace hF := hF.trans (if_pos c433)
                                                      refine lv_aload_n hx hb dX5_wordFrom_442 rfl (lv_at hl 0 rfl) ?_
                                                      obtain ⟨qs443, hq443, hr443⟩ := hX.2 (149, "laid", [108, 97, 105, 100]) (List.mem_of_getElem? (i := 26) rfl)
                                                      refine va_ldcS hx hb hC.2.2.2.1 hr443 dX5_wordFrom_443 ?_
                                                      refine lv_iload_n hx hb dX5_wordFrom_445 rfl (lv_at hl 1 rfl) ?_
                                                      refine lv_iload_n hx hb dX5_wordFrom_446 rfl (lv_at hl 2 rfl) ?_
                                                      refine th_call (th_runVX (As := [.ref qs443, .int p1, .int p2]) (rest := []) th_mvq (show th_Zc G s H0 ∧ th_Zq G qs443 [108, 97, 105, 100] s H0 from ⟨hX.1, hq443⟩) hC mf_X5_is km_X5_96 im_X5_is se_X5_is (c_X5_is l G Γ H0 hB.1 hU a0 h0 qs443 [108, 97, 105, 100] p1 (by omega) (by omega) p2 (by omega) (by omega) ⟨_, mbn2, hbn2⟩) rfl rfl ⟨Nat.le_of_ble_eq_true rfl, Nat.le_of_ble_eq_true rfl⟩ hB.1 h0 ro_20 rfl rfl hl.1 rfl (Nat.le_of_ble_eq_true rfl) dX5_wordFrom_447 ⟨Nat.le_refl _, Nat.le_refl _⟩) hB.2.1 (fun v447 H447 locs hp hz hS => ?_)
                                                      obtain ⟨x27, rfl, lx27, ux27, q447_0, rfl⟩ := hp
                                                      have hB := th_B_s hB hS
                                                      replace hF := hF.trans (dv_bn2 (q447_0))
                                                      refine W.eq (g2 := F0 m 450 ls [.int x27]) rfl ?_
                                                      refine tr_if_eq (tgt := 459) hx hb dX5_wordFrom_450 (by decide) (Eq.refl _) (fun c450 => ?_) (fun c450 => ?_)
                                                      · replace hF := hF.trans (if_pos c450)
                                                        refine lv_sipush (v := 300) hx hb dX5_wordFrom_459 (by decide) ?_
                                                        exact th_iret hC hH hr hlocks rfl hB.2.1 ⟨_, rfl, by decide, by decide, (hF0.symm.trans (hF.trans (by rw [tk_300]))), rfl⟩ dX5_wordFrom_462
                                                      · replace hF := hF.trans (if_neg c450)
                                                        refine lv_sipush (v := 327) hx hb dX5_wordFrom_453 (by decide) ?_
                                                        refine lv_goto (tgt := 462) hx hb dX5_wordFrom_456 (by decide) ?_
                                                        exact th_iret hC hH hr hlocks rfl hB.2.1 ⟨_, rfl, by decide, by decide, (hF0.symm.trans (hF.trans (by rw [tk_327]))), rfl⟩ dX5_wordFrom_462
                                                    · replace hF := hF.trans (if_neg c433)
                                                      refine lv_sipush (v := 326) hx hb dX5_wordFrom_436 (by decide) ?_
                                                      refine lv_goto (tgt := 462) hx hb dX5_wordFrom_439 (by decide) ?_
                                                      exact th_iret hC hH hr hlocks rfl hB.2.1 ⟨_, rfl, by decide, by decide, (hF0.symm.trans (hF.trans (by rw [tk_326]))), rfl⟩ dX5_wordFrom_462
                                                  · replace hF := hF.trans (if_neg c416)
                                                    refine lv_sipush (v := 325) hx hb dX5_wordFrom_419 (by decide) ?_
                                                    refine lv_goto (tgt := 462) hx hb dX5_wordFrom_422 (by decide) ?_
                                                    exact th_iret hC hH hr hlocks rfl hB.2.1 ⟨_, rfl, by decide, by decide, (hF0.symm.trans (hF.trans (by rw [tk_325]))), rfl⟩ dX5_wordFrom_462
                                                · replace hF := hF.trans (if_neg c399)
                                                  refine lv_sipush (v := 324) hx hb dX5_wordFrom_402 (by decide) ?_
                                                  refine lv_goto (tgt := 462) hx hb dX5_wordFrom_405 (by decide) ?_
                                                  exact th_iret hC hH hr hlocks rfl hB.2.1 ⟨_, rfl, by decide, by decide, (hF0.symm.trans (hF.trans (by rw [tk_324]))), rfl⟩ dX5_wordFrom_462
                                              · replace hF := hF.trans (if_neg c382)
                                                refine lv_sipush (v := 323) hx hb dX5_wordFrom_385 (by decide) ?_
                                                refine lv_goto (tgt := 462) hx hb dX5_wordFrom_388 (by decide) ?_
                                                exact th_iret hC hH hr hlocks rfl hB.2.1 ⟨_, rfl, by decide, by decide, (hF0.symm.trans (hF.trans (by rw [tk_323]))), rfl⟩ dX5_wordFrom_462
                                            · replace hF := hF.trans (if_neg c365)
                                              refine lv_sipush (v := 322) hx hb dX5_wordFrom_368 (by decide) ?_
                                              refine lv_goto (tgt := 462) hx hb dX5_wordFrom_371 (by decide) ?_
                                              exact th_iret hC hH hr hlocks rfl hB.2.1 ⟨_, rfl, by decide, by decide, (hF0.symm.trans (hF.trans (by rw [tk_322]))), rfl⟩ dX5_wordFrom_462
                                          · replace hF := hF.trans (if_neg c348)
                                            refine lv_sipush (v := 321) hx hb dX5_wordFrom_351 (by decide) ?_
                                            refine lv_goto (tgt := 462) hx hb dX5_wordFrom_354 (by decide) ?_
                                            exact th_iret hC hH hr hlocks rfl hB.2.1 ⟨_, rfl, by decide, by decide, (hF0.symm.trans (hF.trans (by rw [tk_321]))), rfl⟩ dX5_wordFrom_462
                                        · replace hF := hF.trans (if_neg c331)
                                          refine lv_sipush (v := 320) hx hb dX5_wordFrom_334 (by decide) ?_
                                          refine lv_goto (tgt := 462) hx hb dX5_wordFrom_337 (by decide) ?_
                                          exact th_iret hC hH hr hlocks rfl hB.2.1 ⟨_, rfl, by decide, by decide, (hF0.symm.trans (hF.trans (by rw [tk_320]))), rfl⟩ dX5_wordFrom_462
                                      · replace hF := hF.trans (if_neg c314)
                                        refine lv_sipush (v := 319) hx hb dX5_wordFrom_317 (by decide) ?_
                                        refine lv_goto (tgt := 462) hx hb dX5_wordFrom_320 (by decide) ?_
                                        exact th_iret hC hH hr hlocks rfl hB.2.1 ⟨_, rfl, by decide, by decide, (hF0.symm.trans (hF.trans (by rw [tk_319]))), rfl⟩ dX5_wordFrom_462
                                    · replace hF := hF.trans (if_neg c297)
                                      refine lv_sipush (v := 318) hx hb dX5_wordFrom_300 (by decide) ?_
                                      refine lv_goto (tgt := 462) hx hb dX5_wordFrom_303 (by decide) ?_
                                      exact th_iret hC hH hr hlocks rfl hB.2.1 ⟨_, rfl, by decide, by decide, (hF0.symm.trans (hF.trans (by rw [tk_318]))), rfl⟩ dX5_wordFrom_462
                                  · replace hF := hF.trans (if_neg c280)
                                    refine lv_sipush (v := 317) hx hb dX5_wordFrom_283 (by decide) ?_
                                    refine lv_goto (tgt := 462) hx hb dX5_wordFrom_286 (by decide) ?_
                                    exact th_iret hC hH hr hlocks rfl hB.2.1 ⟨_, rfl, by decide, by decide, (hF0.symm.trans (hF.trans (by rw [tk_317]))), rfl⟩ dX5_wordFrom_462
                                · replace hF := hF.trans (if_neg c263)
                                  refine lv_sipush (v := 316) hx hb dX5_wordFrom_266 (by decide) ?_
                                  refine lv_goto (tgt := 462) hx hb dX5_wordFrom_269 (by decide) ?_
                                  exact th_iret hC hH hr hlocks rfl hB.2.1 ⟨_, rfl, by decide, by decide, (hF0.symm.trans (hF.trans (by rw [tk_316]))), rfl⟩ dX5_wordFrom_462
                              · replace hF := hF.trans (if_neg c246)
                                refine lv_sipush (v := 315) hx hb dX5_wordFrom_249 (by decide) ?_
                                refine lv_goto (tgt := 462) hx hb dX5_wordFrom_252 (by decide) ?_
                                exact th_iret hC hH hr hlocks rfl hB.2.1 ⟨_, rfl, by decide, by decide, (hF0.symm.trans (hF.trans (by rw [tk_315]))), rfl⟩ dX5_wordFrom_462
                            · replace hF := hF.trans (if_neg c229)
                              refine lv_sipush (v := 314) hx hb dX5_wordFrom_232 (by decide) ?_
                              refine lv_goto (tgt := 462) hx hb dX5_wordFrom_235 (by decide) ?_
                              exact th_iret hC hH hr hlocks rfl hB.2.1 ⟨_, rfl, by decide, by decide, (hF0.symm.trans (hF.trans (by rw [tk_314]))), rfl⟩ dX5_wordFrom_462
                          · replace hF := hF.trans (if_neg c212)
                            refine lv_sipush (v := 313) hx hb dX5_wordFrom_215 (by decide) ?_
                            refine lv_goto (tgt := 462) hx hb dX5_wordFrom_218 (by decide) ?_
                            exact th_iret hC hH hr hlocks rfl hB.2.1 ⟨_, rfl, by decide, by decide, (hF0.symm.trans (hF.trans (by rw [tk_313]))), rfl⟩ dX5_wordFrom_462
                        · replace hF := hF.trans (if_neg c195)
                          refine lv_sipush (v := 312) hx hb dX5_wordFrom_198 (by decide) ?_
                          refine lv_goto (tgt := 462) hx hb dX5_wordFrom_201 (by decide) ?_
                          exact th_iret hC hH hr hlocks rfl hB.2.1 ⟨_, rfl, by decide, by decide, (hF0.symm.trans (hF.trans (by rw [tk_312]))), rfl⟩ dX5_wordFrom_462
                      · replace hF := hF.trans (if_neg c178)
                        refine lv_sipush (v := 311) hx hb dX5_wordFrom_181 (by decide) ?_
                        refine lv_goto (tgt := 462) hx hb dX5_wordFrom_184 (by decide) ?_
                        exact th_iret hC hH hr hlocks rfl hB.2.1 ⟨_, rfl, by decide, by decide, (hF0.symm.trans (hF.trans (by rw [tk_311]))), rfl⟩ dX5_wordFrom_462
                    · replace hF := hF.trans (if_neg c161)
                      refine lv_sipush (v := 310) hx hb dX5_wordFrom_164 (by decide) ?_
                      refine lv_goto (tgt := 462) hx hb dX5_wordFrom_167 (by decide) ?_
                      exact th_iret hC hH hr hlocks rfl hB.2.1 ⟨_, rfl, by decide, by decide, (hF0.symm.trans (hF.trans (by rw [tk_310]))), rfl⟩ dX5_wordFrom_462
                  · replace hF := hF.trans (if_neg c144)
                    refine lv_sipush (v := 309) hx hb dX5_wordFrom_147 (by decide) ?_
                    refine lv_goto (tgt := 462) hx hb dX5_wordFrom_150 (by decide) ?_
                    exact th_iret hC hH hr hlocks rfl hB.2.1 ⟨_, rfl, by decide, by decide, (hF0.symm.trans (hF.trans (by rw [tk_309]))), rfl⟩ dX5_wordFrom_462
                · replace hF := hF.trans (if_neg c127)
                  refine lv_sipush (v := 308) hx hb dX5_wordFrom_130 (by decide) ?_
                  refine lv_goto (tgt := 462) hx hb dX5_wordFrom_133 (by decide) ?_
                  exact th_iret hC hH hr hlocks rfl hB.2.1 ⟨_, rfl, by decide, by decide, (hF0.symm.trans (hF.trans (by rw [tk_308]))), rfl⟩ dX5_wordFrom_462
              · replace hF := hF.trans (if_neg c110)
                refine lv_sipush (v := 307) hx hb dX5_wordFrom_113 (by decide) ?_
                refine lv_goto (tgt := 462) hx hb dX5_wordFrom_116 (by decide) ?_
                exact th_iret hC hH hr hlocks rfl hB.2.1 ⟨_, rfl, by decide, by decide, (hF0.symm.trans (hF.trans (by rw [tk_307]))), rfl⟩ dX5_wordFrom_462
            · replace hF := hF.trans (if_neg c93)
              refine lv_sipush (v := 306) hx hb dX5_wordFrom_96 (by decide) ?_
              refine lv_goto (tgt := 462) hx hb dX5_wordFrom_99 (by decide) ?_
              exact th_iret hC hH hr hlocks rfl hB.2.1 ⟨_, rfl, by decide, by decide, (hF0.symm.trans (hF.trans (by rw [tk_306]))), rfl⟩ dX5_wordFrom_462
          · replace hF := hF.trans (if_neg c76)
            refine lv_sipush (v := 305) hx hb dX5_wordFrom_79 (by decide) ?_
            refine lv_goto (tgt := 462) hx hb dX5_wordFrom_82 (by decide) ?_
            exact th_iret hC hH hr hlocks rfl hB.2.1 ⟨_, rfl, by decide, by decide, (hF0.symm.trans (hF.trans (by rw [tk_305]))), rfl⟩ dX5_wordFrom_462
        · replace hF := hF.trans (if_neg c59)
          refine lv_sipush (v := 304) hx hb dX5_wordFrom_62 (by decide) ?_
          refine lv_goto (tgt := 462) hx hb dX5_wordFrom_65 (by decide) ?_
          exact th_iret hC hH hr hlocks rfl hB.2.1 ⟨_, rfl, by decide, by decide, (hF0.symm.trans (hF.trans (by rw [tk_304]))), rfl⟩ dX5_wordFrom_462
      · replace hF := hF.trans (if_neg c42)
        refine lv_sipush (v := 303) hx hb dX5_wordFrom_45 (by decide) ?_
        refine lv_goto (tgt := 462) hx hb dX5_wordFrom_48 (by decide) ?_
        exact th_iret hC hH hr hlocks rfl hB.2.1 ⟨_, rfl, by decide, by decide, (hF0.symm.trans (hF.trans (by rw [tk_303]))), rfl⟩ dX5_wordFrom_462
    · replace hF := hF.trans (if_neg c25)
      refine lv_sipush (v := 302) hx hb dX5_wordFrom_28 (by decide) ?_
      refine lv_goto (tgt := 462) hx hb dX5_wordFrom_31 (by decide) ?_
      exact th_iret hC hH hr hlocks rfl hB.2.1 ⟨_, rfl, by decide, by decide, (hF0.symm.trans (hF.trans (by rw [tk_302]))), rfl⟩ dX5_wordFrom_462
  · replace hF := hF.trans (if_neg c8)
    refine lv_sipush (v := 301) hx hb dX5_wordFrom_11 (by decide) ?_
    refine lv_goto (tgt := 462) hx hb dX5_wordFrom_14 (by decide) ?_
    exact th_iret hC hH hr hlocks rfl hB.2.1 ⟨_, rfl, by decide, by decide, (hF0.symm.trans (hF.trans (by rw [tk_301]))), rfl⟩ dX5_wordFrom_462

set_option maxHeartbeats 4000000 in
set_option maxRecDepth 100000 in
theorem c_X5_scan (l : Launch) (G : th_G) (Γ : th_Ga) (H0 : Heap) (hI : th_I G Γ H0) (hR : th_RC G Γ H0) (hU : dv_U Γ) (a0 : Nat) (h0 : Γ a0 = (20, 0)) (nn2 : ∃ b : Nat, th_sl H0 a0 (G.1.2 5 2) = .ref b ∧ Γ b = (37, 0)) : Met l yX5_scan (.code yX5_scan cX5_scan 6 (none) :: th_tb) ({ frames := 6, cells := 0, slots := 0, locals := 131 } : Room) (th_PX [.ref a0] G H0 (fun U => th_Z G U H0)) (th_Q (fun (v : Option Value) (H1 : Heap) => v = none ∧ th_I G Γ H1 ∧ th_F G Γ [(21, 0), (22, 0)] H0 H1 ∧ th_RC G Γ H1 ∧ (∃ tb o f : Nat, th_sl H1 a0 (G.1.2 5 0) = .ref tb ∧ Γ tb = (21, o) ∧ f ≤ 400 ∧ th_sl H1 tb f = .int (-1)) ∧ (f_X5_scan (dv G Γ H0) (a0 : Int) = (dv G Γ H1, 0))) G) 0 0 (fun q => G.2.2 ≤ q) := by
  refine th_metX RX5 (by decide) rfl (Nat.le_of_ble_eq_true rfl) ?_
  intro p e s m below meth c hC hX hH hr hlocks hnm ls hl
  have hx := hC.1
  have hb := hC.2.1
  have hB : th_B G Γ Γ [(21, 0), (22, 0)] H0 H0 [] := ⟨hI, va_S.rf, th_F_rf⟩
  have hl : lv_has ls 6 [(0, .ref a0)] := hl
  obtain ⟨bn2, mbn2, hbn2⟩ := nn2
  obtain ⟨F, hF0⟩ : ∃ F, F = f_X5_scan (dv G Γ H0) ((a0 : Int)) := ⟨_, rfl⟩
  have hF := hF0.trans (f_X5_scan.eq_1 (dv G Γ H0) ((a0 : Int)))
  refine lv_iconst (v := 0) hx hb dX5_scan_0 (by decide) ?_
  refine lv_istore_n (lv' := [(1, .int 0), (0, .ref a0)]) hx hb dX5_scan_1 rfl hl (by decide) rfl (fun ls hl => ?_)
  refine lv_iconst (v := 0) hx hb dX5_scan_2 (by decide) ?_
  refine lv_istore_n (lv' := [(2, .int 0), (1, .int 0), (0, .ref a0)]) hx hb dX5_scan_3 rfl hl (by decide) rfl (fun ls hl => ?_)
  refine lv_iconst (v := 0) hx hb dX5_scan_4 (by decide) ?_
  refine lv_istore_n (lv' := [(3, .int 0), (2, .int 0), (1, .int 0), (0, .ref a0)]) hx hb dX5_scan_5 rfl hl (by decide) rfl (fun ls hl => ?_)
  have lp6 : ∀ (n6 : Nat) (H6 : Heap) (locs : List Loc) (ls : Array Slot) (j6_1 : Int32) (j6_2 : Int32) (j6_3 : Int32), th_B G Γ Γ [(21, 0), (22, 0)] H0 H6 locs → th_RC G Γ H6 → lv_has ls 6 [(0, .ref a0), (1, .int j6_1), (2, .int j6_2), (3, .int j6_3)] → F = dv_lp f_X5_scan_6b (dv G Γ H6, (a0 : Int), j6_1.toInt, j6_2.toInt, j6_3.toInt) → 0 ≤ j6_1.toInt → j6_1.toInt ≤ 400 → 0 ≤ j6_2.toInt → j6_2.toInt ≤ 400 → 0 ≤ j6_3.toInt → j6_3.toInt ≤ 400 → j6_1.toInt ≤ j6_3.toInt → (2147483648 : Int) - j6_3.toInt ≤ (n6 : Int) → W p l e ({ frames := 6, cells := 0, slots := 0, locals := 131 } : Room) s m ([.ref a0] : List Value).toArray below meth c H6 locs 0 0 (MQ below (th_Q (fun (v : Option Value) (H1 : Heap) => v = none ∧ th_I G Γ H1 ∧ th_F G Γ [(21, 0), (22, 0)] H0 H1 ∧ th_RC G Γ H1 ∧ (∃ tb o f : Nat, th_sl H1 a0 (G.1.2 5 0) = .ref tb ∧ Γ tb = (21, o) ∧ f ≤ 400 ∧ th_sl H1 tb f = .int (-1)) ∧ (f_X5_scan (dv G Γ H0) (a0 : Int) = (dv G Γ H1, 0))) G) ([.ref a0] : List Value).toArray s 0 0 (fun q => G.2.2 ≤ q)) (F0 m 6 ls []) := by
    intro n6
    induction n6 with
    | zero => intro H6 locs ls j6_1 j6_2 j6_3 hB hR hl hF g6_0 g6_1 g6_2 g6_3 g6_4 g6_5 g6_6 hm6; exact absurd hm6 (by have := ti_hi j6_3; omega)
    | succ n6 ih6 =>
      intro H6 locs ls j6_1 j6_2 j6_3 hB hR hl hF g6_0 g6_1 g6_2 g6_3 g6_4 g6_5 g6_6 hm6
      have lj6_1 := ti_lo j6_1; have uj6_1 := ti_hi j6_1
      have lj6_2 := ti_lo j6_2; have uj6_2 := ti_hi j6_2
      have lj6_3 := ti_lo j6_3; have uj6_3 := ti_hi j6_3
      have mm1 := (th_F_o hB.2.2 h0 ro_20 (j := 2) (by decide) (by decide)).trans mbn2
      have hm6 : (2147483648 : Int) - j6_3.toInt ≤ (n6 : Int) + 1 := by omega
      replace hF := hF.trans (dv_lp_eq)
      replace hF := hF.trans (congrArg (dv_k f_X5_scan_6b) (f_X5_scan_6c.eq_1 (dv G Γ H6) ((a0 : Int)) (j6_1.toInt) (j6_2.toInt) (j6_3.toInt)))
      refine lv_iload_n hx hb dX5_scan_6 rfl (lv_at hl 3 rfl) ?_
      refine lv_sipush (v := 400) hx hb dX5_scan_7 (by decide) ?_
      have jn142 : ∀ (locs : List Loc) (ls : Array Slot) , th_B G Γ Γ [(21, 0), (22, 0)] H0 H6 locs → lv_has ls 6 [(0, .ref a0), (1, .int j6_1)] → F = dv_k f_X5_scan_6b (f_X5_scan_142 (dv G Γ H6) ((a0 : Int)) (j6_1.toInt)) → W p l e ({ frames := 6, cells := 0, slots := 0, locals := 131 } : Room) s m ([.ref a0] : List Value).toArray below meth c H6 locs 0 0 (MQ below (th_Q (fun (v : Option Value) (H1 : Heap) => v = none ∧ th_I G Γ H1 ∧ th_F G Γ [(21, 0), (22, 0)] H0 H1 ∧ th_RC G Γ H1 ∧ (∃ tb o f : Nat, th_sl H1 a0 (G.1.2 5 0) = .ref tb ∧ Γ tb = (21, o) ∧ f ≤ 400 ∧ th_sl H1 tb f = .int (-1)) ∧ (f_X5_scan (dv G Γ H0) (a0 : Int) = (dv G Γ H1, 0))) G) ([.ref a0] : List Value).toArray s 0 0 (fun q => G.2.2 ≤ q)) (F0 m 142 ls []) := by
        intro locs ls hB hl hF
        replace hF := hF.trans (congrArg (dv_k f_X5_scan_6b) (f_X5_scan_142.eq_1 (dv G Γ H6) ((a0 : Int)) (j6_1.toInt)))
        refine lv_aload_n hx hb dX5_scan_142 rfl (lv_at hl 0 rfl) ?_
        refine th_getO (j := 0) (r2 := 21) hC cf_X5 hB.1 h0 ro_20 rfl rfl kf_X5_11 dX5_scan_143 (fun b2 mb2 hb2 => ?_)
        refine lv_iload_n hx hb dX5_scan_146 rfl (lv_at hl 1 rfl) ?_
        refine lv_iconst (v := (-1)) hx hb dX5_scan_147 (by decide) ?_
        have hIo := hB.1
        refine th_iastF hC hB hb2 (Or.inl hb2) ro_21 rfl (by decide) (Eq.refl _) (by omega) (by omega) th_sIa dX5_scan_148 (fun H148 locs hB hf148 hst148 => ?_)
        have hf := hf148
        have mm3 := (th_F_o hf h0 ro_20 (j := 2) (by decide) (by decide)).trans mm1
        have hR := th_RC_F hB.1 hR hf (th_T_s hb2 ro_21 hst148) (by decide)
        replace hF := hF.trans (congrArg (dv_k f_X5_scan_6b) (dv_bn (dv_stoI hIo hB.1 hU hb2 ow_21 (i := j6_1.toInt) hst148 tk_m1 (by omega))))
        have tf0 := (th_F_o hf148 h0 ro_20 (j := 0) (by decide) (by decide)).trans mb2
        have tf1 := hst148.2.1
        refine lv_aload_n hx hb dX5_scan_149 rfl (lv_at hl 0 rfl) ?_
        refine th_getO (j := 1) (r2 := 22) hC cf_X5 hB.1 h0 ro_20 rfl rfl kf_X5_15 dX5_scan_150 (fun b4 mb4 hb4 => ?_)
        refine lv_iload_n hx hb dX5_scan_153 rfl (lv_at hl 1 rfl) ?_
        refine lv_aload_n hx hb dX5_scan_154 rfl (lv_at hl 0 rfl) ?_
        refine th_getK hC cf_X5 hB.1 h0 ro_20 rfl (j := 2) (by decide) mm3 kf_X5_18 dX5_scan_155 ?_
        replace hF := hF.trans (congrArg (dv_k f_X5_scan_6b) (dv_bn (dv_getR h0 ro_20 (j := 2) rfl mm3 (by decide))))
        refine th_getI (j := 1) hC cf_X9 hB.1 hbn2 ro_37 rfl rfl kf_X5_61 dX5_scan_158 (fun x5 mx5 lx5 ux5 => ?_)
        replace hF := hF.trans (congrArg (dv_k f_X5_scan_6b) (dv_bn (dv_getI hbn2 ro_37 (j := 1) rfl mx5 (by decide))))
        have hIo := hB.1
        refine th_iastF hC hB hb4 (Or.inl hb4) ro_22 rfl (by decide) (Eq.refl _) (by omega) (by omega) th_sIa dX5_scan_161 (fun H161 locs hB hf161 hst161 => ?_)
        have hf := hf161
        have mm6 := (th_F_o hf h0 ro_20 (j := 2) (by decide) (by decide)).trans mm3
        have hR := th_RC_F hB.1 hR hf (th_T_s hb4 ro_22 hst161) (by decide)
        replace hF := hF.trans (congrArg (dv_k f_X5_scan_6b) (dv_bn (dv_stoI hIo hB.1 hU hb4 ow_22 (i := j6_1.toInt) hst161 (Eq.refl _) (by omega))))
        have tf2 := (th_F_o hf161 h0 ro_20 (j := 0) (by decide) (by decide)).trans tf0
        have tf3 := (th_F_a hf161 hb2 ro_21 (by decide) _).trans tf1
        replace hF := hF.trans (dv_kr)
        exact th_vret hC hH hr hlocks hB.2.1 ⟨rfl, hB.1, hB.2.2, hR, ⟨_, _, _, tf2, hb2, by omega, tf3⟩, (hF0.symm.trans hF)⟩ dX5_scan_162
      refine tr_icmp_ge (tgt := 142) hx hb dX5_scan_10 (by decide) (Eq.refl _) tk_400 (fun c10 => ?_) (fun c10 => ?_)
      · replace hF := hF.trans (congrArg (dv_k f_X5_scan_6b) (if_pos c10))
        exact jn142 locs ls hB (lv_sub hl [0, 1] rfl) hF
      · replace hF := hF.trans (congrArg (dv_k f_X5_scan_6b) (if_neg (Int.not_le.mpr c10)))
        refine lv_iload_n hx hb dX5_scan_13 rfl (lv_at hl 2 rfl) ?_
        refine lv_aload_n hx hb dX5_scan_14 rfl (lv_at hl 0 rfl) ?_
        refine th_getK hC cf_X5 hB.1 h0 ro_20 rfl (j := 2) (by decide) mm1 kf_X5_18 dX5_scan_15 ?_
        replace hF := hF.trans (congrArg (dv_k f_X5_scan_6b) (dv_bn (dv_getR h0 ro_20 (j := 2) rfl mm1 (by decide))))
        refine th_getI (j := 1) hC cf_X9 hB.1 hbn2 ro_37 rfl rfl kf_X5_61 dX5_scan_18 (fun x7 mx7 lx7 ux7 => ?_)
        replace hF := hF.trans (congrArg (dv_k f_X5_scan_6b) (dv_bn (dv_getI hbn2 ro_37 (j := 1) rfl mx7 (by decide))))
        have sx7 := (th_F_o hB.2.2 hbn2 ro_37 (j := 1) (by decide) (by decide)).symm.trans mx7
        refine tr_icmp_ge (tgt := 142) hx hb dX5_scan_21 (by decide) (Eq.refl _) (Eq.refl _) (fun c21 => ?_) (fun c21 => ?_)
        · replace hF := hF.trans (congrArg (dv_k f_X5_scan_6b) (if_pos c21))
          exact jn142 locs ls hB (lv_sub hl [0, 1] rfl) hF
        · replace hF := hF.trans (congrArg (dv_k f_X5_scan_6b) (if_neg (Int.not_le.mpr c21)))
          refine lv_aload_n hx hb dX5_scan_24 rfl (lv_at hl 0 rfl) ?_
          refine th_getK hC cf_X5 hB.1 h0 ro_20 rfl (j := 2) (by decide) mm1 kf_X5_18 dX5_scan_25 ?_
          replace hF := hF.trans (congrArg (dv_k f_X5_scan_6b) (dv_bn (dv_getR h0 ro_20 (j := 2) rfl mm1 (by decide))))
          refine th_getO (j := 0) (r2 := 38) hC cf_X9 hB.1 hbn2 ro_37 rfl rfl kf_X5_66 dX5_scan_28 (fun b8 mb8 hb8 => ?_)
          have sb8 := (th_F_o hB.2.2 hbn2 ro_37 (j := 0) (by decide) (by decide)).symm.trans mb8
          refine lv_iload_n hx hb dX5_scan_31 rfl (lv_at hl 2 rfl) ?_
          refine th_ialdF hC hB.1 hb8 ro_38 rfl (Eq.refl _) (by omega) (by omega) rfl dX5_scan_32 (fun x9 mx9 lx9 ux9 => ?_)
          replace hF := hF.trans (congrArg (dv_k f_X5_scan_6b) (dv_bn (dv_aldI hB.1 hU hb8 ow_38 (z := j6_2.toInt) mx9 (by omega))))
          refine lv_istore (lv' := [(4, .int x9), (0, .ref a0), (1, .int j6_1), (2, .int j6_2), (3, .int j6_3)]) hx hb dX5_scan_33 hl (by decide) rfl (fun ls hl => ?_)
          refine lv_iload_n hx hb dX5_scan_35 rfl (lv_at hl 3 rfl) ?_
          refine lv_iconst (v := 1) hx hb dX5_scan_36 (by decide) ?_
          refine tr_iadd hx hb dX5_scan_37 (Eq.refl _) tk_1 (by omega) (by omega) (fun x10 ex10 => ?_)
          replace hF := hF.trans (congrArg (dv_k f_X5_scan_6b) (dv_bn (ex10.symm)))
          refine lv_istore (lv' := [(5, .int x10), (4, .int x9), (0, .ref a0), (1, .int j6_1), (2, .int j6_2), (3, .int j6_3)]) hx hb dX5_scan_38 hl (by decide) rfl (fun ls hl => ?_)
          refine lv_iload hx hb dX5_scan_40 (lv_at hl 1 rfl) ?_
          refine lv_bipush (v := 32) hx hb dX5_scan_42 (by decide) ?_
          have jn133 : ∀ (H133 : Heap) (locs : List Loc) (ls : Array Slot) (j133_1 : Int32) (j133_5 : Int32), th_B G Γ Γ [(21, 0), (22, 0)] H0 H133 locs → th_RC G Γ H133 → lv_has ls 6 [(0, .ref a0), (3, .int j6_3), (1, .int j133_1), (5, .int j133_5)] → F = dv_k f_X5_scan_6b (f_X5_scan_133 (dv G Γ H133) ((a0 : Int)) (j6_3.toInt) (j133_1.toInt) (j133_5.toInt)) → 0 ≤ j133_1.toInt → j133_1.toInt ≤ 401 → 0 ≤ j133_5.toInt → j133_5.toInt ≤ 400 → j133_1.toInt ≤ j6_3.toInt + 1 → W p l e ({ frames := 6, cells := 0, slots := 0, locals := 131 } : Room) s m ([.ref a0] : List Value).toArray below meth c H133 locs 0 0 (MQ below (th_Q (fun (v : Option Value) (H1 : Heap) => v = none ∧ th_I G Γ H1 ∧ th_F G Γ [(21, 0), (22, 0)] H0 H1 ∧ th_RC G Γ H1 ∧ (∃ tb o f : Nat, th_sl H1 a0 (G.1.2 5 0) = .ref tb ∧ Γ tb = (21, o) ∧ f ≤ 400 ∧ th_sl H1 tb f = .int (-1)) ∧ (f_X5_scan (dv G Γ H0) (a0 : Int) = (dv G Γ H1, 0))) G) ([.ref a0] : List Value).toArray s 0 0 (fun q => G.2.2 ≤ q)) (F0 m 133 ls []) := by
            intro H133 locs ls j133_1 j133_5 hB hR hl hF g133_0 g133_1 g133_2 g133_3 g133_4
            have lj133_1 := ti_lo j133_1; have uj133_1 := ti_hi j133_1
            have lj133_5 := ti_lo j133_5; have uj133_5 := ti_hi j133_5
            have mm11 := (th_F_o hB.2.2 h0 ro_20 (j := 2) (by decide) (by decide)).trans mbn2
            have mm12 := (th_F_o hB.2.2 hbn2 ro_37 (j := 1) (by decide) (by decide)).trans sx7
            have mm13 := (th_F_o hB.2.2 hbn2 ro_37 (j := 0) (by decide) (by decide)).trans sb8
            replace hF := hF.trans (congrArg (dv_k f_X5_scan_6b) (f_X5_scan_133.eq_1 (dv G Γ H133) ((a0 : Int)) (j6_3.toInt) (j133_1.toInt) (j133_5.toInt)))
            refine lv_iload hx hb dX5_scan_133 (lv_at hl 3 rfl) ?_
            refine lv_istore_n (lv' := [(2, .int j133_5), (0, .ref a0), (3, .int j6_3), (1, .int j133_1), (5, .int j133_5)]) hx hb dX5_scan_135 rfl hl (by decide) rfl (fun ls hl => ?_)
            refine tr_iinc (fun x14 => [(3, .int x14), (2, .int j133_5), (0, .ref a0), (1, .int j133_1), (5, .int j133_5)]) hx hb dX5_scan_136 hl (k := 2) rfl (Eq.refl _) tk_1 (by omega) (by omega) (by decide) (fun _ => rfl) (fun x14 ls ex14 hl => ?_)
            replace hF := hF.trans (congrArg (dv_k f_X5_scan_6b) (dv_bn (ex14.symm)))
            refine lv_goto (tgt := 6) hx hb dX5_scan_139 (by decide) ?_
            replace hF := hF.trans (dv_kl)
            exact ih6 H133 locs ls j133_1 j133_5 x14 hB hR (lv_sub hl [2, 3, 1, 0] rfl) hF (by omega) (by omega) (by omega) (by omega) (by omega) (by omega) (by omega) (by omega)
          refine tr_icmp_eq (tgt := 133) hx hb dX5_scan_44 (by decide) (Eq.refl _) tk_32 (fun c44 => ?_) (fun c44 => ?_)
          · replace hF := hF.trans (congrArg (dv_k f_X5_scan_6b) (if_pos c44))
            exact jn133 H6 locs ls j6_1 x10 hB hR (lv_sub hl [2, 5, 3, 0] rfl) hF (by omega) (by omega) (by omega) (by omega) (by omega)
          · replace hF := hF.trans (congrArg (dv_k f_X5_scan_6b) (if_neg c44))
            refine lv_aload_n hx hb dX5_scan_47 rfl (lv_at hl 2 rfl) ?_
            refine th_getO (j := 1) (r2 := 22) hC cf_X5 hB.1 h0 ro_20 rfl rfl kf_X5_15 dX5_scan_48 (fun b15 mb15 hb15 => ?_)
            have sb15 := (th_F_o hB.2.2 h0 ro_20 (j := 1) (by decide) (by decide)).symm.trans mb15
            refine lv_iload_n hx hb dX5_scan_51 rfl (lv_at hl 3 rfl) ?_
            refine lv_iload_n hx hb dX5_scan_52 rfl (lv_at hl 4 rfl) ?_
            have hIo := hB.1
            refine th_iastF hC hB hb15 (Or.inl hb15) ro_22 rfl (by decide) (Eq.refl _) (by omega) (by omega) th_sIa dX5_scan_53 (fun H53 locs hB hf53 hst53 => ?_)
            have hf := hf53
            have mm16 := (th_F_o hf h0 ro_20 (j := 2) (by decide) (by decide)).trans mm1
            have mm17 := (th_F_o hf hbn2 ro_37 (j := 1) (by decide) (by decide)).trans mx7
            have mm18 := (th_F_o hf hbn2 ro_37 (j := 0) (by decide) (by decide)).trans mb8
            have mm19 := (th_F_o hf h0 ro_20 (j := 1) (by decide) (by decide)).trans mb15
            have hR := th_RC_F hB.1 hR hf (th_T_s hb15 ro_22 hst53) (by decide)
            replace hF := hF.trans (congrArg (dv_k f_X5_scan_6b) (dv_bn (dv_stoI hIo hB.1 hU hb15 ow_22 (i := j6_1.toInt) hst53 (Eq.refl _) (by omega))))
            refine lv_iload hx hb dX5_scan_54 (lv_at hl 1 rfl) ?_
            refine th_call (th_runS (As := [.int x9]) (rest := []) hC mf_X5_isLetter km_X5_69 st_X5_isLetter (c_X5_isLetter l G Γ H53 hB.1 hU x9) rfl rfl ⟨Nat.le_of_ble_eq_true rfl, Nat.le_of_ble_eq_true rfl⟩ rfl hl.1 rfl (Nat.le_of_ble_eq_true rfl) dX5_scan_56 ⟨Nat.le_refl _, Nat.le_refl _⟩) hB.2.1 (fun v56 H56 locs hp hz hS => ?_)
            obtain ⟨x20, rfl, lx20, ux20, q56_0, rfl⟩ := hp
            have hB := th_B_s hB hS
            replace hF := hF.trans (congrArg (dv_k f_X5_scan_6b) (dv_bn2 (q56_0)))
            refine W.eq (g2 := F0 m 59 ls [.int x20]) rfl ?_
            have jn130 : ∀ (H130 : Heap) (locs : List Loc) (ls : Array Slot) (j130_5 : Int32), th_B G Γ Γ [(21, 0), (22, 0)] H0 H130 locs → th_RC G Γ H130 → lv_has ls 6 [(0, .ref a0), (1, .int j6_1), (3, .int j6_3), (5, .int j130_5)] → F = dv_k f_X5_scan_6b (f_X5_scan_130 (dv G Γ H130) ((a0 : Int)) (j6_1.toInt) (j6_3.toInt) (j130_5.toInt)) → 0 ≤ j130_5.toInt → j130_5.toInt ≤ 400 → j6_1.toInt ≤ j6_3.toInt → W p l e ({ frames := 6, cells := 0, slots := 0, locals := 131 } : Room) s m ([.ref a0] : List Value).toArray below meth c H130 locs 0 0 (MQ below (th_Q (fun (v : Option Value) (H1 : Heap) => v = none ∧ th_I G Γ H1 ∧ th_F G Γ [(21, 0), (22, 0)] H0 H1 ∧ th_RC G Γ H1 ∧ (∃ tb o f : Nat, th_sl H1 a0 (G.1.2 5 0) = .ref tb ∧ Γ tb = (21, o) ∧ f ≤ 400 ∧ th_sl H1 tb f = .int (-1)) ∧ (f_X5_scan (dv G Γ H0) (a0 : Int) = (dv G Γ H1, 0))) G) ([.ref a0] : List Value).toArray s 0 0 (fun q => G.2.2 ≤ q)) (F0 m 130 ls []) := by
              intro H130 locs ls j130_5 hB hR hl hF g130_0 g130_1 g130_2
              have lj130_5 := ti_lo j130_5; have uj130_5 := ti_hi j130_5
              have mm21 := (th_F_o hB.2.2 h0 ro_20 (j := 2) (by decide) (by decide)).trans mbn2
              have mm22 := (th_F_o hB.2.2 hbn2 ro_37 (j := 1) (by decide) (by decide)).trans sx7
              have mm23 := (th_F_o hB.2.2 hbn2 ro_37 (j := 0) (by decide) (by decide)).trans sb8
              have mm24 := (th_F_o hB.2.2 h0 ro_20 (j := 1) (by decide) (by decide)).trans sb15
              replace hF := hF.trans (congrArg (dv_k f_X5_scan_6b) (f_X5_scan_130.eq_1 (dv G Γ H130) ((a0 : Int)) (j6_1.toInt) (j6_3.toInt) (j130_5.toInt)))
              refine tr_iinc (fun x25 => [(1, .int x25), (0, .ref a0), (3, .int j6_3), (5, .int j130_5)]) hx hb dX5_scan_130 hl (k := 1) rfl (Eq.refl _) tk_1 (by omega) (by omega) (by decide) (fun _ => rfl) (fun x25 ls ex25 hl => ?_)
              replace hF := hF.trans (congrArg (dv_k f_X5_scan_6b) (dv_bn (ex25.symm)))
              exact jn133 H130 locs ls x25 j130_5 hB hR (lv_sub hl [1, 2, 0, 3] rfl) hF (by omega) (by omega) (by omega) (by omega) (by omega)
            refine tr_if_eq (tgt := 86) hx hb dX5_scan_59 (by decide) (Eq.refl _) (fun c59 => ?_) (fun c59 => ?_)
            · replace hF := hF.trans (congrArg (dv_k f_X5_scan_6b) (if_pos c59))
              refine lv_iload hx hb dX5_scan_86 (lv_at hl 1 rfl) ?_
              refine th_call (th_runS (As := [.int x9]) (rest := []) hC mf_X5_isDigit km_X5_80 st_X5_isDigit (c_X5_isDigit l G Γ H53 hB.1 hU x9) rfl rfl ⟨Nat.le_of_ble_eq_true rfl, Nat.le_of_ble_eq_true rfl⟩ rfl hl.1 rfl (Nat.le_of_ble_eq_true rfl) dX5_scan_88 ⟨Nat.le_refl _, Nat.le_refl _⟩) hB.2.1 (fun v88 H88 locs hp hz hS => ?_)
              obtain ⟨x26, rfl, lx26, ux26, q88_0, q88_1, rfl⟩ := hp
              have hB := th_B_s hB hS
              replace hF := hF.trans (congrArg (dv_k f_X5_scan_6b) (dv_bn2 (q88_1)))
              refine W.eq (g2 := F0 m 91 ls [.int x26]) rfl ?_
              refine tr_if_eq (tgt := 122) hx hb dX5_scan_91 (by decide) (Eq.refl _) (fun c91 => ?_) (fun c91 => ?_)
              · replace hF := hF.trans (congrArg (dv_k f_X5_scan_6b) (if_pos c91))
                refine lv_aload_n hx hb dX5_scan_122 rfl (lv_at hl 2 rfl) ?_
                refine th_getO (j := 0) (r2 := 21) hC cf_X5 hB.1 h0 ro_20 rfl rfl kf_X5_11 dX5_scan_123 (fun b27 mb27 hb27 => ?_)
                have sb27 := (th_F_o hB.2.2 h0 ro_20 (j := 0) (by decide) (by decide)).symm.trans mb27
                refine lv_iload_n hx hb dX5_scan_126 rfl (lv_at hl 3 rfl) ?_
                refine lv_iload hx hb dX5_scan_127 (lv_at hl 1 rfl) ?_
                have hIo := hB.1
                refine th_iastF hC hB hb27 (Or.inl hb27) ro_21 rfl (by decide) (Eq.refl _) (by omega) (by omega) th_sIa dX5_scan_129 (fun H129 locs hB hf129 hst129 => ?_)
                have hf := hf129
                have mm28 := (th_F_o hf h0 ro_20 (j := 2) (by decide) (by decide)).trans mm16
                have mm29 := (th_F_o hf hbn2 ro_37 (j := 1) (by decide) (by decide)).trans mm17
                have mm30 := (th_F_o hf hbn2 ro_37 (j := 0) (by decide) (by decide)).trans mm18
                have mm31 := (th_F_o hf h0 ro_20 (j := 1) (by decide) (by decide)).trans mm19
                have mm32 := (th_F_o hf h0 ro_20 (j := 0) (by decide) (by decide)).trans mb27
                have hR := th_RC_F hB.1 hR hf (th_T_s hb27 ro_21 hst129) (by decide)
                replace hF := hF.trans (congrArg (dv_k f_X5_scan_6b) (dv_bn (dv_stoI hIo hB.1 hU hb27 ow_21 (i := j6_1.toInt) hst129 (Eq.refl _) (by omega))))
                exact jn130 H129 locs ls x10 hB hR (lv_sub hl [2, 3, 5, 0] rfl) hF (by omega) (by omega) (by omega)
              · replace hF := hF.trans (congrArg (dv_k f_X5_scan_6b) (if_neg c91))
                refine lv_aload_n hx hb dX5_scan_94 rfl (lv_at hl 2 rfl) ?_
                refine lv_iload hx hb dX5_scan_95 (lv_at hl 0 rfl) ?_
                refine th_call (th_runV (As := [.int x10]) (rest := []) hC mf_X5_endOfDigits km_X5_83 im_X5_endOfDigits se_X5_endOfDigits (c_X5_endOfDigits l G Γ H53 hB.1 hU a0 h0 x10 (by omega) (by omega) ⟨_, mm16, hbn2⟩) rfl rfl ⟨Nat.le_of_ble_eq_true rfl, Nat.le_of_ble_eq_true rfl⟩ hB.1 h0 ro_20 rfl rfl hl.1 rfl (Nat.le_of_ble_eq_true rfl) dX5_scan_97 ⟨Nat.le_refl _, Nat.le_refl _⟩) hB.2.1 (fun v97 H97 locs hp hz hS => ?_)
                obtain ⟨x33, rfl, lx33, ux33, q97_0, q97_1, rfl⟩ := hp
                have hB := th_B_s hB hS
                replace hF := hF.trans (congrArg (dv_k f_X5_scan_6b) (dv_bn2 (q97_1)))
                refine W.eq (g2 := F0 m 100 ls [.int x33]) rfl ?_
                refine lv_istore (lv' := [(5, .int x33), (4, .int x9), (0, .ref a0), (1, .int j6_1), (2, .int j6_2), (3, .int j6_3)]) hx hb dX5_scan_100 hl (by decide) rfl (fun ls hl => ?_)
                refine lv_aload_n hx hb dX5_scan_102 rfl (lv_at hl 2 rfl) ?_
                refine th_getO (j := 0) (r2 := 21) hC cf_X5 hB.1 h0 ro_20 rfl rfl kf_X5_11 dX5_scan_103 (fun b34 mb34 hb34 => ?_)
                have sb34 := (th_F_o hB.2.2 h0 ro_20 (j := 0) (by decide) (by decide)).symm.trans mb34
                refine lv_iload_n hx hb dX5_scan_106 rfl (lv_at hl 3 rfl) ?_
                refine lv_sipush (v := 400) hx hb dX5_scan_107 (by decide) ?_
                refine lv_aload_n hx hb dX5_scan_110 rfl (lv_at hl 2 rfl) ?_
                refine lv_iload_n hx hb dX5_scan_111 rfl (lv_at hl 4 rfl) ?_
                refine lv_iload hx hb dX5_scan_112 (lv_at hl 0 rfl) ?_
                refine th_call (th_runV (As := [.int j6_2, .int x33]) (rest := [.int 400, .int j6_1, .ref b34]) hC mf_X5_valueFrom km_X5_86 im_X5_valueFrom se_X5_valueFrom (c_X5_valueFrom l G Γ H53 hB.1 hU a0 h0 j6_2 (by omega) (by omega) x33 (by omega) (by omega) ⟨_, mm16, hbn2⟩) rfl rfl ⟨Nat.le_of_ble_eq_true rfl, Nat.le_of_ble_eq_true rfl⟩ hB.1 h0 ro_20 rfl rfl hl.1 rfl (Nat.le_of_ble_eq_true rfl) dX5_scan_114 ⟨Nat.le_refl _, Nat.le_refl _⟩) hB.2.1 (fun v114 H114 locs hp hz hS => ?_)
                obtain ⟨x35, rfl, q114_0, rfl⟩ := hp
                have hB := th_B_s hB hS
                replace hF := hF.trans (congrArg (dv_k f_X5_scan_6b) (dv_bn2 (q114_0)))
                refine W.eq (g2 := F0 m 117 ls [.int x35, .int 400, .int j6_1, .ref b34]) rfl ?_
                refine lv_iadd hx hb dX5_scan_117 ?_
                refine lv_topi (fun x36 ex36 => ?_)
                have lx36 := ti_lo x36; have ux36 := ti_hi x36
                replace hF := hF.trans (congrArg (dv_k f_X5_scan_6b) (dv_bn (dv_add_e tk_400 (Eq.refl _) ex36)))
                have hIo := hB.1
                refine th_iastF hC hB hb34 (Or.inl hb34) ro_21 rfl (by decide) (Eq.refl _) (by omega) (by omega) th_sIa dX5_scan_118 (fun H118 locs hB hf118 hst118 => ?_)
                have hf := hf118
                have mm37 := (th_F_o hf h0 ro_20 (j := 2) (by decide) (by decide)).trans mm16
                have mm38 := (th_F_o hf hbn2 ro_37 (j := 1) (by decide) (by decide)).trans mm17
                have mm39 := (th_F_o hf hbn2 ro_37 (j := 0) (by decide) (by decide)).trans mm18
                have mm40 := (th_F_o hf h0 ro_20 (j := 1) (by decide) (by decide)).trans mm19
                have mm41 := (th_F_o hf h0 ro_20 (j := 0) (by decide) (by decide)).trans mb34
                have hR := th_RC_F hB.1 hR hf (th_T_s hb34 ro_21 hst118) (by decide)
                replace hF := hF.trans (congrArg (dv_k f_X5_scan_6b) (dv_bn (dv_stoI hIo hB.1 hU hb34 ow_21 (i := j6_1.toInt) hst118 (Eq.refl _) (by omega))))
                refine lv_goto (tgt := 130) hx hb dX5_scan_119 (by decide) ?_
                exact jn130 H118 locs ls x33 hB hR (lv_sub hl [2, 3, 5, 0] rfl) hF (by omega) (by omega) (by omega)
            · replace hF := hF.trans (congrArg (dv_k f_X5_scan_6b) (if_neg c59))
              refine lv_aload_n hx hb dX5_scan_62 rfl (lv_at hl 2 rfl) ?_
              refine lv_iload hx hb dX5_scan_63 (lv_at hl 0 rfl) ?_
              refine th_call (th_runV (As := [.int x10]) (rest := []) hC mf_X5_endOfLetters km_X5_72 im_X5_endOfLetters se_X5_endOfLetters (c_X5_endOfLetters l G Γ H53 hB.1 hU a0 h0 x10 (by omega) (by omega) ⟨_, mm16, hbn2⟩) rfl rfl ⟨Nat.le_of_ble_eq_true rfl, Nat.le_of_ble_eq_true rfl⟩ hB.1 h0 ro_20 rfl rfl hl.1 rfl (Nat.le_of_ble_eq_true rfl) dX5_scan_65 ⟨Nat.le_refl _, Nat.le_refl _⟩) hB.2.1 (fun v65 H65 locs hp hz hS => ?_)
              obtain ⟨x42, rfl, lx42, ux42, q65_0, q65_1, rfl⟩ := hp
              have hB := th_B_s hB hS
              replace hF := hF.trans (congrArg (dv_k f_X5_scan_6b) (dv_bn2 (q65_1)))
              refine W.eq (g2 := F0 m 68 ls [.int x42]) rfl ?_
              refine lv_istore (lv' := [(5, .int x42), (4, .int x9), (0, .ref a0), (1, .int j6_1), (2, .int j6_2), (3, .int j6_3)]) hx hb dX5_scan_68 hl (by decide) rfl (fun ls hl => ?_)
              refine lv_aload_n hx hb dX5_scan_70 rfl (lv_at hl 2 rfl) ?_
              refine th_getO (j := 0) (r2 := 21) hC cf_X5 hB.1 h0 ro_20 rfl rfl kf_X5_11 dX5_scan_71 (fun b43 mb43 hb43 => ?_)
              have sb43 := (th_F_o hB.2.2 h0 ro_20 (j := 0) (by decide) (by decide)).symm.trans mb43
              refine lv_iload_n hx hb dX5_scan_74 rfl (lv_at hl 3 rfl) ?_
              refine lv_aload_n hx hb dX5_scan_75 rfl (lv_at hl 2 rfl) ?_
              refine lv_iload_n hx hb dX5_scan_76 rfl (lv_at hl 4 rfl) ?_
              refine lv_iload hx hb dX5_scan_77 (lv_at hl 0 rfl) ?_
              refine th_call (th_runVX (As := [.int j6_2, .int x42]) (rest := [.int j6_1, .ref b43]) th_mvZ (th_Z_k hX hB.2.1) hC mf_X5_wordFrom km_X5_76 im_X5_wordFrom se_X5_wordFrom (c_X5_wordFrom l G Γ H53 hB.1 hU a0 h0 j6_2 (by omega) (by omega) x42 (by omega) (by omega) ⟨_, mm16, hbn2⟩) rfl rfl ⟨Nat.le_of_ble_eq_true rfl, Nat.le_of_ble_eq_true rfl⟩ hB.1 h0 ro_20 rfl rfl hl.1 rfl (Nat.le_of_ble_eq_true rfl) dX5_scan_79 ⟨Nat.le_refl _, Nat.le_refl _⟩) hB.2.1 (fun v79 H79 locs hp hz hS => ?_)
              obtain ⟨x44, rfl, lx44, ux44, q79_0, rfl⟩ := hp
              have hB := th_B_s hB hS
              replace hF := hF.trans (congrArg (dv_k f_X5_scan_6b) (dv_bn2 (q79_0)))
              refine W.eq (g2 := F0 m 82 ls [.int x44, .int j6_1, .ref b43]) rfl ?_
              have hIo := hB.1
              refine th_iastF hC hB hb43 (Or.inl hb43) ro_21 rfl (by decide) (Eq.refl _) (by omega) (by omega) th_sIa dX5_scan_82 (fun H82 locs hB hf82 hst82 => ?_)
              have hf := hf82
              have mm45 := (th_F_o hf h0 ro_20 (j := 2) (by decide) (by decide)).trans mm16
              have mm46 := (th_F_o hf hbn2 ro_37 (j := 1) (by decide) (by decide)).trans mm17
              have mm47 := (th_F_o hf hbn2 ro_37 (j := 0) (by decide) (by decide)).trans mm18
              have mm48 := (th_F_o hf h0 ro_20 (j := 1) (by decide) (by decide)).trans mm19
              have mm49 := (th_F_o hf h0 ro_20 (j := 0) (by decide) (by decide)).trans mb43
              have hR := th_RC_F hB.1 hR hf (th_T_s hb43 ro_21 hst82) (by decide)
              replace hF := hF.trans (congrArg (dv_k f_X5_scan_6b) (dv_bn (dv_stoI hIo hB.1 hU hb43 ow_21 (i := j6_1.toInt) hst82 (Eq.refl _) (by omega))))
              refine lv_goto (tgt := 130) hx hb dX5_scan_83 (by decide) ?_
              exact jn130 H82 locs ls x42 hB hR (lv_sub hl [2, 3, 5, 0] rfl) hF (by omega) (by omega) (by omega)
  exact lp6 ((2147483648 : Int) - (0)).toNat H0 [] ls 0 0 0 hB hR (lv_sub hl [3, 2, 1, 0] rfl) (by rw [tk_0]; exact hF) (by decide) (by decide) (by decide) (by decide) (by decide) (by decide) (by have w0 := tk_0; omega) (by have w0 := tk_0; omega)
