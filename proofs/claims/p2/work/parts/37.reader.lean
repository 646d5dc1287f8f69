set_option maxHeartbeats 4000000 in
set_option maxRecDepth 100000 in
theorem c_X5_isLetter (l : Launch) (G : th_G) (Γ : th_Ga) (H0 : Heap) (hI : th_I G Γ H0) (hU : dv_U Γ) (p1 : Int32) : Met l yX5_isLetter (.code yX5_isLetter cX5_isLetter 1 (some FieldType.boolean) :: th_tb) ({ frames := 0, cells := 0, slots := 0, locals := 0 } : Room) (th_P [.int p1] G H0) (th_Q (fun (v : Option Value) (H1 : Heap) => ∃ r : Int32, v = some (.int r) ∧ 0 ≤ r.toInt ∧ r.toInt ≤ 1 ∧ (f_X5_isLetter (dv G Γ H0) p1.toInt = (r.toInt, ())) ∧ H0 = H1) G) 0 0 (fun q => G.2.2 ≤ q) := by
  refine th_met RX5 (by decide) rfl (Nat.le_of_ble_eq_true rfl) ?_
  intro p e s m below meth c hC hH hr hlocks hnm ls hl
  have hx := hC.1
  have hb := hC.2.1
  have hB : th_B G Γ Γ [] H0 H0 [] := ⟨hI, va_S.rf, th_F_rf⟩
  have hl : lv_has ls 1 [(0, .int p1)] := hl
  have lp1 := ti_lo p1; have up1 := ti_hi p1
  obtain ⟨F, hF0⟩ : ∃ F, F = f_X5_isLetter (dv G Γ H0) (p1.toInt) := ⟨_, rfl⟩
  have hF := hF0.trans (f_X5_isLetter.eq_1 (dv G Γ H0) (p1.toInt))
  refine lv_iload_n hx hb dX5_isLetter_0 rfl (lv_at hl 0 rfl) ?_
  refine lv_bipush (v := 97) hx hb dX5_isLetter_1 (by decide) ?_
  refine tr_icmp_lt (tgt := 16) hx hb dX5_isLetter_3 (by decide) (Eq.refl _) tk_97 (fun c3 => ?_) (fun c3 => ?_)
  · replace hF := hF.trans (if_pos c3)
    refine lv_iconst (v := 0) hx hb dX5_isLetter_16 (by decide) ?_
    exact th_iret hC hH hr hlocks narrow_b0 hB.2.1 ⟨_, rfl, by decide, by decide, (hF0.symm.trans (hF.trans (by rw [tk_0]))), rfl⟩ dX5_isLetter_17
  · replace hF := hF.trans (if_neg (Int.not_lt.mpr c3))
    refine lv_iload_n hx hb dX5_isLetter_6 rfl (lv_at hl 0 rfl) ?_
    refine lv_bipush (v := 122) hx hb dX5_isLetter_7 (by decide) ?_
    refine tr_icmp_gt (tgt := 16) hx hb dX5_isLetter_9 (by decide) (Eq.refl _) tk_122 (fun c9 => ?_) (fun c9 => ?_)
    · replace hF := hF.trans (if_pos c9)
      refine lv_iconst (v := 0) hx hb dX5_isLetter_16 (by decide) ?_
      exact th_iret hC hH hr hlocks narrow_b0 hB.2.1 ⟨_, rfl, by decide, by decide, (hF0.symm.trans (hF.trans (by rw [tk_0]))), rfl⟩ dX5_isLetter_17
    · replace hF := hF.trans (if_neg (Int.not_lt.mpr c9))
      refine lv_iconst (v := 1) hx hb dX5_isLetter_12 (by decide) ?_
      refine lv_goto (tgt := 17) hx hb dX5_isLetter_13 (by decide) ?_
      exact th_iret hC hH hr hlocks narrow_b1 hB.2.1 ⟨_, rfl, by decide, by decide, (hF0.symm.trans (hF.trans (by rw [tk_1]))), rfl⟩ dX5_isLetter_17

set_option maxHeartbeats 4000000 in
set_option maxRecDepth 100000 in
theorem c_X5_isDigit (l : Launch) (G : th_G) (Γ : th_Ga) (H0 : Heap) (hI : th_I G Γ H0) (hU : dv_U Γ) (p1 : Int32) : Met l yX5_isDigit (.code yX5_isDigit cX5_isDigit 1 (some FieldType.boolean) :: th_tb) ({ frames := 0, cells := 0, slots := 0, locals := 0 } : Room) (th_P [.int p1] G H0) (th_Q (fun (v : Option Value) (H1 : Heap) => ∃ r : Int32, v = some (.int r) ∧ 0 ≤ r.toInt ∧ r.toInt ≤ 1 ∧ (r.toInt = 1 → 48 ≤ p1.toInt ∧ p1.toInt ≤ 57) ∧ (f_X5_isDigit (dv G Γ H0) p1.toInt = (r.toInt, ())) ∧ H0 = H1) G) 0 0 (fun q => G.2.2 ≤ q) := by
  refine th_met RX5 (by decide) rfl (Nat.le_of_ble_eq_true rfl) ?_
  intro p e s m below meth c hC hH hr hlocks hnm ls hl
  have hx := hC.1
  have hb := hC.2.1
  have hB : th_B G Γ Γ [] H0 H0 [] := ⟨hI, va_S.rf, th_F_rf⟩
  have hl : lv_has ls 1 [(0, .int p1)] := hl
  have lp1 := ti_lo p1; have up1 := ti_hi p1
  obtain ⟨F, hF0⟩ : ∃ F, F = f_X5_isDigit (dv G Γ H0) (p1.toInt) := ⟨_, rfl⟩
  have hF := hF0.trans (f_X5_isDigit.eq_1 (dv G Γ H0) (p1.toInt))
  refine lv_iload_n hx hb dX5_isDigit_0 rfl (lv_at hl 0 rfl) ?_
  refine lv_bipush (v := 48) hx hb dX5_isDigit_1 (by decide) ?_
  refine tr_icmp_lt (tgt := 16) hx hb dX5_isDigit_3 (by decide) (Eq.refl _) tk_48 (fun c3 => ?_) (fun c3 => ?_)
  · replace hF := hF.trans (if_pos c3)
    refine lv_iconst (v := 0) hx hb dX5_isDigit_16 (by decide) ?_
    exact th_iret hC hH hr hlocks narrow_b0 hB.2.1 ⟨_, rfl, by decide, by decide, by first | (intro h9; exact absurd h9 (by decide)) | (have w9 := tk_0; intros; omega), (hF0.symm.trans (hF.trans (by rw [tk_0]))), rfl⟩ dX5_isDigit_17
  · replace hF := hF.trans (if_neg (Int.not_lt.mpr c3))
    refine lv_iload_n hx hb dX5_isDigit_6 rfl (lv_at hl 0 rfl) ?_
    refine lv_bipush (v := 57) hx hb dX5_isDigit_7 (by decide) ?_
    refine tr_icmp_gt (tgt := 16) hx hb dX5_isDigit_9 (by decide) (Eq.refl _) tk_57 (fun c9 => ?_) (fun c9 => ?_)
    · replace hF := hF.trans (if_pos c9)
      refine lv_iconst (v := 0) hx hb dX5_isDigit_16 (by decide) ?_
      exact th_iret hC hH hr hlocks narrow_b0 hB.2.1 ⟨_, rfl, by decide, by decide, by first | (intro h9; exact absurd h9 (by decide)) | (have w9 := tk_0; intros; omega), (hF0.symm.trans (hF.trans (by rw [tk_0]))), rfl⟩ dX5_isDigit_17
    · replace hF := hF.trans (if_neg (Int.not_lt.mpr c9))
      refine lv_iconst (v := 1) hx hb dX5_isDigit_12 (by decide) ?_
      refine lv_goto (tgt := 17) hx hb dX5_isDigit_13 (by decide) ?_
      exact th_iret hC hH hr hlocks narrow_b1 hB.2.1 ⟨_, rfl, by decide, by decide, by first | (intro h9; exact absurd h9 (by decide)) | (have w9 := tk_1; intros; omega), (hF0.symm.trans (hF.trans (by rw [tk_1]))), rfl⟩ dX5_isDigit_17

set_option maxHeartbeats 4000000 in
set_option maxRecDepth 100000 in
theorem c_X5_endOfLetters (l : Launch) (G : th_G) (Γ : th_Ga) (H0 : Heap) (hI : th_I G Γ H0) (hU : dv_U Γ) (a0 : Nat) (h0 : Γ a0 = (20, 0)) (p1 : Int32) (f1 : 0 ≤ p1.toInt) (g1 : p1.toInt ≤ 400) (nn2 : ∃ b : Nat, th_sl H0 a0 (G.1.2 5 2) = .ref b ∧ Γ b = (37, 0)) : Met l yX5_endOfLetters (.code yX5_endOfLetters cX5_endOfLetters 3 (some FieldType.int) :: th_tb) ({ frames := 1, cells := 0, slots := 0, locals := 20 } : Room) (th_P [.ref a0, .int p1] G H0) (th_Q (fun (v : Option Value) (H1 : Heap) => ∃ r : Int32, v = some (.int r) ∧ 0 ≤ r.toInt ∧ r.toInt ≤ 400 ∧ (p1.toInt ≤ r.toInt) ∧ (f_X5_endOfLetters (dv G Γ H0) (a0 : Int) p1.toInt = (r.toInt, ())) ∧ H0 = H1) G) 0 0 (fun q => G.2.2 ≤ q) := by
  refine th_met RX5 (by decide) rfl (Nat.le_of_ble_eq_true rfl) ?_
  intro p e s m below meth c hC hH hr hlocks hnm ls hl
  have hx := hC.1
  have hb := hC.2.1
  have hB : th_B G Γ Γ [] H0 H0 [] := ⟨hI, va_S.rf, th_F_rf⟩
  have hl : lv_has ls 3 [(0, .ref a0), (1, .int p1)] := hl
  have lp1 := ti_lo p1; have up1 := ti_hi p1
  obtain ⟨bn2, mbn2, hbn2⟩ := nn2
  obtain ⟨F, hF0⟩ : ∃ F, F = f_X5_endOfLetters (dv G Γ H0) ((a0 : Int)) (p1.toInt) := ⟨_, rfl⟩
  have hF := hF0.trans (f_X5_endOfLetters.eq_1 (dv G Γ H0) ((a0 : Int)) (p1.toInt))
  refine lv_iload_n hx hb dX5_endOfLetters_0 rfl (lv_at hl 1 rfl) ?_
  refine lv_istore_n (lv' := [(2, .int p1), (0, .ref a0), (1, .int p1)]) hx hb dX5_endOfLetters_1 rfl hl (by decide) rfl (fun ls hl => ?_)
  have lp2 : ∀ (n2 : Nat) (locs : List Loc) (ls : Array Slot) (j2_2 : Int32), th_B G Γ Γ [] H0 H0 locs → lv_has ls 3 [(0, .ref a0), (2, .int j2_2)] → F = dv_lp f_X5_endOfLetters_2b (dv G Γ H0, (a0 : Int), j2_2.toInt) → 0 ≤ j2_2.toInt → j2_2.toInt ≤ 400 → p1.toInt ≤ j2_2.toInt → (2147483648 : Int) - j2_2.toInt ≤ (n2 : Int) → W p l e ({ frames := 1, cells := 0, slots := 0, locals := 20 } : Room) s m ([.ref a0, .int p1] : List Value).toArray below meth c H0 locs 0 0 (MQ below (th_Q (fun (v : Option Value) (H1 : Heap) => ∃ r : Int32, v = some (.int r) ∧ 0 ≤ r.toInt ∧ r.toInt ≤ 400 ∧ (p1.toInt ≤ r.toInt) ∧ (f_X5_endOfLetters (dv G Γ H0) (a0 : Int) p1.toInt = (r.toInt, ())) ∧ H0 = H1) G) ([.ref a0, .int p1] : List Value).toArray s 0 0 (fun q => G.2.2 ≤ q)) (F0 m 2 ls []) := by
    intro n2
    induction n2 with
    | zero => intro locs ls j2_2 hB hl hF g2_0 g2_1 g2_2 hm2; exact absurd hm2 (by have := ti_hi j2_2; omega)
    | succ n2 ih2 =>
      intro locs ls j2_2 hB hl hF g2_0 g2_1 g2_2 hm2
      have lj2_2 := ti_lo j2_2; have uj2_2 := ti_hi j2_2
      have hm2 : (2147483648 : Int) - j2_2.toInt ≤ (n2 : Int) + 1 := by omega
      replace hF := hF.trans (dv_lp_eq)
      replace hF := hF.trans (congrArg (dv_k f_X5_endOfLetters_2b) (f_X5_endOfLetters_2c.eq_1 (dv G Γ H0) ((a0 : Int)) (j2_2.toInt)))
      refine lv_iload_n hx hb dX5_endOfLetters_2 rfl (lv_at hl 1 rfl) ?_
      refine lv_aload_n hx hb dX5_endOfLetters_3 rfl (lv_at hl 0 rfl) ?_
      refine th_getK hC cf_X5 hB.1 h0 ro_20 rfl (j := 2) (by decide) mbn2 kf_X5_18 dX5_endOfLetters_4 ?_
      replace hF := hF.trans (congrArg (dv_k f_X5_endOfLetters_2b) (dv_bn (dv_getR h0 ro_20 (j := 2) rfl mbn2 (by decide))))
      refine th_getI (j := 1) hC cf_X9 hB.1 hbn2 ro_37 rfl rfl kf_X5_61 dX5_endOfLetters_7 (fun x1 mx1 lx1 ux1 => ?_)
      replace hF := hF.trans (congrArg (dv_k f_X5_endOfLetters_2b) (dv_bn (dv_getI hbn2 ro_37 (j := 1) rfl mx1 (by decide))))
      refine tr_icmp_ge (tgt := 34) hx hb dX5_endOfLetters_10 (by decide) (Eq.refl _) (Eq.refl _) (fun c10 => ?_) (fun c10 => ?_)
      · replace hF := hF.trans (congrArg (dv_k f_X5_endOfLetters_2b) (if_pos c10))
        refine lv_iload_n hx hb dX5_endOfLetters_34 rfl (lv_at hl 1 rfl) ?_
        replace hF := hF.trans (dv_kr)
        exact th_iret hC hH hr hlocks rfl hB.2.1 ⟨_, rfl, by omega, by omega, by intros; omega, (hF0.symm.trans hF), rfl⟩ dX5_endOfLetters_35
      · replace hF := hF.trans (congrArg (dv_k f_X5_endOfLetters_2b) (if_neg (Int.not_le.mpr c10)))
        refine lv_aload_n hx hb dX5_endOfLetters_13 rfl (lv_at hl 0 rfl) ?_
        refine th_getK hC cf_X5 hB.1 h0 ro_20 rfl (j := 2) (by decide) mbn2 kf_X5_18 dX5_endOfLetters_14 ?_
        replace hF := hF.trans (congrArg (dv_k f_X5_endOfLetters_2b) (dv_bn (dv_getR h0 ro_20 (j := 2) rfl mbn2 (by decide))))
        refine th_getO (j := 0) (r2 := 38) hC cf_X9 hB.1 hbn2 ro_37 rfl rfl kf_X5_66 dX5_endOfLetters_17 (fun b2 mb2 hb2 => ?_)
        refine lv_iload_n hx hb dX5_endOfLetters_20 rfl (lv_at hl 1 rfl) ?_
        refine th_ialdF hC hB.1 hb2 ro_38 rfl (Eq.refl _) (by omega) (by omega) rfl dX5_endOfLetters_21 (fun x3 mx3 lx3 ux3 => ?_)
        replace hF := hF.trans (congrArg (dv_k f_X5_endOfLetters_2b) (dv_bn (dv_aldI hB.1 hU hb2 ow_38 (z := j2_2.toInt) mx3 (by omega))))
        refine th_call (th_runS (As := [.int x3]) (rest := []) hC mf_X5_isLetter km_X5_69 st_X5_isLetter (c_X5_isLetter l G Γ H0 hB.1 hU x3) rfl rfl ⟨Nat.le_of_ble_eq_true rfl, Nat.le_of_ble_eq_true rfl⟩ rfl hl.1 rfl (Nat.le_of_ble_eq_true rfl) dX5_endOfLetters_22 ⟨Nat.le_refl _, Nat.le_refl _⟩) hB.2.1 (fun v22 H22 locs hp hz hS => ?_)
        obtain ⟨x4, rfl, lx4, ux4, q22_0, rfl⟩ := hp
        have hB := th_B_s hB hS
        replace hF := hF.trans (congrArg (dv_k f_X5_endOfLetters_2b) (dv_bn2 (q22_0)))
        refine W.eq (g2 := F0 m 25 ls [.int x4]) rfl ?_
        refine tr_if_eq (tgt := 34) hx hb dX5_endOfLetters_25 (by decide) (Eq.refl _) (fun c25 => ?_) (fun c25 => ?_)
        · replace hF := hF.trans (congrArg (dv_k f_X5_endOfLetters_2b) (if_pos c25))
          refine lv_iload_n hx hb dX5_endOfLetters_34 rfl (lv_at hl 1 rfl) ?_
          replace hF := hF.trans (dv_kr)
          exact th_iret hC hH hr hlocks rfl hB.2.1 ⟨_, rfl, by omega, by omega, by intros; omega, (hF0.symm.trans hF), rfl⟩ dX5_endOfLetters_35
        · replace hF := hF.trans (congrArg (dv_k f_X5_endOfLetters_2b) (if_neg c25))
          refine tr_iinc (fun x5 => [(2, .int x5), (0, .ref a0)]) hx hb dX5_endOfLetters_28 hl (k := 1) rfl (Eq.refl _) tk_1 (by omega) (by omega) (by decide) (fun _ => rfl) (fun x5 ls ex5 hl => ?_)
          replace hF := hF.trans (congrArg (dv_k f_X5_endOfLetters_2b) (dv_bn (ex5.symm)))
          refine lv_goto (tgt := 2) hx hb dX5_endOfLetters_31 (by decide) ?_
          replace hF := hF.trans (dv_kl)
          exact ih2 locs ls x5 hB (lv_sub hl [1, 0] rfl) hF (by omega) (by omega) (by omega) (by omega)
  exact lp2 ((2147483648 : Int) - (p1.toInt)).toNat [] ls p1 hB (lv_sub hl [1, 0] rfl) hF (by omega) (by omega) (by omega) (by omega)

set_option maxHeartbeats 4000000 in
set_option maxRecDepth 100000 in
theorem c_X5_endOfDigits (l : Launch) (G : th_G) (Γ : th_Ga) (H0 : Heap) (hI : th_I G Γ H0) (hU : dv_U Γ) (a0 : Nat) (h0 : Γ a0 = (20, 0)) (p1 : Int32) (f1 : 0 ≤ p1.toInt) (g1 : p1.toInt ≤ 400) (nn2 : ∃ b : Nat, th_sl H0 a0 (G.1.2 5 2) = .ref b ∧ Γ b = (37, 0)) : Met l yX5_endOfDigits (.code yX5_endOfDigits cX5_endOfDigits 3 (some FieldType.int) :: th_tb) ({ frames := 1, cells := 0, slots := 0, locals := 20 } : Room) (th_P [.ref a0, .int p1] G H0) (th_Q (fun (v : Option Value) (H1 : Heap) => ∃ r : Int32, v = some (.int r) ∧ 0 ≤ r.toInt ∧ r.toInt ≤ 400 ∧ (p1.toInt ≤ r.toInt) ∧ (f_X5_endOfDigits (dv G Γ H0) (a0 : Int) p1.toInt = (r.toInt, ())) ∧ H0 = H1) G) 0 0 (fun q => G.2.2 ≤ q) := by
  refine th_met RX5 (by decide) rfl (Nat.le_of_ble_eq_true rfl) ?_
  intro p e s m below meth c hC hH hr hlocks hnm ls hl
  have hx := hC.1
  have hb := hC.2.1
  have hB : th_B G Γ Γ [] H0 H0 [] := ⟨hI, va_S.rf, th_F_rf⟩
  have hl : lv_has ls 3 [(0, .ref a0), (1, .int p1)] := hl
  have lp1 := ti_lo p1; have up1 := ti_hi p1
  obtain ⟨bn2, mbn2, hbn2⟩ := nn2
  obtain ⟨F, hF0⟩ : ∃ F, F = f_X5_endOfDigits (dv G Γ H0) ((a0 : Int)) (p1.toInt) := ⟨_, rfl⟩
  have hF := hF0.trans (f_X5_endOfDigits.eq_1 (dv G Γ H0) ((a0 : Int)) (p1.toInt))
  refine lv_iload_n hx hb dX5_endOfDigits_0 rfl (lv_at hl 1 rfl) ?_
  refine lv_istore_n (lv' := [(2, .int p1), (0, .ref a0), (1, .int p1)]) hx hb dX5_endOfDigits_1 rfl hl (by decide) rfl (fun ls hl => ?_)
  have lp2 : ∀ (n2 : Nat) (locs : List Loc) (ls : Array Slot) (j2_2 : Int32), th_B G Γ Γ [] H0 H0 locs → lv_has ls 3 [(0, .ref a0), (2, .int j2_2)] → F = dv_lp f_X5_endOfDigits_2b (dv G Γ H0, (a0 : Int), j2_2.toInt) → 0 ≤ j2_2.toInt → j2_2.toInt ≤ 400 → p1.toInt ≤ j2_2.toInt → (2147483648 : Int) - j2_2.toInt ≤ (n2 : Int) → W p l e ({ frames := 1, cells := 0, slots := 0, locals := 20 } : Room) s m ([.ref a0, .int p1] : List Value).toArray below meth c H0 locs 0 0 (MQ below (th_Q (fun (v : Option Value) (H1 : Heap) => ∃ r : Int32, v = some (.int r) ∧ 0 ≤ r.toInt ∧ r.toInt ≤ 400 ∧ (p1.toInt ≤ r.toInt) ∧ (f_X5_endOfDigits (dv G Γ H0) (a0 : Int) p1.toInt = (r.toInt, ())) ∧ H0 = H1) G) ([.ref a0, .int p1] : List Value).toArray s 0 0 (fun q => G.2.2 ≤ q)) (F0 m 2 ls []) := by
    intro n2
    induction n2 with
    | zero => intro locs ls j2_2 hB hl hF g2_0 g2_1 g2_2 hm2; exact absurd hm2 (by have := ti_hi j2_2; omega)
    | succ n2 ih2 =>
      intro locs ls j2_2 hB hl hF g2_0 g2_1 g2_2 hm2
      have lj2_2 := ti_lo j2_2; have uj2_2 := ti_hi j2_2
      have hm2 : (2147483648 : Int) - j2_2.toInt ≤ (n2 : Int) + 1 := by omega
      replace hF := hF.trans (dv_lp_eq)
      replace hF := hF.trans (congrArg (dv_k f_X5_endOfDigits_2b) (f_X5_endOfDigits_2c.eq_1 (dv G Γ H0) ((a0 : Int)) (j2_2.toInt)))
      refine lv_iload_n hx hb dX5_endOfDigits_2 rfl (lv_at hl 1 rfl) ?_
      refine lv_aload_n hx hb dX5_endOfDigits_3 rfl (lv_at hl 0 rfl) ?_
      refine th_getK hC cf_X5 hB.1 h0 ro_20 rfl (j := 2) (by decide) mbn2 kf_X5_18 dX5_endOfDigits_4 ?_
      replace hF := hF.trans (congrArg (dv_k f_X5_endOfDigits_2b) (dv_bn (dv_getR h0 ro_20 (j := 2) rfl mbn2 (by decide))))
      refine th_getI (j := 1) hC cf_X9 hB.1 hbn2 ro_37 rfl rfl kf_X5_61 dX5_endOfDigits_7 (fun x1 mx1 lx1 ux1 => ?_)
      replace hF := hF.trans (congrArg (dv_k f_X5_endOfDigits_2b) (dv_bn (dv_getI hbn2 ro_37 (j := 1) rfl mx1 (by decide))))
      refine tr_icmp_ge (tgt := 34) hx hb dX5_endOfDigits_10 (by decide) (Eq.refl _) (Eq.refl _) (fun c10 => ?_) (fun c10 => ?_)
      · replace hF := hF.trans (congrArg (dv_k f_X5_endOfDigits_2b) (if_pos c10))
        refine lv_iload_n hx hb dX5_endOfDigits_34 rfl (lv_at hl 1 rfl) ?_
        replace hF := hF.trans (dv_kr)
        exact th_iret hC hH hr hlocks rfl hB.2.1 ⟨_, rfl, by omega, by omega, by intros; omega, (hF0.symm.trans hF), rfl⟩ dX5_endOfDigits_35
      · replace hF := hF.trans (congrArg (dv_k f_X5_endOfDigits_2b) (if_neg (Int.not_le.mpr c10)))
        refine lv_aload_n hx hb dX5_endOfDigits_13 rfl (lv_at hl 0 rfl) ?_
        refine th_getK hC cf_X5 hB.1 h0 ro_20 rfl (j := 2) (by decide) mbn2 kf_X5_18 dX5_endOfDigits_14 ?_
        replace hF := hF.trans (congrArg (dv_k f_X5_endOfDigits_2b) (dv_bn (dv_getR h0 ro_20 (j := 2) rfl mbn2 (by decide))))
        refine th_getO (j := 0) (r2 := 38) hC cf_X9 hB.1 hbn2 ro_37 rfl rfl kf_X5_66 dX5_endOfDigits_17 (fun b2 mb2 hb2 => ?_)
        refine lv_iload_n hx hb dX5_endOfDigits_20 rfl (lv_at hl 1 rfl) ?_
        refine th_ialdF hC hB.1 hb2 ro_38 rfl (Eq.refl _) (by omega) (by omega) rfl dX5_endOfDigits_21 (fun x3 mx3 lx3 ux3 => ?_)
        replace hF := hF.trans (congrArg (dv_k f_X5_endOfDigits_2b) (dv_bn (dv_aldI hB.1 hU hb2 ow_38 (z := j2_2.toInt) mx3 (by omega))))
        refine th_call (th_runS (As := [.int x3]) (rest := []) hC mf_X5_isDigit km_X5_80 st_X5_isDigit (c_X5_isDigit l G Γ H0 hB.1 hU x3) rfl rfl ⟨Nat.le_of_ble_eq_true rfl, Nat.le_of_ble_eq_true rfl⟩ rfl hl.1 rfl (Nat.le_of_ble_eq_true rfl) dX5_endOfDigits_22 ⟨Nat.le_refl _, Nat.le_refl _⟩) hB.2.1 (fun v22 H22 locs hp hz hS => ?_)
        obtain ⟨x4, rfl, lx4, ux4, q22_0, q22_1, rfl⟩ := hp
        have hB := th_B_s hB hS
        replace hF := hF.trans (congrArg (dv_k f_X5_endOfDigits_2b) (dv_bn2 (q22_1)))
        refine W.eq (g2 := F0 m 25 ls [.int x4]) rfl ?_
        refine tr_if_eq (tgt := 34) hx hb dX5_endOfDigits_25 (by decide) (Eq.refl _) (fun c25 => ?_) (fun c25 => ?_)
        · replace hF := hF.trans (congrArg (dv_k f_X5_endOfDigits_2b) (if_pos c25))
          refine lv_iload_n hx hb dX5_endOfDigits_34 rfl (lv_at hl 1 rfl) ?_
          replace hF := hF.trans (dv_kr)
          exact th_iret hC hH hr hlocks rfl hB.2.1 ⟨_, rfl, by omega, by omega, by intros; omega, (hF0.symm.trans hF), rfl⟩ dX5_endOfDigits_35
        · replace hF := hF.trans (congrArg (dv_k f_X5_endOfDigits_2b) (if_neg c25))
          refine tr_iinc (fun x5 => [(2, .int x5), (0, .ref a0)]) hx hb dX5_endOfDigits_28 hl (k := 1) rfl (Eq.refl _) tk_1 (by omega) (by omega) (by decide) (fun _ => rfl) (fun x5 ls ex5 hl => ?_)
          replace hF := hF.trans (congrArg (dv_k f_X5_endOfDigits_2b) (dv_bn (ex5.symm)))
          refine lv_goto (tgt := 2) hx hb dX5_endOfDigits_31 (by decide) ?_
          replace hF := hF.trans (dv_kl)
          exact ih2 locs ls x5 hB (lv_sub hl [1, 0] rfl) hF (by omega) (by omega) (by omega) (by omega)
  exact lp2 ((2147483648 : Int) - (p1.toInt)).toNat [] ls p1 hB (lv_sub hl [1, 0] rfl) hF (by omega) (by omega) (by omega) (by omega)

set_option maxHeartbeats 4000000 in
set_option maxRecDepth 100000 in
theorem c_X5_valueFrom (l : Launch) (G : th_G) (Γ : th_Ga) (H0 : Heap) (hI : th_I G Γ H0) (hU : dv_U Γ) (a0 : Nat) (h0 : Γ a0 = (20, 0)) (p1 : Int32) (f1 : 0 ≤ p1.toInt) (g1 : p1.toInt ≤ 400) (p2 : Int32) (f2 : 0 ≤ p2.toInt) (g2 : p2.toInt ≤ 400) (nn2 : ∃ b : Nat, th_sl H0 a0 (G.1.2 5 2) = .ref b ∧ Γ b = (37, 0)) : Met l yX5_valueFrom (.code yX5_valueFrom cX5_valueFrom 5 (some FieldType.int) :: th_tb) ({ frames := 1, cells := 0, slots := 0, locals := 21 } : Room) (th_P [.ref a0, .int p1, .int p2] G H0) (th_Q (fun (v : Option Value) (H1 : Heap) => ∃ r : Int32, v = some (.int r) ∧ (f_X5_valueFrom (dv G Γ H0) (a0 : Int) p1.toInt p2.toInt = (r.toInt, ())) ∧ H0 = H1) G) 0 0 (fun q => G.2.2 ≤ q) := by
  refine th_met RX5 (by decide) rfl (Nat.le_of_ble_eq_true rfl) ?_
  intro p e s m below meth c hC hH hr hlocks hnm ls hl
  have hx := hC.1
  have hb := hC.2.1
  have hB : th_B G Γ Γ [] H0 H0 [] := ⟨hI, va_S.rf, th_F_rf⟩
  have hl : lv_has ls 5 [(0, .ref a0), (1, .int p1), (2, .int p2)] := hl
  have lp1 := ti_lo p1; have up1 := ti_hi p1
  have lp2 := ti_lo p2; have up2 := ti_hi p2
  obtain ⟨bn2, mbn2, hbn2⟩ := nn2
  obtain ⟨F, hF0⟩ : ∃ F, F = f_X5_valueFrom (dv G Γ H0) ((a0 : Int)) (p1.toInt) (p2.toInt) := ⟨_, rfl⟩
  have hF := hF0.trans (f_X5_valueFrom.eq_1 (dv G Γ H0) ((a0 : Int)) (p1.toInt) (p2.toInt))
  refine lv_iconst (v := 0) hx hb dX5_valueFrom_0 (by decide) ?_
  refine lv_istore_n (lv' := [(3, .int 0), (0, .ref a0), (1, .int p1), (2, .int p2)]) hx hb dX5_valueFrom_1 rfl hl (by decide) rfl (fun ls hl => ?_)
  refine lv_iload_n hx hb dX5_valueFrom_2 rfl (lv_at hl 2 rfl) ?_
  refine lv_istore (lv' := [(4, .int p1), (3, .int 0), (0, .ref a0), (1, .int p1), (2, .int p2)]) hx hb dX5_valueFrom_3 hl (by decide) rfl (fun ls hl => ?_)
  have lp5 : ∀ (n5 : Nat) (locs : List Loc) (ls : Array Slot) (j5_3 : Int32) (j5_4 : Int32), th_B G Γ Γ [] H0 H0 locs → lv_has ls 5 [(0, .ref a0), (2, .int p2), (3, .int j5_3), (4, .int j5_4)] → F = dv_lp f_X5_valueFrom_5b (dv G Γ H0, (a0 : Int), p2.toInt, j5_3.toInt, j5_4.toInt) → j5_3.toInt ≤ 1001 → 0 ≤ j5_4.toInt → j5_4.toInt ≤ 400 → (2147483648 : Int) - j5_4.toInt ≤ (n5 : Int) → W p l e ({ frames := 1, cells := 0, slots := 0, locals := 21 } : Room) s m ([.ref a0, .int p1, .int p2] : List Value).toArray below meth c H0 locs 0 0 (MQ below (th_Q (fun (v : Option Value) (H1 : Heap) => ∃ r : Int32, v = some (.int r) ∧ (f_X5_valueFrom (dv G Γ H0) (a0 : Int) p1.toInt p2.toInt = (r.toInt, ())) ∧ H0 = H1) G) ([.ref a0, .int p1, .int p2] : List Value).toArray s 0 0 (fun q => G.2.2 ≤ q)) (F0 m 5 ls []) := by
    intro n5
    induction n5 with
    | zero => intro locs ls j5_3 j5_4 hB hl hF g5_0 g5_1 g5_2 hm5; exact absurd hm5 (by have := ti_hi j5_4; omega)
    | succ n5 ih5 =>
      intro locs ls j5_3 j5_4 hB hl hF g5_0 g5_1 g5_2 hm5
      have lj5_3 := ti_lo j5_3; have uj5_3 := ti_hi j5_3
      have lj5_4 := ti_lo j5_4; have uj5_4 := ti_hi j5_4
      have hm5 : (2147483648 : Int) - j5_4.toInt ≤ (n5 : Int) + 1 := by omega
      replace hF := hF.trans (dv_lp_eq)
      replace hF := hF.trans (congrArg (dv_k f_X5_valueFrom_5b) (f_X5_valueFrom_5c.eq_1 (dv G Γ H0) ((a0 : Int)) (p2.toInt) (j5_3.toInt) (j5_4.toInt)))
      refine lv_iload hx hb dX5_valueFrom_5 (lv_at hl 3 rfl) ?_
      refine lv_iload_n hx hb dX5_valueFrom_7 rfl (lv_at hl 1 rfl) ?_
      refine tr_icmp_ge (tgt := 42) hx hb dX5_valueFrom_8 (by decide) (Eq.refl _) (Eq.refl _) (fun c8 => ?_) (fun c8 => ?_)
      · replace hF := hF.trans (congrArg (dv_k f_X5_valueFrom_5b) (if_pos c8))
        refine lv_iload_n hx hb dX5_valueFrom_42 rfl (lv_at hl 2 rfl) ?_
        replace hF := hF.trans (dv_kr)
        exact th_iret hC hH hr hlocks rfl hB.2.1 ⟨_, rfl, (hF0.symm.trans hF), rfl⟩ dX5_valueFrom_43
      · replace hF := hF.trans (congrArg (dv_k f_X5_valueFrom_5b) (if_neg (Int.not_le.mpr c8)))
        refine lv_iload_n hx hb dX5_valueFrom_11 rfl (lv_at hl 2 rfl) ?_
        refine lv_bipush (v := 10) hx hb dX5_valueFrom_12 (by decide) ?_
        refine lv_imul hx hb dX5_valueFrom_14 ?_
        refine lv_topi (fun x1 ex1 => ?_)
        have lx1 := ti_lo x1; have ux1 := ti_hi x1
        replace hF := hF.trans (congrArg (dv_k f_X5_valueFrom_5b) (dv_bn (dv_mul_e (Eq.refl _) tk_10 ex1)))
        refine lv_aload_n hx hb dX5_valueFrom_15 rfl (lv_at hl 0 rfl) ?_
        refine th_getK hC cf_X5 hB.1 h0 ro_20 rfl (j := 2) (by decide) mbn2 kf_X5_18 dX5_valueFrom_16 ?_
        replace hF := hF.trans (congrArg (dv_k f_X5_valueFrom_5b) (dv_bn (dv_getR h0 ro_20 (j := 2) rfl mbn2 (by decide))))
        refine th_getO (j := 0) (r2 := 38) hC cf_X9 hB.1 hbn2 ro_37 rfl rfl kf_X5_66 dX5_valueFrom_19 (fun b2 mb2 hb2 => ?_)
        refine lv_iload hx hb dX5_valueFrom_22 (lv_at hl 3 rfl) ?_
        refine th_ialdF hC hB.1 hb2 ro_38 rfl (Eq.refl _) (by omega) (by omega) rfl dX5_valueFrom_24 (fun x3 mx3 lx3 ux3 => ?_)
        replace hF := hF.trans (congrArg (dv_k f_X5_valueFrom_5b) (dv_bn (dv_aldI hB.1 hU hb2 ow_38 (z := j5_4.toInt) mx3 (by omega))))
        refine lv_iadd hx hb dX5_valueFrom_25 ?_
        refine lv_topi (fun x4 ex4 => ?_)
        have lx4 := ti_lo x4; have ux4 := ti_hi x4
        replace hF := hF.trans (congrArg (dv_k f_X5_valueFrom_5b) (dv_bn (dv_add_e (Eq.refl _) (Eq.refl _) ex4)))
        refine lv_bipush (v := 48) hx hb dX5_valueFrom_26 (by decide) ?_
        refine lv_isub hx hb dX5_valueFrom_28 ?_
        refine lv_topi (fun x5 ex5 => ?_)
        have lx5 := ti_lo x5; have ux5 := ti_hi x5
        replace hF := hF.trans (congrArg (dv_k f_X5_valueFrom_5b) (dv_bn (dv_sub_e (Eq.refl _) tk_48 ex5)))
        refine lv_sipush (v := 1001) hx hb dX5_valueFrom_29 (by decide) ?_
        refine tr_mmin hC kma_X5_89 hl.1 (Eq.refl _) tk_1001 (Nat.le_of_ble_eq_true rfl) (Nat.le_of_ble_eq_true rfl) (Nat.le_of_ble_eq_true rfl) (Nat.le_of_ble_eq_true rfl) dX5_valueFrom_32 (fun x6 ex6 => ?_)
        replace hF := hF.trans (congrArg (dv_k f_X5_valueFrom_5b) (dv_bn (dv_min_e ex6)))
        refine lv_istore_n (lv' := [(3, .int x6), (0, .ref a0), (2, .int p2), (4, .int j5_4)]) hx hb dX5_valueFrom_35 rfl hl (by decide) rfl (fun ls hl => ?_)
        refine tr_iinc (fun x7 => [(4, .int x7), (3, .int x6), (0, .ref a0), (2, .int p2)]) hx hb dX5_valueFrom_36 hl (k := 3) rfl (Eq.refl _) tk_1 (by omega) (by omega) (by decide) (fun _ => rfl) (fun x7 ls ex7 hl => ?_)
        replace hF := hF.trans (congrArg (dv_k f_X5_valueFrom_5b) (dv_bn (ex7.symm)))
        refine lv_goto (tgt := 5) hx hb dX5_valueFrom_39 (by decide) ?_
        replace hF := hF.trans (dv_kl)
        exact ih5 locs ls x6 x7 hB (lv_sub hl [2, 3, 1, 0] rfl) hF (by omega) (by omega) (by omega) (by omega)
  exact lp5 ((2147483648 : Int) - (p1.toInt)).toNat [] ls 0 p1 hB (lv_sub hl [2, 4, 1, 0] rfl) (by rw [tk_0]; exact hF) (by decide) (by omega) (by omega) (by have w0 := tk_0; omega)

set_option maxHeartbeats 4000000 in
set_option maxRecDepth 100000 in
theorem c_X5_codeOf (l : Launch) (G : th_G) (Γ : th_Ga) (H0 : Heap) (hI : th_I G Γ H0) (hU : dv_U Γ) (p1 : Int32) : Met l yX5_codeOf (.code yX5_codeOf cX5_codeOf 1 (some FieldType.int) :: th_tb) ({ frames := 0, cells := 0, slots := 0, locals := 0 } : Room) (th_P [.int p1] G H0) (th_Q (fun (v : Option Value) (H1 : Heap) => ∃ r : Int32, v = some (.int r) ∧ (-1) ≤ r.toInt ∧ r.toInt ≤ 9999 ∧ (r.toInt ≠ -1 → p1.toInt ≠ -1) ∧ (f_X5_codeOf (dv G Γ H0) p1.toInt = (r.toInt, ())) ∧ H0 = H1) G) 0 0 (fun q => G.2.2 ≤ q) := by
  refine th_met RX5 (by decide) rfl (Nat.le_of_ble_eq_true rfl) ?_
  intro p e s m below meth c hC hH hr hlocks hnm ls hl
  have hx := hC.1
  have hb := hC.2.1
  have hB : th_B G Γ Γ [] H0 H0 [] := ⟨hI, va_S.rf, th_F_rf⟩
  have hl : lv_has ls 1 [(0, .int p1)] := hl
  have lp1 := ti_lo p1; have up1 := ti_hi p1
  obtain ⟨F, hF0⟩ : ∃ F, F = f_X5_codeOf (dv G Γ H0) (p1.toInt) := ⟨_, rfl⟩
  have hF := hF0.trans (f_X5_codeOf.eq_1 (dv G Γ H0) (p1.toInt))
  refine lv_iload_n hx hb dX5_codeOf_0 rfl (lv_at hl 0 rfl) ?_
  by_cases k1_0 : p1.toInt = 37
  · replace hF := hF.trans (if_pos k1_0)
    refine lv_tableIn (off := 75) (tgt := 76) hx hb dX5_codeOf_1 (by omega) (by omega) (by rw [show p1.toInt = 37 from k1_0]; decide) (by decide) ?_
    refine lv_sipush (v := 3004) hx hb dX5_codeOf_76 (by decide) ?_
    exact th_iret hC hH hr hlocks rfl hB.2.1 ⟨_, rfl, by decide, by decide, by first | (intro h9; exact absurd h9 (by decide)) | (have w9 := tk_3004; intros; omega), (hF0.symm.trans (hF.trans (by rw [tk_3004]))), rfl⟩ dX5_codeOf_79
  replace hF := hF.trans (if_neg k1_0)
  by_cases k1_1 : p1.toInt = 38
  · replace hF := hF.trans (if_pos k1_1)
    refine lv_tableIn (off := 79) (tgt := 80) hx hb dX5_codeOf_1 (by omega) (by omega) (by rw [show p1.toInt = 38 from k1_1]; decide) (by decide) ?_
    refine lv_iconst (v := (-1)) hx hb dX5_codeOf_80 (by decide) ?_
    exact th_iret hC hH hr hlocks rfl hB.2.1 ⟨_, rfl, by decide, by decide, by first | (intro h9; exact absurd h9 (by decide)) | (have w9 := tk_m1; intros; omega), (hF0.symm.trans (hF.trans (by rw [tk_m1]))), rfl⟩ dX5_codeOf_81
  replace hF := hF.trans (if_neg k1_1)
  by_cases k1_2 : p1.toInt = 39
  · replace hF := hF.trans (if_pos k1_2)
    refine lv_tableIn (off := 79) (tgt := 80) hx hb dX5_codeOf_1 (by omega) (by omega) (by rw [show p1.toInt = 39 from k1_2]; decide) (by decide) ?_
    refine lv_iconst (v := (-1)) hx hb dX5_codeOf_80 (by decide) ?_
    exact th_iret hC hH hr hlocks rfl hB.2.1 ⟨_, rfl, by decide, by decide, by first | (intro h9; exact absurd h9 (by decide)) | (have w9 := tk_m1; intros; omega), (hF0.symm.trans (hF.trans (by rw [tk_m1]))), rfl⟩ dX5_codeOf_81
  replace hF := hF.trans (if_neg k1_2)
  by_cases k1_3 : p1.toInt = 40
  · replace hF := hF.trans (if_pos k1_3)
    refine lv_tableIn (off := 79) (tgt := 80) hx hb dX5_codeOf_1 (by omega) (by omega) (by rw [show p1.toInt = 40 from k1_3]; decide) (by decide) ?_
    refine lv_iconst (v := (-1)) hx hb dX5_codeOf_80 (by decide) ?_
    exact th_iret hC hH hr hlocks rfl hB.2.1 ⟨_, rfl, by decide, by decide, by first | (intro h9; exact absurd h9 (by decide)) | (have w9 := tk_m1; intros; omega), (hF0.symm.trans (hF.trans (by rw [tk_m1]))), rfl⟩ dX5_codeOf_81
  replace hF := hF.trans (if_neg k1_3)
  by_cases k1_4 : p1.toInt = 41
  · replace hF := hF.trans (if_pos k1_4)
    refine lv_tableIn (off := 79) (tgt := 80) hx hb dX5_codeOf_1 (by omega) (by omega) (by rw [show p1.toInt = 41 from k1_4]; decide) (by decide) ?_
    refine lv_iconst (v := (-1)) hx hb dX5_codeOf_80 (by decide) ?_
    exact th_iret hC hH hr hlocks rfl hB.2.1 ⟨_, rfl, by decide, by decide, by first | (intro h9; exact absurd h9 (by decide)) | (have w9 := tk_m1; intros; omega), (hF0.symm.trans (hF.trans (by rw [tk_m1]))), rfl⟩ dX5_codeOf_81
  replace hF := hF.trans (if_neg k1_4)
  by_cases k1_5 : p1.toInt = 42
  · replace hF := hF.trans (if_pos k1_5)
    refine lv_tableIn (off := 67) (tgt := 68) hx hb dX5_codeOf_1 (by omega) (by omega) (by rw [show p1.toInt = 42 from k1_5]; decide) (by decide) ?_
    refine lv_sipush (v := 3002) hx hb dX5_codeOf_68 (by decide) ?_
    exact th_iret hC hH hr hlocks rfl hB.2.1 ⟨_, rfl, by decide, by decide, by first | (intro h9; exact absurd h9 (by decide)) | (have w9 := tk_3002; intros; omega), (hF0.symm.trans (hF.trans (by rw [tk_3002]))), rfl⟩ dX5_codeOf_71
  replace hF := hF.trans (if_neg k1_5)
  by_cases k1_6 : p1.toInt = 43
  · replace hF := hF.trans (if_pos k1_6)
    refine lv_tableIn (off := 59) (tgt := 60) hx hb dX5_codeOf_1 (by omega) (by omega) (by rw [show p1.toInt = 43 from k1_6]; decide) (by decide) ?_
    refine lv_sipush (v := 3000) hx hb dX5_codeOf_60 (by decide) ?_
    exact th_iret hC hH hr hlocks rfl hB.2.1 ⟨_, rfl, by decide, by decide, by first | (intro h9; exact absurd h9 (by decide)) | (have w9 := tk_3000; intros; omega), (hF0.symm.trans (hF.trans (by rw [tk_3000]))), rfl⟩ dX5_codeOf_63
  replace hF := hF.trans (if_neg k1_6)
  by_cases k1_7 : p1.toInt = 44
  · replace hF := hF.trans (if_pos k1_7)
    refine lv_tableIn (off := 79) (tgt := 80) hx hb dX5_codeOf_1 (by omega) (by omega) (by rw [show p1.toInt = 44 from k1_7]; decide) (by decide) ?_
    refine lv_iconst (v := (-1)) hx hb dX5_codeOf_80 (by decide) ?_
    exact th_iret hC hH hr hlocks rfl hB.2.1 ⟨_, rfl, by decide, by decide, by first | (intro h9; exact absurd h9 (by decide)) | (have w9 := tk_m1; intros; omega), (hF0.symm.trans (hF.trans (by rw [tk_m1]))), rfl⟩ dX5_codeOf_81
  replace hF := hF.trans (if_neg k1_7)
  by_cases k1_8 : p1.toInt = 45
  · replace hF := hF.trans (if_pos k1_8)
    refine lv_tableIn (off := 63) (tgt := 64) hx hb dX5_codeOf_1 (by omega) (by omega) (by rw [show p1.toInt = 45 from k1_8]; decide) (by decide) ?_
    refine lv_sipush (v := 3001) hx hb dX5_codeOf_64 (by decide) ?_
    exact th_iret hC hH hr hlocks rfl hB.2.1 ⟨_, rfl, by decide, by decide, by first | (intro h9; exact absurd h9 (by decide)) | (have w9 := tk_3001; intros; omega), (hF0.symm.trans (hF.trans (by rw [tk_3001]))), rfl⟩ dX5_codeOf_67
  replace hF := hF.trans (if_neg k1_8)
  by_cases k1_9 : p1.toInt = 46
  · replace hF := hF.trans (if_pos k1_9)
    refine lv_tableIn (off := 79) (tgt := 80) hx hb dX5_codeOf_1 (by omega) (by omega) (by rw [show p1.toInt = 46 from k1_9]; decide) (by decide) ?_
    refine lv_iconst (v := (-1)) hx hb dX5_codeOf_80 (by decide) ?_
    exact th_iret hC hH hr hlocks rfl hB.2.1 ⟨_, rfl, by decide, by decide, by first | (intro h9; exact absurd h9 (by decide)) | (have w9 := tk_m1; intros; omega), (hF0.symm.trans (hF.trans (by rw [tk_m1]))), rfl⟩ dX5_codeOf_81
  replace hF := hF.trans (if_neg k1_9)
  by_cases k1_10 : p1.toInt = 47
  · replace hF := hF.trans (if_pos k1_10)
    refine lv_tableIn (off := 71) (tgt := 72) hx hb dX5_codeOf_1 (by omega) (by omega) (by rw [show p1.toInt = 47 from k1_10]; decide) (by decide) ?_
    refine lv_sipush (v := 3003) hx hb dX5_codeOf_72 (by decide) ?_
    exact th_iret hC hH hr hlocks rfl hB.2.1 ⟨_, rfl, by decide, by decide, by first | (intro h9; exact absurd h9 (by decide)) | (have w9 := tk_3003; intros; omega), (hF0.symm.trans (hF.trans (by rw [tk_3003]))), rfl⟩ dX5_codeOf_75
  replace hF := hF.trans (if_neg k1_10)
  refine lv_tableOut (tgt := 80) hx hb dX5_codeOf_1 (by omega) (by decide) ?_
  refine lv_iconst (v := (-1)) hx hb dX5_codeOf_80 (by decide) ?_
  exact th_iret hC hH hr hlocks rfl hB.2.1 ⟨_, rfl, by decide, by decide, by first | (intro h9; exact absurd h9 (by decide)) | (have w9 := tk_m1; intros; omega), (hF0.symm.trans (hF.trans (by rw [tk_m1]))), rfl⟩ dX5_codeOf_81

set_option maxHeartbeats 4000000 in
set_option maxRecDepth 100000 in
theorem c_X5_orderCode (l : Launch) (G : th_G) (Γ : th_Ga) (H0 : Heap) (hI : th_I G Γ H0) (hU : dv_U Γ) (p1 : Int32) : Met l yX5_orderCode (.code yX5_orderCode cX5_orderCode 1 (some FieldType.int) :: th_tb) ({ frames := 0, cells := 0, slots := 0, locals := 0 } : Room) (th_P [.int p1] G H0) (th_Q (fun (v : Option Value) (H1 : Heap) => ∃ r : Int32, v = some (.int r) ∧ (-1) ≤ r.toInt ∧ r.toInt ≤ 9999 ∧ (r.toInt ≠ -1 → p1.toInt ≠ -1) ∧ (f_X5_orderCode (dv G Γ H0) p1.toInt = (r.toInt, ())) ∧ H0 = H1) G) 0 0 (fun q => G.2.2 ≤ q) := by
  refine th_met RX5 (by decide) rfl (Nat.le_of_ble_eq_true rfl) ?_
  intro p e s m below meth c hC hH hr hlocks hnm ls hl
  have hx := hC.1
  have hb := hC.2.1
  have hB : th_B G Γ Γ [] H0 H0 [] := ⟨hI, va_S.rf, th_F_rf⟩
  have hl : lv_has ls 1 [(0, .int p1)] := hl
  have lp1 := ti_lo p1; have up1 := ti_hi p1
  obtain ⟨F, hF0⟩ : ∃ F, F = f_X5_orderCode (dv G Γ H0) (p1.toInt) := ⟨_, rfl⟩
  have hF := hF0.trans (f_X5_orderCode.eq_1 (dv G Γ H0) (p1.toInt))
  refine lv_iload_n hx hb dX5_orderCode_0 rfl (lv_at hl 0 rfl) ?_
  refine lv_sipush (v := 323) hx hb dX5_orderCode_1 (by decide) ?_
  have jn24 : ∀ (locs : List Loc) (ls : Array Slot) , th_B G Γ Γ [] H0 H0 locs → lv_has ls 1 [(0, .int p1)] → F = f_X5_orderCode_24 (dv G Γ H0) (p1.toInt) → W p l e ({ frames := 0, cells := 0, slots := 0, locals := 0 } : Room) s m ([.int p1] : List Value).toArray below meth c H0 locs 0 0 (MQ below (th_Q (fun (v : Option Value) (H1 : Heap) => ∃ r : Int32, v = some (.int r) ∧ (-1) ≤ r.toInt ∧ r.toInt ≤ 9999 ∧ (r.toInt ≠ -1 → p1.toInt ≠ -1) ∧ (f_X5_orderCode (dv G Γ H0) p1.toInt = (r.toInt, ())) ∧ H0 = H1) G) ([.int p1] : List Value).toArray s 0 0 (fun q => G.2.2 ≤ q)) (F0 m 24 ls []) := by
    intro locs ls hB hl hF
    replace hF := hF.trans (f_X5_orderCode_24.eq_1 (dv G Γ H0) (p1.toInt))
    refine lv_iload_n hx hb dX5_orderCode_24 rfl (lv_at hl 0 rfl) ?_
    refine lv_sipush (v := 321) hx hb dX5_orderCode_25 (by decide) ?_
    refine tr_icmp_ne (tgt := 37) hx hb dX5_orderCode_28 (by decide) (Eq.refl _) tk_321 (fun c28 => ?_) (fun c28 => ?_)
    · replace hF := hF.trans (if_pos c28)
      refine lv_iload_n hx hb dX5_orderCode_37 rfl (lv_at hl 0 rfl) ?_
      refine lv_sipush (v := 318) hx hb dX5_orderCode_38 (by decide) ?_
      refine tr_icmp_ne (tgt := 50) hx hb dX5_orderCode_41 (by decide) (Eq.refl _) tk_318 (fun c41 => ?_) (fun c41 => ?_)
      · replace hF := hF.trans (if_pos c41)
        refine lv_iload_n hx hb dX5_orderCode_50 rfl (lv_at hl 0 rfl) ?_
        refine lv_sipush (v := 327) hx hb dX5_orderCode_51 (by decide) ?_
        refine tr_icmp_ne (tgt := 63) hx hb dX5_orderCode_54 (by decide) (Eq.refl _) tk_327 (fun c54 => ?_) (fun c54 => ?_)
        · replace hF := hF.trans (if_pos c54)
          refine lv_iconst (v := (-1)) hx hb dX5_orderCode_63 (by decide) ?_
          exact th_iret hC hH hr hlocks rfl hB.2.1 ⟨_, rfl, by decide, by decide, by first | (intro h9; exact absurd h9 (by decide)) | (have w9 := tk_m1; intros; omega), (hF0.symm.trans (hF.trans (by rw [tk_m1]))), rfl⟩ dX5_orderCode_64
        · replace hF := hF.trans (if_neg (not_not_intro c54))
          refine lv_sipush (v := 2014) hx hb dX5_orderCode_57 (by decide) ?_
          refine lv_goto (tgt := 64) hx hb dX5_orderCode_60 (by decide) ?_
          exact th_iret hC hH hr hlocks rfl hB.2.1 ⟨_, rfl, by decide, by decide, by first | (intro h9; exact absurd h9 (by decide)) | (have w9 := tk_2014; intros; omega), (hF0.symm.trans (hF.trans (by rw [tk_2014]))), rfl⟩ dX5_orderCode_64
      · replace hF := hF.trans (if_neg (not_not_intro c41))
        refine lv_sipush (v := 2005) hx hb dX5_orderCode_44 (by decide) ?_
        refine lv_goto (tgt := 64) hx hb dX5_orderCode_47 (by decide) ?_
        exact th_iret hC hH hr hlocks rfl hB.2.1 ⟨_, rfl, by decide, by decide, by first | (intro h9; exact absurd h9 (by decide)) | (have w9 := tk_2005; intros; omega), (hF0.symm.trans (hF.trans (by rw [tk_2005]))), rfl⟩ dX5_orderCode_64
    · replace hF := hF.trans (if_neg (not_not_intro c28))
      refine lv_sipush (v := 2000) hx hb dX5_orderCode_31 (by decide) ?_
      refine lv_goto (tgt := 64) hx hb dX5_orderCode_34 (by decide) ?_
      exact th_iret hC hH hr hlocks rfl hB.2.1 ⟨_, rfl, by decide, by decide, by first | (intro h9; exact absurd h9 (by decide)) | (have w9 := tk_2000; intros; omega), (hF0.symm.trans (hF.trans (by rw [tk_2000]))), rfl⟩ dX5_orderCode_64
  refine tr_icmp_lt (tgt := 24) hx hb dX5_orderCode_4 (by decide) (Eq.refl _) tk_323 (fun c4 => ?_) (fun c4 => ?_)
  · replace hF := hF.trans (if_pos c4)
    exact jn24 [] ls hB (lv_sub hl [0] rfl) hF
  · replace hF := hF.trans (if_neg (Int.not_lt.mpr c4))
    refine lv_iload_n hx hb dX5_orderCode_7 rfl (lv_at hl 0 rfl) ?_
    refine lv_sipush (v := 326) hx hb dX5_orderCode_8 (by decide) ?_
    refine tr_icmp_gt (tgt := 24) hx hb dX5_orderCode_11 (by decide) (Eq.refl _) tk_326 (fun c11 => ?_) (fun c11 => ?_)
    · replace hF := hF.trans (if_pos c11)
      exact jn24 [] ls hB (lv_sub hl [0] rfl) hF
    · replace hF := hF.trans (if_neg (Int.not_lt.mpr c11))
      refine lv_sipush (v := 2001) hx hb dX5_orderCode_14 (by decide) ?_
      refine lv_iload_n hx hb dX5_orderCode_17 rfl (lv_at hl 0 rfl) ?_
      refine tr_iadd hx hb dX5_orderCode_18 tk_2001 (Eq.refl _) (by omega) (by omega) (fun x1 ex1 => ?_)
      replace hF := hF.trans (dv_bn (ex1.symm))
      refine lv_sipush (v := 323) hx hb dX5_orderCode_19 (by decide) ?_
      refine tr_isub hx hb dX5_orderCode_22 (Eq.refl _) tk_323 (by omega) (by omega) (fun x2 ex2 => ?_)
      replace hF := hF.trans (dv_bn (ex2.symm))
      exact th_iret hC hH hr hlocks rfl hB.2.1 ⟨_, rfl, by omega, by omega, by intros; omega, (hF0.symm.trans hF), rfl⟩ dX5_orderCode_23

set_option maxHeartbeats 4000000 in
set_option maxRecDepth 100000 in
theorem c_X5_lawCode (l : Launch) (G : th_G) (Γ : th_Ga) (H0 : Heap) (hI : th_I G Γ H0) (hU : dv_U Γ) (p1 : Int32) : Met l yX5_lawCode (.code yX5_lawCode cX5_lawCode 1 (some FieldType.int) :: th_tb) ({ frames := 0, cells := 0, slots := 0, locals := 0 } : Room) (th_P [.int p1] G H0) (th_Q (fun (v : Option Value) (H1 : Heap) => ∃ r : Int32, v = some (.int r) ∧ (-1) ≤ r.toInt ∧ r.toInt ≤ 9999 ∧ (r.toInt ≠ -1 → p1.toInt ≠ -1) ∧ (f_X5_lawCode (dv G Γ H0) p1.toInt = (r.toInt, ())) ∧ H0 = H1) G) 0 0 (fun q => G.2.2 ≤ q) := by
  refine th_met RX5 (by decide) rfl (Nat.le_of_ble_eq_true rfl) ?_
  intro p e s m below meth c hC hH hr hlocks hnm ls hl
  have hx := hC.1
  have hb := hC.2.1
  have hB : th_B G Γ Γ [] H0 H0 [] := ⟨hI, va_S.rf, th_F_rf⟩
  have hl : lv_has ls 1 [(0, .int p1)] := hl
  have lp1 := ti_lo p1; have up1 := ti_hi p1
  obtain ⟨F, hF0⟩ : ∃ F, F = f_X5_lawCode (dv G Γ H0) (p1.toInt) := ⟨_, rfl⟩
  have hF := hF0.trans (f_X5_lawCode.eq_1 (dv G Γ H0) (p1.toInt))
  refine lv_iload_n hx hb dX5_lawCode_0 rfl (lv_at hl 0 rfl) ?_
  refine lv_sipush (v := 315) hx hb dX5_lawCode_1 (by decide) ?_
  refine tr_icmp_lt (tgt := 26) hx hb dX5_lawCode_4 (by decide) (Eq.refl _) tk_315 (fun c4 => ?_) (fun c4 => ?_)
  · replace hF := hF.trans (if_pos c4)
    refine lv_iconst (v := (-1)) hx hb dX5_lawCode_26 (by decide) ?_
    exact th_iret hC hH hr hlocks rfl hB.2.1 ⟨_, rfl, by decide, by decide, by first | (intro h9; exact absurd h9 (by decide)) | (have w9 := tk_m1; intros; omega), (hF0.symm.trans (hF.trans (by rw [tk_m1]))), rfl⟩ dX5_lawCode_27
  · replace hF := hF.trans (if_neg (Int.not_lt.mpr c4))
    refine lv_iload_n hx hb dX5_lawCode_7 rfl (lv_at hl 0 rfl) ?_
    refine lv_sipush (v := 322) hx hb dX5_lawCode_8 (by decide) ?_
    refine tr_icmp_gt (tgt := 26) hx hb dX5_lawCode_11 (by decide) (Eq.refl _) tk_322 (fun c11 => ?_) (fun c11 => ?_)
    · replace hF := hF.trans (if_pos c11)
      refine lv_iconst (v := (-1)) hx hb dX5_lawCode_26 (by decide) ?_
      exact th_iret hC hH hr hlocks rfl hB.2.1 ⟨_, rfl, by decide, by decide, by first | (intro h9; exact absurd h9 (by decide)) | (have w9 := tk_m1; intros; omega), (hF0.symm.trans (hF.trans (by rw [tk_m1]))), rfl⟩ dX5_lawCode_27
    · replace hF := hF.trans (if_neg (Int.not_lt.mpr c11))
      refine lv_sipush (v := 2000) hx hb dX5_lawCode_14 (by decide) ?_
      refine lv_iload_n hx hb dX5_lawCode_17 rfl (lv_at hl 0 rfl) ?_
      refine tr_iadd hx hb dX5_lawCode_18 tk_2000 (Eq.refl _) (by omega) (by omega) (fun x1 ex1 => ?_)
      replace hF := hF.trans (dv_bn (ex1.symm))
      refine lv_sipush (v := 315) hx hb dX5_lawCode_19 (by decide) ?_
      refine tr_isub hx hb dX5_lawCode_22 (Eq.refl _) tk_315 (by omega) (by omega) (fun x2 ex2 => ?_)
      replace hF := hF.trans (dv_bn (ex2.symm))
      refine lv_goto (tgt := 27) hx hb dX5_lawCode_23 (by decide) ?_
      exact th_iret hC hH hr hlocks rfl hB.2.1 ⟨_, rfl, by omega, by omega, by intros; omega, (hF0.symm.trans hF), rfl⟩ dX5_lawCode_27
