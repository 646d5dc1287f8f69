set_option maxHeartbeats 4000000 in
set_option maxRecDepth 100000 in
theorem c_X1_has (l : Launch) (G : th_G) (Γ : th_Ga) (H0 : Heap) (hI : th_I G Γ H0) (hU : dv_U Γ) (a0 : Nat) (h0 : Γ a0 = (3, 0)) (p1 : Int32) : Met l yX1_has (.code yX1_has cX1_has 2 (some FieldType.boolean) :: th_tb) ({ frames := 0, cells := 0, slots := 0, locals := 0 } : Room) (th_P [.ref a0, .int p1] G H0) (th_Q (fun (v : Option Value) (H1 : Heap) => ∃ r : Int32, v = some (.int r) ∧ 0 ≤ r.toInt ∧ r.toInt ≤ 1 ∧ (r.toInt = 1 → 0 ≤ p1.toInt ∧ p1.toInt ≤ 8) ∧ (f_X1_has (dv G Γ H0) (a0 : Int) p1.toInt = (r.toInt, ())) ∧ H0 = H1) G) 0 0 (fun q => G.2.2 ≤ q) := by
  refine th_met RX1 (by decide) rfl (Nat.le_of_ble_eq_true rfl) ?_
  intro p e s m below meth c hC hH hr hlocks hnm ls hl
  have hx := hC.1
  have hb := hC.2.1
  have hB : th_B G Γ Γ [] H0 H0 [] := ⟨hI, va_S.rf, th_F_rf⟩
  have hl : lv_has ls 2 [(0, .ref a0), (1, .int p1)] := hl
  have lp1 := ti_lo p1; have up1 := ti_hi p1
  obtain ⟨F, hF0⟩ : ∃ F, F = f_X1_has (dv G Γ H0) ((a0 : Int)) (p1.toInt) := ⟨_, rfl⟩
  have hF := hF0.trans (f_X1_has.eq_1 (dv G Γ H0) ((a0 : Int)) (p1.toInt))
  refine lv_iload_n hx hb dX1_has_0 rfl (lv_at hl 1 rfl) ?_
  refine tr_if_lt (tgt := 16) hx hb dX1_has_1 (by decide) (Eq.refl _) (fun c1 => ?_) (fun c1 => ?_)
  · replace hF := hF.trans (if_pos c1)
    refine lv_iconst (v := 0) hx hb dX1_has_16 (by decide) ?_
    exact th_iret hC hH hr hlocks narrow_b0 hB.2.1 ⟨_, rfl, by decide, by decide, by first | (intro h9; exact absurd h9 (by decide)) | (have w9 := tk_0; intros; omega), (hF0.symm.trans (hF.trans (by rw [tk_0]))), rfl⟩ dX1_has_17
  · replace hF := hF.trans (if_neg (Int.not_lt.mpr c1))
    refine lv_iload_n hx hb dX1_has_4 rfl (lv_at hl 1 rfl) ?_
    refine lv_aload_n hx hb dX1_has_5 rfl (lv_at hl 0 rfl) ?_
    refine th_getI (j := 7) hC cf_X1 hB.1 h0 ro_3 rfl rfl kf_X1_33 dX1_has_6 (fun x1 mx1 lx1 ux1 => ?_)
    replace hF := hF.trans (dv_bn (dv_getI h0 ro_3 (j := 7) rfl mx1 (by decide)))
    refine tr_icmp_ge (tgt := 16) hx hb dX1_has_9 (by decide) (Eq.refl _) (Eq.refl _) (fun c9 => ?_) (fun c9 => ?_)
    · replace hF := hF.trans (if_pos c9)
      refine lv_iconst (v := 0) hx hb dX1_has_16 (by decide) ?_
      exact th_iret hC hH hr hlocks narrow_b0 hB.2.1 ⟨_, rfl, by decide, by decide, by first | (intro h9; exact absurd h9 (by decide)) | (have w9 := tk_0; intros; omega), (hF0.symm.trans (hF.trans (by rw [tk_0]))), rfl⟩ dX1_has_17
    · replace hF := hF.trans (if_neg (Int.not_le.mpr c9))
      refine lv_iconst (v := 1) hx hb dX1_has_12 (by decide) ?_
      refine lv_goto (tgt := 17) hx hb dX1_has_13 (by decide) ?_
      exact th_iret hC hH hr hlocks narrow_b1 hB.2.1 ⟨_, rfl, by decide, by decide, by first | (intro h9; exact absurd h9 (by decide)) | (have w9 := tk_1; intros; omega), (hF0.symm.trans (hF.trans (by rw [tk_1]))), rfl⟩ dX1_has_17

set_option maxHeartbeats 4000000 in
set_option maxRecDepth 100000 in
theorem c_X1_isLaid (l : Launch) (G : th_G) (Γ : th_Ga) (H0 : Heap) (hI : th_I G Γ H0) (hU : dv_U Γ) (a0 : Nat) (h0 : Γ a0 = (3, 0)) (p1 : Int32) : Met l yX1_isLaid (.code yX1_isLaid cX1_isLaid 2 (some FieldType.boolean) :: th_tb) ({ frames := 1, cells := 0, slots := 0, locals := 21 } : Room) (th_P [.ref a0, .int p1] G H0) (th_Q (fun (v : Option Value) (H1 : Heap) => ∃ r : Int32, v = some (.int r) ∧ 0 ≤ r.toInt ∧ r.toInt ≤ 1 ∧ (r.toInt = 1 → 0 ≤ p1.toInt ∧ p1.toInt ≤ 8) ∧ (r.toInt = 1 → ∃ (b : Nat) (v : Int32), th_sl H0 a0 (G.1.2 1 3) = .ref b ∧ th_sl H0 b p1.toInt.toNat = .int v ∧ v.toInt ≠ -1) ∧ (f_X1_isLaid (dv G Γ H0) (a0 : Int) p1.toInt = (r.toInt, ())) ∧ H0 = H1) G) 0 0 (fun q => G.2.2 ≤ q) := by
  refine th_met RX1 (by decide) rfl (Nat.le_of_ble_eq_true rfl) ?_
  intro p e s m below meth c hC hH hr hlocks hnm ls hl
  have hx := hC.1
  have hb := hC.2.1
  have hB : th_B G Γ Γ [] H0 H0 [] := ⟨hI, va_S.rf, th_F_rf⟩
  have hl : lv_has ls 2 [(0, .ref a0), (1, .int p1)] := hl
  have lp1 := ti_lo p1; have up1 := ti_hi p1
  obtain ⟨F, hF0⟩ : ∃ F, F = f_X1_isLaid (dv G Γ H0) ((a0 : Int)) (p1.toInt) := ⟨_, rfl⟩
  have hF := hF0.trans (f_X1_isLaid.eq_1 (dv G Γ H0) ((a0 : Int)) (p1.toInt))
  refine lv_aload_n hx hb dX1_isLaid_0 rfl (lv_at hl 0 rfl) ?_
  refine lv_iload_n hx hb dX1_isLaid_1 rfl (lv_at hl 1 rfl) ?_
  refine th_call (th_runV (As := [.int p1]) (rest := []) hC mf_X1_has km_X1_52 im_X1_has se_X1_has (c_X1_has l G Γ H0 hB.1 hU a0 h0 p1) rfl rfl ⟨Nat.le_of_ble_eq_true rfl, Nat.le_of_ble_eq_true rfl⟩ hB.1 h0 ro_3 rfl rfl hl.1 rfl (Nat.le_of_ble_eq_true rfl) dX1_isLaid_2 ⟨Nat.le_refl _, Nat.le_refl _⟩) hB.2.1 (fun v2 H2 locs hp hz hS => ?_)
  obtain ⟨x1, rfl, lx1, ux1, q2_0, q2_1, rfl⟩ := hp
  have hB := th_B_s hB hS
  replace hF := hF.trans (dv_bn2 (q2_1))
  refine W.eq (g2 := F0 m 5 ls [.int x1]) rfl ?_
  refine tr_if_eq (tgt := 22) hx hb dX1_isLaid_5 (by decide) (Eq.refl _) (fun c5 => ?_) (fun c5 => ?_)
  · replace hF := hF.trans (if_pos c5)
    refine lv_iconst (v := 0) hx hb dX1_isLaid_22 (by decide) ?_
    exact th_iret hC hH hr hlocks narrow_b0 hB.2.1 ⟨_, rfl, by decide, by decide, by first | (intro h9; exact absurd h9 (by decide)) | (have w9 := tk_0; intros; omega), by first | (intro h9; exact absurd h9 (by decide)) | (intro _; exact ⟨_, _, mb2, mx3, c15⟩), (hF0.symm.trans (hF.trans (by rw [tk_0]))), rfl⟩ dX1_isLaid_23
  · replace hF := hF.trans (if_neg c5)
    refine lv_aload_n hx hb dX1_isLaid_8 rfl (lv_at hl 0 rfl) ?_
    refine th_getO (j := 3) (r2 := 7) hC cf_X1 hB.1 h0 ro_3 rfl rfl kf_X1_21 dX1_isLaid_9 (fun b2 mb2 hb2 => ?_)
    refine lv_iload_n hx hb dX1_isLaid_12 rfl (lv_at hl 1 rfl) ?_
    refine th_ialdF hC hB.1 hb2 ro_7 rfl (Eq.refl _) (by omega) (by omega) rfl dX1_isLaid_13 (fun x3 mx3 lx3 ux3 => ?_)
    replace hF := hF.trans (dv_bn (dv_aldI hB.1 hU hb2 ow_7 (z := p1.toInt) mx3 (by omega)))
    refine lv_iconst (v := (-1)) hx hb dX1_isLaid_14 (by decide) ?_
    refine tr_icmp_eq (tgt := 22) hx hb dX1_isLaid_15 (by decide) (Eq.refl _) tk_m1 (fun c15 => ?_) (fun c15 => ?_)
    · replace hF := hF.trans (if_pos c15)
      refine lv_iconst (v := 0) hx hb dX1_isLaid_22 (by decide) ?_
      exact th_iret hC hH hr hlocks narrow_b0 hB.2.1 ⟨_, rfl, by decide, by decide, by first | (intro h9; exact absurd h9 (by decide)) | (have w9 := tk_0; intros; omega), by first | (intro h9; exact absurd h9 (by decide)) | (intro _; exact ⟨_, _, mb2, mx3, c15⟩), (hF0.symm.trans (hF.trans (by rw [tk_0]))), rfl⟩ dX1_isLaid_23
    · replace hF := hF.trans (if_neg c15)
      refine lv_iconst (v := 1) hx hb dX1_isLaid_18 (by decide) ?_
      refine lv_goto (tgt := 23) hx hb dX1_isLaid_19 (by decide) ?_
      exact th_iret hC hH hr hlocks narrow_b1 hB.2.1 ⟨_, rfl, by decide, by decide, by first | (intro h9; exact absurd h9 (by decide)) | (have w9 := tk_1; intros; omega), by first | (intro h9; exact absurd h9 (by decide)) | (intro _; exact ⟨_, _, mb2, mx3, c15⟩), (hF0.symm.trans (hF.trans (by rw [tk_1]))), rfl⟩ dX1_isLaid_23

set_option maxHeartbeats 4000000 in
set_option maxRecDepth 100000 in
theorem c_X1_isReady (l : Launch) (G : th_G) (Γ : th_Ga) (H0 : Heap) (hI : th_I G Γ H0) (hU : dv_U Γ) (a0 : Nat) (h0 : Γ a0 = (3, 0)) (p1 : Int32) : Met l yX1_isReady (.code yX1_isReady cX1_isReady 2 (some FieldType.boolean) :: th_tb) ({ frames := 1, cells := 0, slots := 0, locals := 21 } : Room) (th_P [.ref a0, .int p1] G H0) (th_Q (fun (v : Option Value) (H1 : Heap) => ∃ r : Int32, v = some (.int r) ∧ 0 ≤ r.toInt ∧ r.toInt ≤ 1 ∧ (r.toInt = 1 → 0 ≤ p1.toInt ∧ p1.toInt ≤ 8) ∧ (f_X1_isReady (dv G Γ H0) (a0 : Int) p1.toInt = (r.toInt, ())) ∧ H0 = H1) G) 0 0 (fun q => G.2.2 ≤ q) := by
  refine th_met RX1 (by decide) rfl (Nat.le_of_ble_eq_true rfl) ?_
  intro p e s m below meth c hC hH hr hlocks hnm ls hl
  have hx := hC.1
  have hb := hC.2.1
  have hB : th_B G Γ Γ [] H0 H0 [] := ⟨hI, va_S.rf, th_F_rf⟩
  have hl : lv_has ls 2 [(0, .ref a0), (1, .int p1)] := hl
  have lp1 := ti_lo p1; have up1 := ti_hi p1
  obtain ⟨F, hF0⟩ : ∃ F, F = f_X1_isReady (dv G Γ H0) ((a0 : Int)) (p1.toInt) := ⟨_, rfl⟩
  have hF := hF0.trans (f_X1_isReady.eq_1 (dv G Γ H0) ((a0 : Int)) (p1.toInt))
  refine lv_aload_n hx hb dX1_isReady_0 rfl (lv_at hl 0 rfl) ?_
  refine lv_iload_n hx hb dX1_isReady_1 rfl (lv_at hl 1 rfl) ?_
  refine th_call (th_runV (As := [.int p1]) (rest := []) hC mf_X1_has km_X1_52 im_X1_has se_X1_has (c_X1_has l G Γ H0 hB.1 hU a0 h0 p1) rfl rfl ⟨Nat.le_of_ble_eq_true rfl, Nat.le_of_ble_eq_true rfl⟩ hB.1 h0 ro_3 rfl rfl hl.1 rfl (Nat.le_of_ble_eq_true rfl) dX1_isReady_2 ⟨Nat.le_refl _, Nat.le_refl _⟩) hB.2.1 (fun v2 H2 locs hp hz hS => ?_)
  obtain ⟨x1, rfl, lx1, ux1, q2_0, q2_1, rfl⟩ := hp
  have hB := th_B_s hB hS
  replace hF := hF.trans (dv_bn2 (q2_1))
  refine W.eq (g2 := F0 m 5 ls [.int x1]) rfl ?_
  refine tr_if_eq (tgt := 31) hx hb dX1_isReady_5 (by decide) (Eq.refl _) (fun c5 => ?_) (fun c5 => ?_)
  · replace hF := hF.trans (if_pos c5)
    refine lv_iconst (v := 0) hx hb dX1_isReady_31 (by decide) ?_
    exact th_iret hC hH hr hlocks narrow_b0 hB.2.1 ⟨_, rfl, by decide, by decide, by first | (intro h9; exact absurd h9 (by decide)) | (have w9 := tk_0; intros; omega), (hF0.symm.trans (hF.trans (by rw [tk_0]))), rfl⟩ dX1_isReady_32
  · replace hF := hF.trans (if_neg c5)
    refine lv_aload_n hx hb dX1_isReady_8 rfl (lv_at hl 0 rfl) ?_
    refine th_getO (j := 3) (r2 := 7) hC cf_X1 hB.1 h0 ro_3 rfl rfl kf_X1_21 dX1_isReady_9 (fun b2 mb2 hb2 => ?_)
    refine lv_iload_n hx hb dX1_isReady_12 rfl (lv_at hl 1 rfl) ?_
    refine th_ialdF hC hB.1 hb2 ro_7 rfl (Eq.refl _) (by omega) (by omega) rfl dX1_isReady_13 (fun x3 mx3 lx3 ux3 => ?_)
    replace hF := hF.trans (dv_bn (dv_aldI hB.1 hU hb2 ow_7 (z := p1.toInt) mx3 (by omega)))
    refine lv_iconst (v := (-1)) hx hb dX1_isReady_14 (by decide) ?_
    refine tr_icmp_ne (tgt := 31) hx hb dX1_isReady_15 (by decide) (Eq.refl _) tk_m1 (fun c15 => ?_) (fun c15 => ?_)
    · replace hF := hF.trans (if_pos c15)
      refine lv_iconst (v := 0) hx hb dX1_isReady_31 (by decide) ?_
      exact th_iret hC hH hr hlocks narrow_b0 hB.2.1 ⟨_, rfl, by decide, by decide, by first | (intro h9; exact absurd h9 (by decide)) | (have w9 := tk_0; intros; omega), (hF0.symm.trans (hF.trans (by rw [tk_0]))), rfl⟩ dX1_isReady_32
    · replace hF := hF.trans (if_neg (not_not_intro c15))
      refine lv_aload_n hx hb dX1_isReady_18 rfl (lv_at hl 0 rfl) ?_
      refine th_getO (j := 2) (r2 := 6) hC cf_X1 hB.1 h0 ro_3 rfl rfl kf_X1_18 dX1_isReady_19 (fun b4 mb4 hb4 => ?_)
      refine lv_iload_n hx hb dX1_isReady_22 rfl (lv_at hl 1 rfl) ?_
      refine th_ialdF hC hB.1 hb4 ro_6 rfl (Eq.refl _) (by omega) (by omega) rfl dX1_isReady_23 (fun x5 mx5 lx5 ux5 => ?_)
      replace hF := hF.trans (dv_bn (dv_aldI hB.1 hU hb4 ow_6 (z := p1.toInt) mx5 (by omega)))
      refine tr_if_le (tgt := 31) hx hb dX1_isReady_24 (by decide) (Eq.refl _) (fun c24 => ?_) (fun c24 => ?_)
      · replace hF := hF.trans (if_pos c24)
        refine lv_iconst (v := 0) hx hb dX1_isReady_31 (by decide) ?_
        exact th_iret hC hH hr hlocks narrow_b0 hB.2.1 ⟨_, rfl, by decide, by decide, by first | (intro h9; exact absurd h9 (by decide)) | (have w9 := tk_0; intros; omega), (hF0.symm.trans (hF.trans (by rw [tk_0]))), rfl⟩ dX1_isReady_32
      · replace hF := hF.trans (if_neg (Int.not_le.mpr c24))
        refine lv_iconst (v := 1) hx hb dX1_isReady_27 (by decide) ?_
        refine lv_goto (tgt := 32) hx hb dX1_isReady_28 (by decide) ?_
        exact th_iret hC hH hr hlocks narrow_b1 hB.2.1 ⟨_, rfl, by decide, by decide, by first | (intro h9; exact absurd h9 (by decide)) | (have w9 := tk_1; intros; omega), (hF0.symm.trans (hF.trans (by rw [tk_1]))), rfl⟩ dX1_isReady_32

set_option maxHeartbeats 4000000 in
set_option maxRecDepth 100000 in
theorem c_X1_laidCarpets (l : Launch) (G : th_G) (Γ : th_Ga) (H0 : Heap) (hI : th_I G Γ H0) (hU : dv_U Γ) (a0 : Nat) (h0 : Γ a0 = (3, 0)) : Met l yX1_laidCarpets (.code yX1_laidCarpets cX1_laidCarpets 3 (some FieldType.int) :: th_tb) ({ frames := 2, cells := 0, slots := 0, locals := 42 } : Room) (th_P [.ref a0] G H0) (th_Q (fun (v : Option Value) (H1 : Heap) => ∃ r : Int32, v = some (.int r) ∧ (f_X1_laidCarpets (dv G Γ H0) (a0 : Int) = (r.toInt, ())) ∧ H0 = H1) G) 0 0 (fun q => G.2.2 ≤ q) := by
  refine th_met RX1 (by decide) rfl (Nat.le_of_ble_eq_true rfl) ?_
  intro p e s m below meth c hC hH hr hlocks hnm ls hl
  have hx := hC.1
  have hb := hC.2.1
  have hB : th_B G Γ Γ [] H0 H0 [] := ⟨hI, va_S.rf, th_F_rf⟩
  have hl : lv_has ls 3 [(0, .ref a0)] := hl
  obtain ⟨F, hF0⟩ : ∃ F, F = f_X1_laidCarpets (dv G Γ H0) ((a0 : Int)) := ⟨_, rfl⟩
  have hF := hF0.trans (f_X1_laidCarpets.eq_1 (dv G Γ H0) ((a0 : Int)))
  refine lv_iconst (v := 0) hx hb dX1_laidCarpets_0 (by decide) ?_
  refine lv_istore_n (lv' := [(1, .int 0), (0, .ref a0)]) hx hb dX1_laidCarpets_1 rfl hl (by decide) rfl (fun ls hl => ?_)
  refine lv_iconst (v := 0) hx hb dX1_laidCarpets_2 (by decide) ?_
  refine lv_istore_n (lv' := [(2, .int 0), (1, .int 0), (0, .ref a0)]) hx hb dX1_laidCarpets_3 rfl hl (by decide) rfl (fun ls hl => ?_)
  have lp4 : ∀ (n4 : Nat) (locs : List Loc) (ls : Array Slot) (j4_1 : Int32) (j4_2 : Int32), th_B G Γ Γ [] H0 H0 locs → lv_has ls 3 [(0, .ref a0), (1, .int j4_1), (2, .int j4_2)] → F = dv_lp f_X1_laidCarpets_4b (dv G Γ H0, (a0 : Int), j4_1.toInt, j4_2.toInt) → 0 ≤ j4_2.toInt → j4_2.toInt ≤ 9 → (2147483648 : Int) - j4_2.toInt ≤ (n4 : Int) → W p l e ({ frames := 2, cells := 0, slots := 0, locals := 42 } : Room) s m ([.ref a0] : List Value).toArray below meth c H0 locs 0 0 (MQ below (th_Q (fun (v : Option Value) (H1 : Heap) => ∃ r : Int32, v = some (.int r) ∧ (f_X1_laidCarpets (dv G Γ H0) (a0 : Int) = (r.toInt, ())) ∧ H0 = H1) G) ([.ref a0] : List Value).toArray s 0 0 (fun q => G.2.2 ≤ q)) (F0 m 4 ls []) := by
    intro n4
    induction n4 with
    | zero => intro locs ls j4_1 j4_2 hB hl hF g4_0 g4_1 hm4; exact absurd hm4 (by have := ti_hi j4_2; omega)
    | succ n4 ih4 =>
      intro locs ls j4_1 j4_2 hB hl hF g4_0 g4_1 hm4
      have lj4_1 := ti_lo j4_1; have uj4_1 := ti_hi j4_1
      have lj4_2 := ti_lo j4_2; have uj4_2 := ti_hi j4_2
      have hm4 : (2147483648 : Int) - j4_2.toInt ≤ (n4 : Int) + 1 := by omega
      replace hF := hF.trans (dv_lp_eq)
      replace hF := hF.trans (congrArg (dv_k f_X1_laidCarpets_4b) (f_X1_laidCarpets_4c.eq_1 (dv G Γ H0) ((a0 : Int)) (j4_1.toInt) (j4_2.toInt)))
      refine lv_iload_n hx hb dX1_laidCarpets_4 rfl (lv_at hl 2 rfl) ?_
      refine lv_aload_n hx hb dX1_laidCarpets_5 rfl (lv_at hl 0 rfl) ?_
      refine th_getI (j := 7) hC cf_X1 hB.1 h0 ro_3 rfl rfl kf_X1_33 dX1_laidCarpets_6 (fun x1 mx1 lx1 ux1 => ?_)
      replace hF := hF.trans (congrArg (dv_k f_X1_laidCarpets_4b) (dv_bn (dv_getI h0 ro_3 (j := 7) rfl mx1 (by decide))))
      refine tr_icmp_ge (tgt := 34) hx hb dX1_laidCarpets_9 (by decide) (Eq.refl _) (Eq.refl _) (fun c9 => ?_) (fun c9 => ?_)
      · replace hF := hF.trans (congrArg (dv_k f_X1_laidCarpets_4b) (if_pos c9))
        refine lv_iload_n hx hb dX1_laidCarpets_34 rfl (lv_at hl 1 rfl) ?_
        replace hF := hF.trans (dv_kr)
        exact th_iret hC hH hr hlocks rfl hB.2.1 ⟨_, rfl, (hF0.symm.trans hF), rfl⟩ dX1_laidCarpets_35
      · replace hF := hF.trans (congrArg (dv_k f_X1_laidCarpets_4b) (if_neg (Int.not_le.mpr c9)))
        refine lv_iload_n hx hb dX1_laidCarpets_12 rfl (lv_at hl 1 rfl) ?_
        refine lv_aload_n hx hb dX1_laidCarpets_13 rfl (lv_at hl 0 rfl) ?_
        refine lv_iload_n hx hb dX1_laidCarpets_14 rfl (lv_at hl 2 rfl) ?_
        refine th_call (th_runV (As := [.int j4_2]) (rest := [.int j4_1]) hC mf_X1_isLaid km_X1_56 im_X1_isLaid se_X1_isLaid (c_X1_isLaid l G Γ H0 hB.1 hU a0 h0 j4_2) rfl rfl ⟨Nat.le_of_ble_eq_true rfl, Nat.le_of_ble_eq_true rfl⟩ hB.1 h0 ro_3 rfl rfl hl.1 rfl (Nat.le_of_ble_eq_true rfl) dX1_laidCarpets_15 ⟨Nat.le_refl _, Nat.le_refl _⟩) hB.2.1 (fun v15 H15 locs hp hz hS => ?_)
        obtain ⟨x2, rfl, lx2, ux2, q15_0, q15_1, q15_2, rfl⟩ := hp
        have hB := th_B_s hB hS
        replace hF := hF.trans (congrArg (dv_k f_X1_laidCarpets_4b) (dv_bn2 (q15_2)))
        refine W.eq (g2 := F0 m 18 ls [.int x2, .int j4_1]) rfl ?_
        have jn26 : ∀ (locs : List Loc) (ls : Array Slot) (s26_1 : Int32), th_B G Γ Γ [] H0 H0 locs → lv_has ls 3 [(0, .ref a0), (2, .int j4_2)] → F = dv_k f_X1_laidCarpets_4b (f_X1_laidCarpets_26 (dv G Γ H0) ((a0 : Int)) (j4_2.toInt) (j4_1.toInt) (s26_1.toInt)) → 0 ≤ s26_1.toInt → s26_1.toInt ≤ 1 → W p l e ({ frames := 2, cells := 0, slots := 0, locals := 42 } : Room) s m ([.ref a0] : List Value).toArray below meth c H0 locs 0 0 (MQ below (th_Q (fun (v : Option Value) (H1 : Heap) => ∃ r : Int32, v = some (.int r) ∧ (f_X1_laidCarpets (dv G Γ H0) (a0 : Int) = (r.toInt, ())) ∧ H0 = H1) G) ([.ref a0] : List Value).toArray s 0 0 (fun q => G.2.2 ≤ q)) (F0 m 26 ls [.int s26_1, .int j4_1]) := by
          intro locs ls s26_1 hB hl hF g26_0 g26_1
          have ls26_1 := ti_lo s26_1; have us26_1 := ti_hi s26_1
          replace hF := hF.trans (congrArg (dv_k f_X1_laidCarpets_4b) (f_X1_laidCarpets_26.eq_1 (dv G Γ H0) ((a0 : Int)) (j4_2.toInt) (j4_1.toInt) (s26_1.toInt)))
          refine lv_iadd hx hb dX1_laidCarpets_26 ?_
          refine lv_topi (fun x3 ex3 => ?_)
          have lx3 := ti_lo x3; have ux3 := ti_hi x3
          replace hF := hF.trans (congrArg (dv_k f_X1_laidCarpets_4b) (dv_bn (dv_add_e (Eq.refl _) (Eq.refl _) ex3)))
          refine lv_istore_n (lv' := [(1, .int x3), (0, .ref a0), (2, .int j4_2)]) hx hb dX1_laidCarpets_27 rfl hl (by decide) rfl (fun ls hl => ?_)
          refine tr_iinc (fun x4 => [(2, .int x4), (1, .int x3), (0, .ref a0)]) hx hb dX1_laidCarpets_28 hl (k := 2) rfl (Eq.refl _) tk_1 (by omega) (by omega) (by decide) (fun _ => rfl) (fun x4 ls ex4 hl => ?_)
          replace hF := hF.trans (congrArg (dv_k f_X1_laidCarpets_4b) (dv_bn (ex4.symm)))
          refine lv_goto (tgt := 4) hx hb dX1_laidCarpets_31 (by decide) ?_
          replace hF := hF.trans (dv_kl)
          exact ih4 locs ls x3 x4 hB (lv_sub hl [2, 1, 0] rfl) hF (by omega) (by omega) (by omega)
        refine tr_if_eq (tgt := 25) hx hb dX1_laidCarpets_18 (by decide) (Eq.refl _) (fun c18 => ?_) (fun c18 => ?_)
        · replace hF := hF.trans (congrArg (dv_k f_X1_laidCarpets_4b) (if_pos c18))
          refine lv_iconst (v := 0) hx hb dX1_laidCarpets_25 (by decide) ?_
          exact jn26 locs ls 0 hB (lv_sub hl [0, 2] rfl) (by rw [tk_0]; exact hF) (by decide) (by decide)
        · replace hF := hF.trans (congrArg (dv_k f_X1_laidCarpets_4b) (if_neg c18))
          refine lv_iconst (v := 1) hx hb dX1_laidCarpets_21 (by decide) ?_
          refine lv_goto (tgt := 26) hx hb dX1_laidCarpets_22 (by decide) ?_
          exact jn26 locs ls 1 hB (lv_sub hl [0, 2] rfl) (by rw [tk_1]; exact hF) (by decide) (by decide)
  exact lp4 ((2147483648 : Int) - (0)).toNat [] ls 0 0 hB (lv_sub hl [2, 1, 0] rfl) (by rw [tk_0]; exact hF) (by decide) (by decide) (by have w0 := tk_0; omega)

set_option maxHeartbeats 4000000 in
set_option maxRecDepth 100000 in
theorem c_X1_rags (l : Launch) (G : th_G) (Γ : th_Ga) (H0 : Heap) (hI : th_I G Γ H0) (hU : dv_U Γ) (a0 : Nat) (h0 : Γ a0 = (3, 0)) : Met l yX1_rags (.code yX1_rags cX1_rags 3 (some FieldType.int) :: th_tb) ({ frames := 0, cells := 0, slots := 0, locals := 0 } : Room) (th_P [.ref a0] G H0) (th_Q (fun (v : Option Value) (H1 : Heap) => ∃ r : Int32, v = some (.int r) ∧ (f_X1_rags (dv G Γ H0) (a0 : Int) = (r.toInt, ())) ∧ H0 = H1) G) 0 0 (fun q => G.2.2 ≤ q) := by
  refine th_met RX1 (by decide) rfl (Nat.le_of_ble_eq_true rfl) ?_
  intro p e s m below meth c hC hH hr hlocks hnm ls hl
  have hx := hC.1
  have hb := hC.2.1
  have hB : th_B G Γ Γ [] H0 H0 [] := ⟨hI, va_S.rf, th_F_rf⟩
  have hl : lv_has ls 3 [(0, .ref a0)] := hl
  obtain ⟨F, hF0⟩ : ∃ F, F = f_X1_rags (dv G Γ H0) ((a0 : Int)) := ⟨_, rfl⟩
  have hF := hF0.trans (f_X1_rags.eq_1 (dv G Γ H0) ((a0 : Int)))
  refine lv_iconst (v := 0) hx hb dX1_rags_0 (by decide) ?_
  refine lv_istore_n (lv' := [(1, .int 0), (0, .ref a0)]) hx hb dX1_rags_1 rfl hl (by decide) rfl (fun ls hl => ?_)
  refine lv_iconst (v := 0) hx hb dX1_rags_2 (by decide) ?_
  refine lv_istore_n (lv' := [(2, .int 0), (1, .int 0), (0, .ref a0)]) hx hb dX1_rags_3 rfl hl (by decide) rfl (fun ls hl => ?_)
  have lp4 : ∀ (n4 : Nat) (locs : List Loc) (ls : Array Slot) (j4_1 : Int32) (j4_2 : Int32), th_B G Γ Γ [] H0 H0 locs → lv_has ls 3 [(0, .ref a0), (1, .int j4_1), (2, .int j4_2)] → F = dv_lp f_X1_rags_4b (dv G Γ H0, (a0 : Int), j4_1.toInt, j4_2.toInt) → 0 ≤ j4_2.toInt → j4_2.toInt ≤ 9 → (2147483648 : Int) - j4_2.toInt ≤ (n4 : Int) → W p l e ({ frames := 0, cells := 0, slots := 0, locals := 0 } : Room) s m ([.ref a0] : List Value).toArray below meth c H0 locs 0 0 (MQ below (th_Q (fun (v : Option Value) (H1 : Heap) => ∃ r : Int32, v = some (.int r) ∧ (f_X1_rags (dv G Γ H0) (a0 : Int) = (r.toInt, ())) ∧ H0 = H1) G) ([.ref a0] : List Value).toArray s 0 0 (fun q => G.2.2 ≤ q)) (F0 m 4 ls []) := by
    intro n4
    induction n4 with
    | zero => intro locs ls j4_1 j4_2 hB hl hF g4_0 g4_1 hm4; exact absurd hm4 (by have := ti_hi j4_2; omega)
    | succ n4 ih4 =>
      intro locs ls j4_1 j4_2 hB hl hF g4_0 g4_1 hm4
      have lj4_1 := ti_lo j4_1; have uj4_1 := ti_hi j4_1
      have lj4_2 := ti_lo j4_2; have uj4_2 := ti_hi j4_2
      have hm4 : (2147483648 : Int) - j4_2.toInt ≤ (n4 : Int) + 1 := by omega
      replace hF := hF.trans (dv_lp_eq)
      replace hF := hF.trans (congrArg (dv_k f_X1_rags_4b) (f_X1_rags_4c.eq_1 (dv G Γ H0) ((a0 : Int)) (j4_1.toInt) (j4_2.toInt)))
      refine lv_iload_n hx hb dX1_rags_4 rfl (lv_at hl 2 rfl) ?_
      refine lv_aload_n hx hb dX1_rags_5 rfl (lv_at hl 0 rfl) ?_
      refine th_getI (j := 7) hC cf_X1 hB.1 h0 ro_3 rfl rfl kf_X1_33 dX1_rags_6 (fun x1 mx1 lx1 ux1 => ?_)
      replace hF := hF.trans (congrArg (dv_k f_X1_rags_4b) (dv_bn (dv_getI h0 ro_3 (j := 7) rfl mx1 (by decide))))
      refine tr_icmp_ge (tgt := 35) hx hb dX1_rags_9 (by decide) (Eq.refl _) (Eq.refl _) (fun c9 => ?_) (fun c9 => ?_)
      · replace hF := hF.trans (congrArg (dv_k f_X1_rags_4b) (if_pos c9))
        refine lv_iload_n hx hb dX1_rags_35 rfl (lv_at hl 1 rfl) ?_
        replace hF := hF.trans (dv_kr)
        exact th_iret hC hH hr hlocks rfl hB.2.1 ⟨_, rfl, (hF0.symm.trans hF), rfl⟩ dX1_rags_36
      · replace hF := hF.trans (congrArg (dv_k f_X1_rags_4b) (if_neg (Int.not_le.mpr c9)))
        refine lv_iload_n hx hb dX1_rags_12 rfl (lv_at hl 1 rfl) ?_
        refine lv_aload_n hx hb dX1_rags_13 rfl (lv_at hl 0 rfl) ?_
        refine th_getO (j := 2) (r2 := 6) hC cf_X1 hB.1 h0 ro_3 rfl rfl kf_X1_18 dX1_rags_14 (fun b2 mb2 hb2 => ?_)
        refine lv_iload_n hx hb dX1_rags_17 rfl (lv_at hl 2 rfl) ?_
        refine th_ialdF hC hB.1 hb2 ro_6 rfl (Eq.refl _) (by omega) (by omega) rfl dX1_rags_18 (fun x3 mx3 lx3 ux3 => ?_)
        replace hF := hF.trans (congrArg (dv_k f_X1_rags_4b) (dv_bn (dv_aldI hB.1 hU hb2 ow_6 (z := j4_2.toInt) mx3 (by omega))))
        have jn27 : ∀ (locs : List Loc) (ls : Array Slot) (s27_1 : Int32), th_B G Γ Γ [] H0 H0 locs → lv_has ls 3 [(0, .ref a0), (2, .int j4_2)] → F = dv_k f_X1_rags_4b (f_X1_rags_27 (dv G Γ H0) ((a0 : Int)) (j4_2.toInt) (j4_1.toInt) (s27_1.toInt)) → 0 ≤ s27_1.toInt → s27_1.toInt ≤ 1 → W p l e ({ frames := 0, cells := 0, slots := 0, locals := 0 } : Room) s m ([.ref a0] : List Value).toArray below meth c H0 locs 0 0 (MQ below (th_Q (fun (v : Option Value) (H1 : Heap) => ∃ r : Int32, v = some (.int r) ∧ (f_X1_rags (dv G Γ H0) (a0 : Int) = (r.toInt, ())) ∧ H0 = H1) G) ([.ref a0] : List Value).toArray s 0 0 (fun q => G.2.2 ≤ q)) (F0 m 27 ls [.int s27_1, .int j4_1]) := by
          intro locs ls s27_1 hB hl hF g27_0 g27_1
          have ls27_1 := ti_lo s27_1; have us27_1 := ti_hi s27_1
          replace hF := hF.trans (congrArg (dv_k f_X1_rags_4b) (f_X1_rags_27.eq_1 (dv G Γ H0) ((a0 : Int)) (j4_2.toInt) (j4_1.toInt) (s27_1.toInt)))
          refine lv_iadd hx hb dX1_rags_27 ?_
          refine lv_topi (fun x4 ex4 => ?_)
          have lx4 := ti_lo x4; have ux4 := ti_hi x4
          replace hF := hF.trans (congrArg (dv_k f_X1_rags_4b) (dv_bn (dv_add_e (Eq.refl _) (Eq.refl _) ex4)))
          refine lv_istore_n (lv' := [(1, .int x4), (0, .ref a0), (2, .int j4_2)]) hx hb dX1_rags_28 rfl hl (by decide) rfl (fun ls hl => ?_)
          refine tr_iinc (fun x5 => [(2, .int x5), (1, .int x4), (0, .ref a0)]) hx hb dX1_rags_29 hl (k := 2) rfl (Eq.refl _) tk_1 (by omega) (by omega) (by decide) (fun _ => rfl) (fun x5 ls ex5 hl => ?_)
          replace hF := hF.trans (congrArg (dv_k f_X1_rags_4b) (dv_bn (ex5.symm)))
          refine lv_goto (tgt := 4) hx hb dX1_rags_32 (by decide) ?_
          replace hF := hF.trans (dv_kl)
          exact ih4 locs ls x4 x5 hB (lv_sub hl [2, 1, 0] rfl) hF (by omega) (by omega) (by omega)
        refine tr_if_ne (tgt := 26) hx hb dX1_rags_19 (by decide) (Eq.refl _) (fun c19 => ?_) (fun c19 => ?_)
        · replace hF := hF.trans (congrArg (dv_k f_X1_rags_4b) (if_pos c19))
          refine lv_iconst (v := 0) hx hb dX1_rags_26 (by decide) ?_
          exact jn27 locs ls 0 hB (lv_sub hl [0, 2] rfl) (by rw [tk_0]; exact hF) (by decide) (by decide)
        · replace hF := hF.trans (congrArg (dv_k f_X1_rags_4b) (if_neg (not_not_intro c19)))
          refine lv_iconst (v := 1) hx hb dX1_rags_22 (by decide) ?_
          refine lv_goto (tgt := 27) hx hb dX1_rags_23 (by decide) ?_
          exact jn27 locs ls 1 hB (lv_sub hl [0, 2] rfl) (by rw [tk_1]; exact hF) (by decide) (by decide)
  exact lp4 ((2147483648 : Int) - (0)).toNat [] ls 0 0 hB (lv_sub hl [2, 1, 0] rfl) (by rw [tk_0]; exact hF) (by decide) (by decide) (by have w0 := tk_0; omega)

set_option maxHeartbeats 4000000 in
set_option maxRecDepth 100000 in
theorem c_X1_areaWithoutRags (l : Launch) (G : th_G) (Γ : th_Ga) (H0 : Heap) (hI : th_I G Γ H0) (hU : dv_U Γ) (a0 : Nat) (h0 : Γ a0 = (3, 0)) : Met l yX1_areaWithoutRags (.code yX1_areaWithoutRags cX1_areaWithoutRags 3 (some FieldType.int) :: th_tb) ({ frames := 0, cells := 0, slots := 0, locals := 0 } : Room) (th_P [.ref a0] G H0) (th_Q (fun (v : Option Value) (H1 : Heap) => ∃ r : Int32, v = some (.int r) ∧ (f_X1_areaWithoutRags (dv G Γ H0) (a0 : Int) = (r.toInt, ())) ∧ H0 = H1) G) 0 0 (fun q => G.2.2 ≤ q) := by
  refine th_met RX1 (by decide) rfl (Nat.le_of_ble_eq_true rfl) ?_
  intro p e s m below meth c hC hH hr hlocks hnm ls hl
  have hx := hC.1
  have hb := hC.2.1
  have hB : th_B G Γ Γ [] H0 H0 [] := ⟨hI, va_S.rf, th_F_rf⟩
  have hl : lv_has ls 3 [(0, .ref a0)] := hl
  obtain ⟨F, hF0⟩ : ∃ F, F = f_X1_areaWithoutRags (dv G Γ H0) ((a0 : Int)) := ⟨_, rfl⟩
  have hF := hF0.trans (f_X1_areaWithoutRags.eq_1 (dv G Γ H0) ((a0 : Int)))
  refine lv_iconst (v := 0) hx hb dX1_areaWithoutRags_0 (by decide) ?_
  refine lv_istore_n (lv' := [(1, .int 0), (0, .ref a0)]) hx hb dX1_areaWithoutRags_1 rfl hl (by decide) rfl (fun ls hl => ?_)
  refine lv_iconst (v := 0) hx hb dX1_areaWithoutRags_2 (by decide) ?_
  refine lv_istore_n (lv' := [(2, .int 0), (1, .int 0), (0, .ref a0)]) hx hb dX1_areaWithoutRags_3 rfl hl (by decide) rfl (fun ls hl => ?_)
  have lp4 : ∀ (n4 : Nat) (locs : List Loc) (ls : Array Slot) (j4_1 : Int32) (j4_2 : Int32), th_B G Γ Γ [] H0 H0 locs → lv_has ls 3 [(0, .ref a0), (1, .int j4_1), (2, .int j4_2)] → F = dv_lp f_X1_areaWithoutRags_4b (dv G Γ H0, (a0 : Int), j4_1.toInt, j4_2.toInt) → 0 ≤ j4_2.toInt → j4_2.toInt ≤ 9 → (2147483648 : Int) - j4_2.toInt ≤ (n4 : Int) → W p l e ({ frames := 0, cells := 0, slots := 0, locals := 0 } : Room) s m ([.ref a0] : List Value).toArray below meth c H0 locs 0 0 (MQ below (th_Q (fun (v : Option Value) (H1 : Heap) => ∃ r : Int32, v = some (.int r) ∧ (f_X1_areaWithoutRags (dv G Γ H0) (a0 : Int) = (r.toInt, ())) ∧ H0 = H1) G) ([.ref a0] : List Value).toArray s 0 0 (fun q => G.2.2 ≤ q)) (F0 m 4 ls []) := by
    intro n4
    induction n4 with
    | zero => intro locs ls j4_1 j4_2 hB hl hF g4_0 g4_1 hm4; exact absurd hm4 (by have := ti_hi j4_2; omega)
    | succ n4 ih4 =>
      intro locs ls j4_1 j4_2 hB hl hF g4_0 g4_1 hm4
      have lj4_1 := ti_lo j4_1; have uj4_1 := ti_hi j4_1
      have lj4_2 := ti_lo j4_2; have uj4_2 := ti_hi j4_2
      have hm4 : (2147483648 : Int) - j4_2.toInt ≤ (n4 : Int) + 1 := by omega
      replace hF := hF.trans (dv_lp_eq)
      replace hF := hF.trans (congrArg (dv_k f_X1_areaWithoutRags_4b) (f_X1_areaWithoutRags_4c.eq_1 (dv G Γ H0) ((a0 : Int)) (j4_1.toInt) (j4_2.toInt)))
      refine lv_iload_n hx hb dX1_areaWithoutRags_4 rfl (lv_at hl 2 rfl) ?_
      refine lv_aload_n hx hb dX1_areaWithoutRags_5 rfl (lv_at hl 0 rfl) ?_
      refine th_getI (j := 7) hC cf_X1 hB.1 h0 ro_3 rfl rfl kf_X1_33 dX1_areaWithoutRags_6 (fun x1 mx1 lx1 ux1 => ?_)
      replace hF := hF.trans (congrArg (dv_k f_X1_areaWithoutRags_4b) (dv_bn (dv_getI h0 ro_3 (j := 7) rfl mx1 (by decide))))
      refine tr_icmp_ge (tgt := 47) hx hb dX1_areaWithoutRags_9 (by decide) (Eq.refl _) (Eq.refl _) (fun c9 => ?_) (fun c9 => ?_)
      · replace hF := hF.trans (congrArg (dv_k f_X1_areaWithoutRags_4b) (if_pos c9))
        refine lv_iload_n hx hb dX1_areaWithoutRags_47 rfl (lv_at hl 1 rfl) ?_
        replace hF := hF.trans (dv_kr)
        exact th_iret hC hH hr hlocks rfl hB.2.1 ⟨_, rfl, (hF0.symm.trans hF), rfl⟩ dX1_areaWithoutRags_48
      · replace hF := hF.trans (congrArg (dv_k f_X1_areaWithoutRags_4b) (if_neg (Int.not_le.mpr c9)))
        refine lv_iload_n hx hb dX1_areaWithoutRags_12 rfl (lv_at hl 1 rfl) ?_
        refine lv_aload_n hx hb dX1_areaWithoutRags_13 rfl (lv_at hl 0 rfl) ?_
        refine th_getO (j := 2) (r2 := 6) hC cf_X1 hB.1 h0 ro_3 rfl rfl kf_X1_18 dX1_areaWithoutRags_14 (fun b2 mb2 hb2 => ?_)
        refine lv_iload_n hx hb dX1_areaWithoutRags_17 rfl (lv_at hl 2 rfl) ?_
        refine th_ialdF hC hB.1 hb2 ro_6 rfl (Eq.refl _) (by omega) (by omega) rfl dX1_areaWithoutRags_18 (fun x3 mx3 lx3 ux3 => ?_)
        replace hF := hF.trans (congrArg (dv_k f_X1_areaWithoutRags_4b) (dv_bn (dv_aldI hB.1 hU hb2 ow_6 (z := j4_2.toInt) mx3 (by omega))))
        have jn39 : ∀ (locs : List Loc) (ls : Array Slot) (s39_1 : Int32), th_B G Γ Γ [] H0 H0 locs → lv_has ls 3 [(0, .ref a0), (2, .int j4_2)] → F = dv_k f_X1_areaWithoutRags_4b (f_X1_areaWithoutRags_39 (dv G Γ H0) ((a0 : Int)) (j4_2.toInt) (j4_1.toInt) (s39_1.toInt)) → 0 ≤ s39_1.toInt → s39_1.toInt ≤ 144 → W p l e ({ frames := 0, cells := 0, slots := 0, locals := 0 } : Room) s m ([.ref a0] : List Value).toArray below meth c H0 locs 0 0 (MQ below (th_Q (fun (v : Option Value) (H1 : Heap) => ∃ r : Int32, v = some (.int r) ∧ (f_X1_areaWithoutRags (dv G Γ H0) (a0 : Int) = (r.toInt, ())) ∧ H0 = H1) G) ([.ref a0] : List Value).toArray s 0 0 (fun q => G.2.2 ≤ q)) (F0 m 39 ls [.int s39_1, .int j4_1]) := by
          intro locs ls s39_1 hB hl hF g39_0 g39_1
          have ls39_1 := ti_lo s39_1; have us39_1 := ti_hi s39_1
          replace hF := hF.trans (congrArg (dv_k f_X1_areaWithoutRags_4b) (f_X1_areaWithoutRags_39.eq_1 (dv G Γ H0) ((a0 : Int)) (j4_2.toInt) (j4_1.toInt) (s39_1.toInt)))
          refine lv_iadd hx hb dX1_areaWithoutRags_39 ?_
          refine lv_topi (fun x4 ex4 => ?_)
          have lx4 := ti_lo x4; have ux4 := ti_hi x4
          replace hF := hF.trans (congrArg (dv_k f_X1_areaWithoutRags_4b) (dv_bn (dv_add_e (Eq.refl _) (Eq.refl _) ex4)))
          refine lv_istore_n (lv' := [(1, .int x4), (0, .ref a0), (2, .int j4_2)]) hx hb dX1_areaWithoutRags_40 rfl hl (by decide) rfl (fun ls hl => ?_)
          refine tr_iinc (fun x5 => [(2, .int x5), (1, .int x4), (0, .ref a0)]) hx hb dX1_areaWithoutRags_41 hl (k := 2) rfl (Eq.refl _) tk_1 (by omega) (by omega) (by decide) (fun _ => rfl) (fun x5 ls ex5 hl => ?_)
          replace hF := hF.trans (congrArg (dv_k f_X1_areaWithoutRags_4b) (dv_bn (ex5.symm)))
          refine lv_goto (tgt := 4) hx hb dX1_areaWithoutRags_44 (by decide) ?_
          replace hF := hF.trans (dv_kl)
          exact ih4 locs ls x4 x5 hB (lv_sub hl [2, 1, 0] rfl) hF (by omega) (by omega) (by omega)
        refine tr_if_le (tgt := 38) hx hb dX1_areaWithoutRags_19 (by decide) (Eq.refl _) (fun c19 => ?_) (fun c19 => ?_)
        · replace hF := hF.trans (congrArg (dv_k f_X1_areaWithoutRags_4b) (if_pos c19))
          refine lv_iconst (v := 0) hx hb dX1_areaWithoutRags_38 (by decide) ?_
          exact jn39 locs ls 0 hB (lv_sub hl [0, 2] rfl) (by rw [tk_0]; exact hF) (by decide) (by decide)
        · replace hF := hF.trans (congrArg (dv_k f_X1_areaWithoutRags_4b) (if_neg (Int.not_le.mpr c19)))
          refine lv_aload_n hx hb dX1_areaWithoutRags_22 rfl (lv_at hl 0 rfl) ?_
          refine th_getO (j := 0) (r2 := 4) hC cf_X1 hB.1 h0 ro_3 rfl rfl kf_X1_9 dX1_areaWithoutRags_23 (fun b6 mb6 hb6 => ?_)
          refine lv_iload_n hx hb dX1_areaWithoutRags_26 rfl (lv_at hl 2 rfl) ?_
          refine th_ialdF hC hB.1 hb6 ro_4 rfl (Eq.refl _) (by omega) (by omega) rfl dX1_areaWithoutRags_27 (fun x7 mx7 lx7 ux7 => ?_)
          replace hF := hF.trans (congrArg (dv_k f_X1_areaWithoutRags_4b) (dv_bn (dv_aldI hB.1 hU hb6 ow_4 (z := j4_2.toInt) mx7 (by omega))))
          refine lv_aload_n hx hb dX1_areaWithoutRags_28 rfl (lv_at hl 0 rfl) ?_
          refine th_getK hC cf_X1 hB.1 h0 ro_3 rfl (j := 0) (by decide) mb6 kf_X1_9 dX1_areaWithoutRags_29 ?_
          refine lv_iload_n hx hb dX1_areaWithoutRags_32 rfl (lv_at hl 2 rfl) ?_
          refine th_ialdF hC hB.1 hb6 ro_4 rfl (Eq.refl _) (by omega) (by omega) rfl dX1_areaWithoutRags_33 (fun x8 mx8 lx8 ux8 => ?_)
          replace hF := hF.trans (congrArg (dv_k f_X1_areaWithoutRags_4b) (dv_bn (dv_aldI hB.1 hU hb6 ow_4 (z := j4_2.toInt) mx8 (by omega))))
          have qx8 : x8.toInt = x7.toInt := by rw [show x8 = x7 from Value.int.inj (mx8.symm.trans mx7)]
          have q10 := ti_mulr (a := x7.toInt) (b := x8.toInt) (A := 12) (B := 12) (by omega) (by omega) (by omega) (by omega)
          generalize hex9 : x7.toInt * x8.toInt = wx9 at q10
          refine tr_imul hx hb dX1_areaWithoutRags_34 (Eq.refl _) (Eq.refl _) (by rw [hex9]; omega) (by rw [hex9]; omega) (fun x9 ex9 => ?_)
          rw [hex9] at ex9
          replace hF := hF.trans (congrArg (dv_k f_X1_areaWithoutRags_4b) (dv_bn (hex9.trans ex9.symm)))
          refine lv_goto (tgt := 39) hx hb dX1_areaWithoutRags_35 (by decide) ?_
          exact jn39 locs ls x9 hB (lv_sub hl [0, 2] rfl) hF (by omega) (by omega)
  exact lp4 ((2147483648 : Int) - (0)).toNat [] ls 0 0 hB (lv_sub hl [2, 1, 0] rfl) (by rw [tk_0]; exact hF) (by decide) (by decide) (by have w0 := tk_0; omega)

set_option maxHeartbeats 4000000 in
set_option maxRecDepth 100000 in
theorem c_X1_bareCells (l : Launch) (G : th_G) (Γ : th_Ga) (H0 : Heap) (hI : th_I G Γ H0) (hU : dv_U Γ) (a0 : Nat) (h0 : Γ a0 = (3, 0)) : Met l yX1_bareCells (.code yX1_bareCells cX1_bareCells 3 (some FieldType.int) :: th_tb) ({ frames := 2, cells := 0, slots := 0, locals := 42 } : Room) (th_P [.ref a0] G H0) (th_Q (fun (v : Option Value) (H1 : Heap) => ∃ r : Int32, v = some (.int r) ∧ (f_X1_bareCells (dv G Γ H0) (a0 : Int) = (r.toInt, ())) ∧ H0 = H1) G) 0 0 (fun q => G.2.2 ≤ q) := by
  refine th_met RX1 (by decide) rfl (Nat.le_of_ble_eq_true rfl) ?_
  intro p e s m below meth c hC hH hr hlocks hnm ls hl
  have hx := hC.1
  have hb := hC.2.1
  have hB : th_B G Γ Γ [] H0 H0 [] := ⟨hI, va_S.rf, th_F_rf⟩
  have hl : lv_has ls 3 [(0, .ref a0)] := hl
  obtain ⟨F, hF0⟩ : ∃ F, F = f_X1_bareCells (dv G Γ H0) ((a0 : Int)) := ⟨_, rfl⟩
  have hF := hF0.trans (f_X1_bareCells.eq_1 (dv G Γ H0) ((a0 : Int)))
  refine lv_aload_n hx hb dX1_bareCells_0 rfl (lv_at hl 0 rfl) ?_
  refine th_getI (j := 8) hC cf_X1 hB.1 h0 ro_3 rfl rfl kf_X1_37 dX1_bareCells_1 (fun x1 mx1 lx1 ux1 => ?_)
  replace hF := hF.trans (dv_bn (dv_getI h0 ro_3 (j := 8) rfl mx1 (by decide)))
  refine lv_aload_n hx hb dX1_bareCells_4 rfl (lv_at hl 0 rfl) ?_
  refine th_getI (j := 9) hC cf_X1 hB.1 h0 ro_3 rfl rfl kf_X1_40 dX1_bareCells_5 (fun x2 mx2 lx2 ux2 => ?_)
  replace hF := hF.trans (dv_bn (dv_getI h0 ro_3 (j := 9) rfl mx2 (by decide)))
  have q4 := ti_mulr (a := x1.toInt) (b := x2.toInt) (A := 12) (B := 12) (by omega) (by omega) (by omega) (by omega)
  generalize hex3 : x1.toInt * x2.toInt = wx3 at q4
  refine tr_imul hx hb dX1_bareCells_8 (Eq.refl _) (Eq.refl _) (by rw [hex3]; omega) (by rw [hex3]; omega) (fun x3 ex3 => ?_)
  rw [hex3] at ex3
  replace hF := hF.trans (dv_bn (hex3.trans ex3.symm))
  refine lv_istore_n (lv' := [(1, .int x3), (0, .ref a0)]) hx hb dX1_bareCells_9 rfl hl (by decide) rfl (fun ls hl => ?_)
  refine lv_iconst (v := 0) hx hb dX1_bareCells_10 (by decide) ?_
  refine lv_istore_n (lv' := [(2, .int 0), (1, .int x3), (0, .ref a0)]) hx hb dX1_bareCells_11 rfl hl (by decide) rfl (fun ls hl => ?_)
  have lp12 : ∀ (n12 : Nat) (locs : List Loc) (ls : Array Slot) (j12_1 : Int32) (j12_2 : Int32), th_B G Γ Γ [] H0 H0 locs → lv_has ls 3 [(0, .ref a0), (1, .int j12_1), (2, .int j12_2)] → F = dv_lp f_X1_bareCells_12b (dv G Γ H0, (a0 : Int), j12_1.toInt, j12_2.toInt) → 0 ≤ j12_2.toInt → j12_2.toInt ≤ 9 → (2147483648 : Int) - j12_2.toInt ≤ (n12 : Int) → W p l e ({ frames := 2, cells := 0, slots := 0, locals := 42 } : Room) s m ([.ref a0] : List Value).toArray below meth c H0 locs 0 0 (MQ below (th_Q (fun (v : Option Value) (H1 : Heap) => ∃ r : Int32, v = some (.int r) ∧ (f_X1_bareCells (dv G Γ H0) (a0 : Int) = (r.toInt, ())) ∧ H0 = H1) G) ([.ref a0] : List Value).toArray s 0 0 (fun q => G.2.2 ≤ q)) (F0 m 12 ls []) := by
    intro n12
    induction n12 with
    | zero => intro locs ls j12_1 j12_2 hB hl hF g12_0 g12_1 hm12; exact absurd hm12 (by have := ti_hi j12_2; omega)
    | succ n12 ih12 =>
      intro locs ls j12_1 j12_2 hB hl hF g12_0 g12_1 hm12
      have lj12_1 := ti_lo j12_1; have uj12_1 := ti_hi j12_1
      have lj12_2 := ti_lo j12_2; have uj12_2 := ti_hi j12_2
      have hm12 : (2147483648 : Int) - j12_2.toInt ≤ (n12 : Int) + 1 := by omega
      replace hF := hF.trans (dv_lp_eq)
      replace hF := hF.trans (congrArg (dv_k f_X1_bareCells_12b) (f_X1_bareCells_12c.eq_1 (dv G Γ H0) ((a0 : Int)) (j12_1.toInt) (j12_2.toInt)))
      refine lv_iload_n hx hb dX1_bareCells_12 rfl (lv_at hl 2 rfl) ?_
      refine lv_aload_n hx hb dX1_bareCells_13 rfl (lv_at hl 0 rfl) ?_
      refine th_getI (j := 7) hC cf_X1 hB.1 h0 ro_3 rfl rfl kf_X1_33 dX1_bareCells_14 (fun x5 mx5 lx5 ux5 => ?_)
      replace hF := hF.trans (congrArg (dv_k f_X1_bareCells_12b) (dv_bn (dv_getI h0 ro_3 (j := 7) rfl mx5 (by decide))))
      refine tr_icmp_ge (tgt := 54) hx hb dX1_bareCells_17 (by decide) (Eq.refl _) (Eq.refl _) (fun c17 => ?_) (fun c17 => ?_)
      · replace hF := hF.trans (congrArg (dv_k f_X1_bareCells_12b) (if_pos c17))
        refine lv_iload_n hx hb dX1_bareCells_54 rfl (lv_at hl 1 rfl) ?_
        replace hF := hF.trans (dv_kr)
        exact th_iret hC hH hr hlocks rfl hB.2.1 ⟨_, rfl, (hF0.symm.trans hF), rfl⟩ dX1_bareCells_55
      · replace hF := hF.trans (congrArg (dv_k f_X1_bareCells_12b) (if_neg (Int.not_le.mpr c17)))
        refine lv_iload_n hx hb dX1_bareCells_20 rfl (lv_at hl 1 rfl) ?_
        refine lv_aload_n hx hb dX1_bareCells_21 rfl (lv_at hl 0 rfl) ?_
        refine lv_iload_n hx hb dX1_bareCells_22 rfl (lv_at hl 2 rfl) ?_
        refine th_call (th_runV (As := [.int j12_2]) (rest := [.int j12_1]) hC mf_X1_isLaid km_X1_56 im_X1_isLaid se_X1_isLaid (c_X1_isLaid l G Γ H0 hB.1 hU a0 h0 j12_2) rfl rfl ⟨Nat.le_of_ble_eq_true rfl, Nat.le_of_ble_eq_true rfl⟩ hB.1 h0 ro_3 rfl rfl hl.1 rfl (Nat.le_of_ble_eq_true rfl) dX1_bareCells_23 ⟨Nat.le_refl _, Nat.le_refl _⟩) hB.2.1 (fun v23 H23 locs hp hz hS => ?_)
        obtain ⟨x6, rfl, lx6, ux6, q23_0, q23_1, q23_2, rfl⟩ := hp
        have hB := th_B_s hB hS
        replace hF := hF.trans (congrArg (dv_k f_X1_bareCells_12b) (dv_bn2 (q23_2)))
        refine W.eq (g2 := F0 m 26 ls [.int x6, .int j12_1]) rfl ?_
        have jn46 : ∀ (locs : List Loc) (ls : Array Slot) (s46_1 : Int32), th_B G Γ Γ [] H0 H0 locs → lv_has ls 3 [(0, .ref a0), (2, .int j12_2)] → F = dv_k f_X1_bareCells_12b (f_X1_bareCells_46 (dv G Γ H0) ((a0 : Int)) (j12_2.toInt) (j12_1.toInt) (s46_1.toInt)) → 0 ≤ s46_1.toInt → s46_1.toInt ≤ 144 → W p l e ({ frames := 2, cells := 0, slots := 0, locals := 42 } : Room) s m ([.ref a0] : List Value).toArray below meth c H0 locs 0 0 (MQ below (th_Q (fun (v : Option Value) (H1 : Heap) => ∃ r : Int32, v = some (.int r) ∧ (f_X1_bareCells (dv G Γ H0) (a0 : Int) = (r.toInt, ())) ∧ H0 = H1) G) ([.ref a0] : List Value).toArray s 0 0 (fun q => G.2.2 ≤ q)) (F0 m 46 ls [.int s46_1, .int j12_1]) := by
          intro locs ls s46_1 hB hl hF g46_0 g46_1
          have ls46_1 := ti_lo s46_1; have us46_1 := ti_hi s46_1
          replace hF := hF.trans (congrArg (dv_k f_X1_bareCells_12b) (f_X1_bareCells_46.eq_1 (dv G Γ H0) ((a0 : Int)) (j12_2.toInt) (j12_1.toInt) (s46_1.toInt)))
          refine lv_isub hx hb dX1_bareCells_46 ?_
          refine lv_topi (fun x7 ex7 => ?_)
          have lx7 := ti_lo x7; have ux7 := ti_hi x7
          replace hF := hF.trans (congrArg (dv_k f_X1_bareCells_12b) (dv_bn (dv_sub_e (Eq.refl _) (Eq.refl _) ex7)))
          refine lv_istore_n (lv' := [(1, .int x7), (0, .ref a0), (2, .int j12_2)]) hx hb dX1_bareCells_47 rfl hl (by decide) rfl (fun ls hl => ?_)
          refine tr_iinc (fun x8 => [(2, .int x8), (1, .int x7), (0, .ref a0)]) hx hb dX1_bareCells_48 hl (k := 2) rfl (Eq.refl _) tk_1 (by omega) (by omega) (by decide) (fun _ => rfl) (fun x8 ls ex8 hl => ?_)
          replace hF := hF.trans (congrArg (dv_k f_X1_bareCells_12b) (dv_bn (ex8.symm)))
          refine lv_goto (tgt := 12) hx hb dX1_bareCells_51 (by decide) ?_
          replace hF := hF.trans (dv_kl)
          exact ih12 locs ls x7 x8 hB (lv_sub hl [2, 1, 0] rfl) hF (by omega) (by omega) (by omega)
        refine tr_if_eq (tgt := 45) hx hb dX1_bareCells_26 (by decide) (Eq.refl _) (fun c26 => ?_) (fun c26 => ?_)
        · replace hF := hF.trans (congrArg (dv_k f_X1_bareCells_12b) (if_pos c26))
          refine lv_iconst (v := 0) hx hb dX1_bareCells_45 (by decide) ?_
          exact jn46 locs ls 0 hB (lv_sub hl [0, 2] rfl) (by rw [tk_0]; exact hF) (by decide) (by decide)
        · replace hF := hF.trans (congrArg (dv_k f_X1_bareCells_12b) (if_neg c26))
          refine lv_aload_n hx hb dX1_bareCells_29 rfl (lv_at hl 0 rfl) ?_
          refine th_getO (j := 0) (r2 := 4) hC cf_X1 hB.1 h0 ro_3 rfl rfl kf_X1_9 dX1_bareCells_30 (fun b9 mb9 hb9 => ?_)
          refine lv_iload_n hx hb dX1_bareCells_33 rfl (lv_at hl 2 rfl) ?_
          refine th_ialdF hC hB.1 hb9 ro_4 rfl (Eq.refl _) (by omega) (by omega) rfl dX1_bareCells_34 (fun x10 mx10 lx10 ux10 => ?_)
          replace hF := hF.trans (congrArg (dv_k f_X1_bareCells_12b) (dv_bn (dv_aldI hB.1 hU hb9 ow_4 (z := j12_2.toInt) mx10 (by omega))))
          refine lv_aload_n hx hb dX1_bareCells_35 rfl (lv_at hl 0 rfl) ?_
          refine th_getK hC cf_X1 hB.1 h0 ro_3 rfl (j := 0) (by decide) mb9 kf_X1_9 dX1_bareCells_36 ?_
          refine lv_iload_n hx hb dX1_bareCells_39 rfl (lv_at hl 2 rfl) ?_
          refine th_ialdF hC hB.1 hb9 ro_4 rfl (Eq.refl _) (by omega) (by omega) rfl dX1_bareCells_40 (fun x11 mx11 lx11 ux11 => ?_)
          replace hF := hF.trans (congrArg (dv_k f_X1_bareCells_12b) (dv_bn (dv_aldI hB.1 hU hb9 ow_4 (z := j12_2.toInt) mx11 (by omega))))
          have qx11 : x11.toInt = x10.toInt := by rw [show x11 = x10 from Value.int.inj (mx11.symm.trans mx10)]
          have q13 := ti_mulr (a := x10.toInt) (b := x11.toInt) (A := 12) (B := 12) (by omega) (by omega) (by omega) (by omega)
          generalize hex12 : x10.toInt * x11.toInt = wx12 at q13
          refine tr_imul hx hb dX1_bareCells_41 (Eq.refl _) (Eq.refl _) (by rw [hex12]; omega) (by rw [hex12]; omega) (fun x12 ex12 => ?_)
          rw [hex12] at ex12
          replace hF := hF.trans (congrArg (dv_k f_X1_bareCells_12b) (dv_bn (hex12.trans ex12.symm)))
          refine lv_goto (tgt := 46) hx hb dX1_bareCells_42 (by decide) ?_
          exact jn46 locs ls x12 hB (lv_sub hl [0, 2] rfl) hF (by omega) (by omega)
  exact lp12 ((2147483648 : Int) - (0)).toNat [] ls x3 0 hB (lv_sub hl [2, 1, 0] rfl) (by rw [tk_0]; exact hF) (by decide) (by decide) (by have w0 := tk_0; omega)

set_option maxHeartbeats 4000000 in
set_option maxRecDepth 100000 in
theorem c_X1_carpetOn (l : Launch) (G : th_G) (Γ : th_Ga) (H0 : Heap) (hI : th_I G Γ H0) (hU : dv_U Γ) (a0 : Nat) (h0 : Γ a0 = (3, 0)) (p1 : Int32) (p2 : Int32) : Met l yX1_carpetOn (.code yX1_carpetOn cX1_carpetOn 4 (some FieldType.int) :: th_tb) ({ frames := 2, cells := 0, slots := 0, locals := 42 } : Room) (th_P [.ref a0, .int p1, .int p2] G H0) (th_Q (fun (v : Option Value) (H1 : Heap) => ∃ r : Int32, v = some (.int r) ∧ (-1) ≤ r.toInt ∧ r.toInt ≤ 8 ∧ (f_X1_carpetOn (dv G Γ H0) (a0 : Int) p1.toInt p2.toInt = (r.toInt, ())) ∧ H0 = H1) G) 0 0 (fun q => G.2.2 ≤ q) := by
  refine th_met RX1 (by decide) rfl (Nat.le_of_ble_eq_true rfl) ?_
  intro p e s m below meth c hC hH hr hlocks hnm ls hl
  have hx := hC.1
  have hb := hC.2.1
  have hB : th_B G Γ Γ [] H0 H0 [] := ⟨hI, va_S.rf, th_F_rf⟩
  have hl : lv_has ls 4 [(0, .ref a0), (1, .int p1), (2, .int p2)] := hl
  have lp1 := ti_lo p1; have up1 := ti_hi p1
  have lp2 := ti_lo p2; have up2 := ti_hi p2
  obtain ⟨F, hF0⟩ : ∃ F, F = f_X1_carpetOn (dv G Γ H0) ((a0 : Int)) (p1.toInt) (p2.toInt) := ⟨_, rfl⟩
  have hF := hF0.trans (f_X1_carpetOn.eq_1 (dv G Γ H0) ((a0 : Int)) (p1.toInt) (p2.toInt))
  refine lv_iconst (v := 0) hx hb dX1_carpetOn_0 (by decide) ?_
  refine lv_istore_n (lv' := [(3, .int 0), (0, .ref a0), (1, .int p1), (2, .int p2)]) hx hb dX1_carpetOn_1 rfl hl (by decide) rfl (fun ls hl => ?_)
  have lp2 : ∀ (n2 : Nat) (locs : List Loc) (ls : Array Slot) (j2_3 : Int32), th_B G Γ Γ [] H0 H0 locs → lv_has ls 4 [(0, .ref a0), (1, .int p1), (2, .int p2), (3, .int j2_3)] → F = dv_lp f_X1_carpetOn_2b (dv G Γ H0, (a0 : Int), p1.toInt, p2.toInt, j2_3.toInt) → 0 ≤ j2_3.toInt → j2_3.toInt ≤ 9 → (2147483648 : Int) - j2_3.toInt ≤ (n2 : Int) → W p l e ({ frames := 2, cells := 0, slots := 0, locals := 42 } : Room) s m ([.ref a0, .int p1, .int p2] : List Value).toArray below meth c H0 locs 0 0 (MQ below (th_Q (fun (v : Option Value) (H1 : Heap) => ∃ r : Int32, v = some (.int r) ∧ (-1) ≤ r.toInt ∧ r.toInt ≤ 8 ∧ (f_X1_carpetOn (dv G Γ H0) (a0 : Int) p1.toInt p2.toInt = (r.toInt, ())) ∧ H0 = H1) G) ([.ref a0, .int p1, .int p2] : List Value).toArray s 0 0 (fun q => G.2.2 ≤ q)) (F0 m 2 ls []) := by
    intro n2
    induction n2 with
    | zero => intro locs ls j2_3 hB hl hF g2_0 g2_1 hm2; exact absurd hm2 (by have := ti_hi j2_3; omega)
    | succ n2 ih2 =>
      intro locs ls j2_3 hB hl hF g2_0 g2_1 hm2
      have lj2_3 := ti_lo j2_3; have uj2_3 := ti_hi j2_3
      have hm2 : (2147483648 : Int) - j2_3.toInt ≤ (n2 : Int) + 1 := by omega
      replace hF := hF.trans (dv_lp_eq)
      replace hF := hF.trans (congrArg (dv_k f_X1_carpetOn_2b) (f_X1_carpetOn_2c.eq_1 (dv G Γ H0) ((a0 : Int)) (p1.toInt) (p2.toInt) (j2_3.toInt)))
      refine lv_iload_n hx hb dX1_carpetOn_2 rfl (lv_at hl 3 rfl) ?_
      refine lv_aload_n hx hb dX1_carpetOn_3 rfl (lv_at hl 0 rfl) ?_
      refine th_getI (j := 7) hC cf_X1 hB.1 h0 ro_3 rfl rfl kf_X1_33 dX1_carpetOn_4 (fun x1 mx1 lx1 ux1 => ?_)
      replace hF := hF.trans (congrArg (dv_k f_X1_carpetOn_2b) (dv_bn (dv_getI h0 ro_3 (j := 7) rfl mx1 (by decide))))
      refine tr_icmp_ge (tgt := 80) hx hb dX1_carpetOn_7 (by decide) (Eq.refl _) (Eq.refl _) (fun c7 => ?_) (fun c7 => ?_)
      · replace hF := hF.trans (congrArg (dv_k f_X1_carpetOn_2b) (if_pos c7))
        refine lv_iconst (v := (-1)) hx hb dX1_carpetOn_80 (by decide) ?_
        replace hF := hF.trans (dv_kr)
        exact th_iret hC hH hr hlocks rfl hB.2.1 ⟨_, rfl, by decide, by decide, (hF0.symm.trans (hF.trans (by rw [tk_m1]))), rfl⟩ dX1_carpetOn_81
      · replace hF := hF.trans (congrArg (dv_k f_X1_carpetOn_2b) (if_neg (Int.not_le.mpr c7)))
        refine lv_aload_n hx hb dX1_carpetOn_10 rfl (lv_at hl 0 rfl) ?_
        refine lv_iload_n hx hb dX1_carpetOn_11 rfl (lv_at hl 3 rfl) ?_
        refine th_call (th_runV (As := [.int j2_3]) (rest := []) hC mf_X1_isLaid km_X1_56 im_X1_isLaid se_X1_isLaid (c_X1_isLaid l G Γ H0 hB.1 hU a0 h0 j2_3) rfl rfl ⟨Nat.le_of_ble_eq_true rfl, Nat.le_of_ble_eq_true rfl⟩ hB.1 h0 ro_3 rfl rfl hl.1 rfl (Nat.le_of_ble_eq_true rfl) dX1_carpetOn_12 ⟨Nat.le_refl _, Nat.le_refl _⟩) hB.2.1 (fun v12 H12 locs hp hz hS => ?_)
        obtain ⟨x2, rfl, lx2, ux2, q12_0, q12_1, q12_2, rfl⟩ := hp
        have hB := th_B_s hB hS
        replace hF := hF.trans (congrArg (dv_k f_X1_carpetOn_2b) (dv_bn2 (q12_2)))
        refine W.eq (g2 := F0 m 15 ls [.int x2]) rfl ?_
        have jn74 : ∀ (locs : List Loc) (ls : Array Slot) , th_B G Γ Γ [] H0 H0 locs → lv_has ls 4 [(0, .ref a0), (1, .int p1), (2, .int p2), (3, .int j2_3)] → F = dv_k f_X1_carpetOn_2b (f_X1_carpetOn_74 (dv G Γ H0) ((a0 : Int)) (p1.toInt) (p2.toInt) (j2_3.toInt)) → W p l e ({ frames := 2, cells := 0, slots := 0, locals := 42 } : Room) s m ([.ref a0, .int p1, .int p2] : List Value).toArray below meth c H0 locs 0 0 (MQ below (th_Q (fun (v : Option Value) (H1 : Heap) => ∃ r : Int32, v = some (.int r) ∧ (-1) ≤ r.toInt ∧ r.toInt ≤ 8 ∧ (f_X1_carpetOn (dv G Γ H0) (a0 : Int) p1.toInt p2.toInt = (r.toInt, ())) ∧ H0 = H1) G) ([.ref a0, .int p1, .int p2] : List Value).toArray s 0 0 (fun q => G.2.2 ≤ q)) (F0 m 74 ls []) := by
          intro locs ls hB hl hF
          replace hF := hF.trans (congrArg (dv_k f_X1_carpetOn_2b) (f_X1_carpetOn_74.eq_1 (dv G Γ H0) ((a0 : Int)) (p1.toInt) (p2.toInt) (j2_3.toInt)))
          refine tr_iinc (fun x3 => [(3, .int x3), (0, .ref a0), (1, .int p1), (2, .int p2)]) hx hb dX1_carpetOn_74 hl (k := 3) rfl (Eq.refl _) tk_1 (by omega) (by omega) (by decide) (fun _ => rfl) (fun x3 ls ex3 hl => ?_)
          replace hF := hF.trans (congrArg (dv_k f_X1_carpetOn_2b) (dv_bn (ex3.symm)))
          refine lv_goto (tgt := 2) hx hb dX1_carpetOn_77 (by decide) ?_
          replace hF := hF.trans (dv_kl)
          exact ih2 locs ls x3 hB (lv_sub hl [1, 2, 3, 0] rfl) hF (by omega) (by omega) (by omega)
        refine tr_if_eq (tgt := 74) hx hb dX1_carpetOn_15 (by decide) (Eq.refl _) (fun c15 => ?_) (fun c15 => ?_)
        · replace hF := hF.trans (congrArg (dv_k f_X1_carpetOn_2b) (if_pos c15))
          exact jn74 locs ls hB (lv_sub hl [0, 1, 2, 3] rfl) hF
        · replace hF := hF.trans (congrArg (dv_k f_X1_carpetOn_2b) (if_neg c15))
          refine lv_iload_n hx hb dX1_carpetOn_18 rfl (lv_at hl 1 rfl) ?_
          refine lv_aload_n hx hb dX1_carpetOn_19 rfl (lv_at hl 0 rfl) ?_
          refine th_getO (j := 3) (r2 := 7) hC cf_X1 hB.1 h0 ro_3 rfl rfl kf_X1_21 dX1_carpetOn_20 (fun b4 mb4 hb4 => ?_)
          refine lv_iload_n hx hb dX1_carpetOn_23 rfl (lv_at hl 3 rfl) ?_
          refine th_ialdF hC hB.1 hb4 ro_7 rfl (Eq.refl _) (by omega) (by omega) rfl dX1_carpetOn_24 (fun x5 mx5 lx5 ux5 => ?_)
          replace hF := hF.trans (congrArg (dv_k f_X1_carpetOn_2b) (dv_bn (dv_aldI hB.1 hU hb4 ow_7 (z := j2_3.toInt) mx5 (by omega))))
          refine tr_icmp_lt (tgt := 74) hx hb dX1_carpetOn_25 (by decide) (Eq.refl _) (Eq.refl _) (fun c25 => ?_) (fun c25 => ?_)
          · replace hF := hF.trans (congrArg (dv_k f_X1_carpetOn_2b) (if_pos c25))
            exact jn74 locs ls hB (lv_sub hl [0, 1, 2, 3] rfl) hF
          · replace hF := hF.trans (congrArg (dv_k f_X1_carpetOn_2b) (if_neg (Int.not_lt.mpr c25)))
            refine lv_iload_n hx hb dX1_carpetOn_28 rfl (lv_at hl 1 rfl) ?_
            refine lv_aload_n hx hb dX1_carpetOn_29 rfl (lv_at hl 0 rfl) ?_
            refine th_getK hC cf_X1 hB.1 h0 ro_3 rfl (j := 3) (by decide) mb4 kf_X1_21 dX1_carpetOn_30 ?_
            refine lv_iload_n hx hb dX1_carpetOn_33 rfl (lv_at hl 3 rfl) ?_
            refine th_ialdF hC hB.1 hb4 ro_7 rfl (Eq.refl _) (by omega) (by omega) rfl dX1_carpetOn_34 (fun x6 mx6 lx6 ux6 => ?_)
            replace hF := hF.trans (congrArg (dv_k f_X1_carpetOn_2b) (dv_bn (dv_aldI hB.1 hU hb4 ow_7 (z := j2_3.toInt) mx6 (by omega))))
            have qx6 : x6.toInt = x5.toInt := by rw [show x6 = x5 from Value.int.inj (mx6.symm.trans mx5)]
            refine lv_aload_n hx hb dX1_carpetOn_35 rfl (lv_at hl 0 rfl) ?_
            refine th_getO (j := 0) (r2 := 4) hC cf_X1 hB.1 h0 ro_3 rfl rfl kf_X1_9 dX1_carpetOn_36 (fun b7 mb7 hb7 => ?_)
            refine lv_iload_n hx hb dX1_carpetOn_39 rfl (lv_at hl 3 rfl) ?_
            refine th_ialdF hC hB.1 hb7 ro_4 rfl (Eq.refl _) (by omega) (by omega) rfl dX1_carpetOn_40 (fun x8 mx8 lx8 ux8 => ?_)
            replace hF := hF.trans (congrArg (dv_k f_X1_carpetOn_2b) (dv_bn (dv_aldI hB.1 hU hb7 ow_4 (z := j2_3.toInt) mx8 (by omega))))
            refine lv_iadd hx hb dX1_carpetOn_41 ?_
            refine lv_topi (fun x9 ex9 => ?_)
            have lx9 := ti_lo x9; have ux9 := ti_hi x9
            replace hF := hF.trans (congrArg (dv_k f_X1_carpetOn_2b) (dv_bn (dv_add_e (Eq.refl _) (Eq.refl _) ex9)))
            refine tr_icmp_ge (tgt := 74) hx hb dX1_carpetOn_42 (by decide) (Eq.refl _) (Eq.refl _) (fun c42 => ?_) (fun c42 => ?_)
            · replace hF := hF.trans (congrArg (dv_k f_X1_carpetOn_2b) (if_pos c42))
              exact jn74 locs ls hB (lv_sub hl [0, 1, 2, 3] rfl) hF
            · replace hF := hF.trans (congrArg (dv_k f_X1_carpetOn_2b) (if_neg (Int.not_le.mpr c42)))
              refine lv_iload_n hx hb dX1_carpetOn_45 rfl (lv_at hl 2 rfl) ?_
              refine lv_aload_n hx hb dX1_carpetOn_46 rfl (lv_at hl 0 rfl) ?_
              refine th_getO (j := 4) (r2 := 8) hC cf_X1 hB.1 h0 ro_3 rfl rfl kf_X1_24 dX1_carpetOn_47 (fun b10 mb10 hb10 => ?_)
              refine lv_iload_n hx hb dX1_carpetOn_50 rfl (lv_at hl 3 rfl) ?_
              refine th_ialdF hC hB.1 hb10 ro_8 rfl (Eq.refl _) (by omega) (by omega) rfl dX1_carpetOn_51 (fun x11 mx11 lx11 ux11 => ?_)
              replace hF := hF.trans (congrArg (dv_k f_X1_carpetOn_2b) (dv_bn (dv_aldI hB.1 hU hb10 ow_8 (z := j2_3.toInt) mx11 (by omega))))
              refine tr_icmp_lt (tgt := 74) hx hb dX1_carpetOn_52 (by decide) (Eq.refl _) (Eq.refl _) (fun c52 => ?_) (fun c52 => ?_)
              · replace hF := hF.trans (congrArg (dv_k f_X1_carpetOn_2b) (if_pos c52))
                exact jn74 locs ls hB (lv_sub hl [0, 1, 2, 3] rfl) hF
              · replace hF := hF.trans (congrArg (dv_k f_X1_carpetOn_2b) (if_neg (Int.not_lt.mpr c52)))
                refine lv_iload_n hx hb dX1_carpetOn_55 rfl (lv_at hl 2 rfl) ?_
                refine lv_aload_n hx hb dX1_carpetOn_56 rfl (lv_at hl 0 rfl) ?_
                refine th_getK hC cf_X1 hB.1 h0 ro_3 rfl (j := 4) (by decide) mb10 kf_X1_24 dX1_carpetOn_57 ?_
                refine lv_iload_n hx hb dX1_carpetOn_60 rfl (lv_at hl 3 rfl) ?_
                refine th_ialdF hC hB.1 hb10 ro_8 rfl (Eq.refl _) (by omega) (by omega) rfl dX1_carpetOn_61 (fun x12 mx12 lx12 ux12 => ?_)
                replace hF := hF.trans (congrArg (dv_k f_X1_carpetOn_2b) (dv_bn (dv_aldI hB.1 hU hb10 ow_8 (z := j2_3.toInt) mx12 (by omega))))
                have qx12 : x12.toInt = x11.toInt := by rw [show x12 = x11 from Value.int.inj (mx12.symm.trans mx11)]
                refine lv_aload_n hx hb dX1_carpetOn_62 rfl (lv_at hl 0 rfl) ?_
                refine th_getK hC cf_X1 hB.1 h0 ro_3 rfl (j := 0) (by decide) mb7 kf_X1_9 dX1_carpetOn_63 ?_
                refine lv_iload_n hx hb dX1_carpetOn_66 rfl (lv_at hl 3 rfl) ?_
                refine th_ialdF hC hB.1 hb7 ro_4 rfl (Eq.refl _) (by omega) (by omega) rfl dX1_carpetOn_67 (fun x13 mx13 lx13 ux13 => ?_)
                replace hF := hF.trans (congrArg (dv_k f_X1_carpetOn_2b) (dv_bn (dv_aldI hB.1 hU hb7 ow_4 (z := j2_3.toInt) mx13 (by omega))))
                have qx13 : x13.toInt = x8.toInt := by rw [show x13 = x8 from Value.int.inj (mx13.symm.trans mx8)]
                refine lv_iadd hx hb dX1_carpetOn_68 ?_
                refine lv_topi (fun x14 ex14 => ?_)
                have lx14 := ti_lo x14; have ux14 := ti_hi x14
                replace hF := hF.trans (congrArg (dv_k f_X1_carpetOn_2b) (dv_bn (dv_add_e (Eq.refl _) (Eq.refl _) ex14)))
                refine tr_icmp_ge (tgt := 74) hx hb dX1_carpetOn_69 (by decide) (Eq.refl _) (Eq.refl _) (fun c69 => ?_) (fun c69 => ?_)
                · replace hF := hF.trans (congrArg (dv_k f_X1_carpetOn_2b) (if_pos c69))
                  exact jn74 locs ls hB (lv_sub hl [0, 1, 2, 3] rfl) hF
                · replace hF := hF.trans (congrArg (dv_k f_X1_carpetOn_2b) (if_neg (Int.not_le.mpr c69)))
                  refine lv_iload_n hx hb dX1_carpetOn_72 rfl (lv_at hl 3 rfl) ?_
                  replace hF := hF.trans (dv_kr)
                  exact th_iret hC hH hr hlocks rfl hB.2.1 ⟨_, rfl, by omega, by omega, (hF0.symm.trans hF), rfl⟩ dX1_carpetOn_73
  exact lp2 ((2147483648 : Int) - (0)).toNat [] ls 0 hB (lv_sub hl [1, 2, 3, 0] rfl) (by rw [tk_0]; exact hF) (by decide) (by decide) (by have w0 := tk_0; omega)

set_option maxHeartbeats 4000000 in
set_option maxRecDepth 100000 in
theorem c_X1_hasPlaceFor (l : Launch) (G : th_G) (Γ : th_Ga) (H0 : Heap) (hI : th_I G Γ H0) (hU : dv_U Γ) (a0 : Nat) (h0 : Γ a0 = (3, 0)) (p1 : Int32) (p2 : Int32) (p3 : Int32) : Met l yX1_hasPlaceFor (.code yX1_hasPlaceFor cX1_hasPlaceFor 5 (some FieldType.boolean) :: th_tb) ({ frames := 2, cells := 0, slots := 0, locals := 42 } : Room) (th_P [.ref a0, .int p1, .int p2, .int p3] G H0) (th_Q (fun (v : Option Value) (H1 : Heap) => ∃ r : Int32, v = some (.int r) ∧ 0 ≤ r.toInt ∧ r.toInt ≤ 1 ∧ (r.toInt = 1 → 0 ≤ p1.toInt ∧ p1.toInt ≤ 8) ∧ (r.toInt = 1 → 0 ≤ p3.toInt) ∧ (f_X1_hasPlaceFor (dv G Γ H0) (a0 : Int) p1.toInt p2.toInt p3.toInt = (r.toInt, ())) ∧ H0 = H1) G) 0 0 (fun q => G.2.2 ≤ q) := by
  refine th_met RX1 (by decide) rfl (Nat.le_of_ble_eq_true rfl) ?_
  intro p e s m below meth c hC hH hr hlocks hnm ls hl
  have hx := hC.1
  have hb := hC.2.1
  have hB : th_B G Γ Γ [] H0 H0 [] := ⟨hI, va_S.rf, th_F_rf⟩
  have hl : lv_has ls 5 [(0, .ref a0), (1, .int p1), (2, .int p2), (3, .int p3)] := hl
  have lp1 := ti_lo p1; have up1 := ti_hi p1
  have lp2 := ti_lo p2; have up2 := ti_hi p2
  have lp3 := ti_lo p3; have up3 := ti_hi p3
  obtain ⟨F, hF0⟩ : ∃ F, F = f_X1_hasPlaceFor (dv G Γ H0) ((a0 : Int)) (p1.toInt) (p2.toInt) (p3.toInt) := ⟨_, rfl⟩
  have hF := hF0.trans (f_X1_hasPlaceFor.eq_1 (dv G Γ H0) ((a0 : Int)) (p1.toInt) (p2.toInt) (p3.toInt))
  refine lv_aload_n hx hb dX1_hasPlaceFor_0 rfl (lv_at hl 0 rfl) ?_
  refine lv_iload_n hx hb dX1_hasPlaceFor_1 rfl (lv_at hl 1 rfl) ?_
  refine th_call (th_runV (As := [.int p1]) (rest := []) hC mf_X1_isReady km_X1_59 im_X1_isReady se_X1_isReady (c_X1_isReady l G Γ H0 hB.1 hU a0 h0 p1) rfl rfl ⟨Nat.le_of_ble_eq_true rfl, Nat.le_of_ble_eq_true rfl⟩ hB.1 h0 ro_3 rfl rfl hl.1 rfl (Nat.le_of_ble_eq_true rfl) dX1_hasPlaceFor_2 ⟨Nat.le_refl _, Nat.le_refl _⟩) hB.2.1 (fun v2 H2 locs hp hz hS => ?_)
  obtain ⟨x1, rfl, lx1, ux1, q2_0, q2_1, rfl⟩ := hp
  have hB := th_B_s hB hS
  replace hF := hF.trans (dv_bn2 (q2_1))
  refine W.eq (g2 := F0 m 5 ls [.int x1]) rfl ?_
  refine tr_if_eq (tgt := 46) hx hb dX1_hasPlaceFor_5 (by decide) (Eq.refl _) (fun c5 => ?_) (fun c5 => ?_)
  · replace hF := hF.trans (if_pos c5)
    refine lv_iconst (v := 0) hx hb dX1_hasPlaceFor_46 (by decide) ?_
    exact th_iret hC hH hr hlocks narrow_b0 hB.2.1 ⟨_, rfl, by decide, by decide, by first | (intro h9; exact absurd h9 (by decide)) | (have w9 := tk_0; intros; omega), by first | (intro h9; exact absurd h9 (by decide)) | (have w9 := tk_0; intros; omega), (hF0.symm.trans (hF.trans (by rw [tk_0]))), rfl⟩ dX1_hasPlaceFor_47
  · replace hF := hF.trans (if_neg c5)
    refine lv_iload_n hx hb dX1_hasPlaceFor_8 rfl (lv_at hl 2 rfl) ?_
    refine tr_if_lt (tgt := 46) hx hb dX1_hasPlaceFor_9 (by decide) (Eq.refl _) (fun c9 => ?_) (fun c9 => ?_)
    · replace hF := hF.trans (if_pos c9)
      refine lv_iconst (v := 0) hx hb dX1_hasPlaceFor_46 (by decide) ?_
      exact th_iret hC hH hr hlocks narrow_b0 hB.2.1 ⟨_, rfl, by decide, by decide, by first | (intro h9; exact absurd h9 (by decide)) | (have w9 := tk_0; intros; omega), by first | (intro h9; exact absurd h9 (by decide)) | (have w9 := tk_0; intros; omega), (hF0.symm.trans (hF.trans (by rw [tk_0]))), rfl⟩ dX1_hasPlaceFor_47
    · replace hF := hF.trans (if_neg (Int.not_lt.mpr c9))
      refine lv_iload_n hx hb dX1_hasPlaceFor_12 rfl (lv_at hl 3 rfl) ?_
      refine tr_if_lt (tgt := 46) hx hb dX1_hasPlaceFor_13 (by decide) (Eq.refl _) (fun c13 => ?_) (fun c13 => ?_)
      · replace hF := hF.trans (if_pos c13)
        refine lv_iconst (v := 0) hx hb dX1_hasPlaceFor_46 (by decide) ?_
        exact th_iret hC hH hr hlocks narrow_b0 hB.2.1 ⟨_, rfl, by decide, by decide, by first | (intro h9; exact absurd h9 (by decide)) | (have w9 := tk_0; intros; omega), by first | (intro h9; exact absurd h9 (by decide)) | (have w9 := tk_0; intros; omega), (hF0.symm.trans (hF.trans (by rw [tk_0]))), rfl⟩ dX1_hasPlaceFor_47
      · replace hF := hF.trans (if_neg (Int.not_lt.mpr c13))
        refine lv_iload_n hx hb dX1_hasPlaceFor_16 rfl (lv_at hl 2 rfl) ?_
        refine lv_aload_n hx hb dX1_hasPlaceFor_17 rfl (lv_at hl 0 rfl) ?_
        refine th_getI (j := 8) hC cf_X1 hB.1 h0 ro_3 rfl rfl kf_X1_37 dX1_hasPlaceFor_18 (fun x2 mx2 lx2 ux2 => ?_)
        replace hF := hF.trans (dv_bn (dv_getI h0 ro_3 (j := 8) rfl mx2 (by decide)))
        refine lv_aload_n hx hb dX1_hasPlaceFor_21 rfl (lv_at hl 0 rfl) ?_
        refine th_getO (j := 0) (r2 := 4) hC cf_X1 hB.1 h0 ro_3 rfl rfl kf_X1_9 dX1_hasPlaceFor_22 (fun b3 mb3 hb3 => ?_)
        refine lv_iload_n hx hb dX1_hasPlaceFor_25 rfl (lv_at hl 1 rfl) ?_
        refine th_ialdF hC hB.1 hb3 ro_4 rfl (Eq.refl _) (by omega) (by omega) rfl dX1_hasPlaceFor_26 (fun x4 mx4 lx4 ux4 => ?_)
        replace hF := hF.trans (dv_bn (dv_aldI hB.1 hU hb3 ow_4 (z := p1.toInt) mx4 (by omega)))
        refine tr_isub hx hb dX1_hasPlaceFor_27 (Eq.refl _) (Eq.refl _) (by omega) (by omega) (fun x5 ex5 => ?_)
        replace hF := hF.trans (dv_bn (ex5.symm))
        refine tr_icmp_gt (tgt := 46) hx hb dX1_hasPlaceFor_28 (by decide) (Eq.refl _) (Eq.refl _) (fun c28 => ?_) (fun c28 => ?_)
        · replace hF := hF.trans (if_pos c28)
          refine lv_iconst (v := 0) hx hb dX1_hasPlaceFor_46 (by decide) ?_
          exact th_iret hC hH hr hlocks narrow_b0 hB.2.1 ⟨_, rfl, by decide, by decide, by first | (intro h9; exact absurd h9 (by decide)) | (have w9 := tk_0; intros; omega), by first | (intro h9; exact absurd h9 (by decide)) | (have w9 := tk_0; intros; omega), (hF0.symm.trans (hF.trans (by rw [tk_0]))), rfl⟩ dX1_hasPlaceFor_47
        · replace hF := hF.trans (if_neg (Int.not_lt.mpr c28))
          refine lv_iload_n hx hb dX1_hasPlaceFor_31 rfl (lv_at hl 3 rfl) ?_
          refine lv_aload_n hx hb dX1_hasPlaceFor_32 rfl (lv_at hl 0 rfl) ?_
          refine th_getI (j := 9) hC cf_X1 hB.1 h0 ro_3 rfl rfl kf_X1_40 dX1_hasPlaceFor_33 (fun x6 mx6 lx6 ux6 => ?_)
          replace hF := hF.trans (dv_bn (dv_getI h0 ro_3 (j := 9) rfl mx6 (by decide)))
          refine lv_aload_n hx hb dX1_hasPlaceFor_36 rfl (lv_at hl 0 rfl) ?_
          refine th_getK hC cf_X1 hB.1 h0 ro_3 rfl (j := 0) (by decide) mb3 kf_X1_9 dX1_hasPlaceFor_37 ?_
          refine lv_iload_n hx hb dX1_hasPlaceFor_40 rfl (lv_at hl 1 rfl) ?_
          refine th_ialdF hC hB.1 hb3 ro_4 rfl (Eq.refl _) (by omega) (by omega) rfl dX1_hasPlaceFor_41 (fun x7 mx7 lx7 ux7 => ?_)
          replace hF := hF.trans (dv_bn (dv_aldI hB.1 hU hb3 ow_4 (z := p1.toInt) mx7 (by omega)))
          have qx7 : x7.toInt = x4.toInt := by rw [show x7 = x4 from Value.int.inj (mx7.symm.trans mx4)]
          refine tr_isub hx hb dX1_hasPlaceFor_42 (Eq.refl _) (Eq.refl _) (by omega) (by omega) (fun x8 ex8 => ?_)
          replace hF := hF.trans (dv_bn (ex8.symm))
          refine tr_icmp_le (tgt := 48) hx hb dX1_hasPlaceFor_43 (by decide) (Eq.refl _) (Eq.refl _) (fun c43 => ?_) (fun c43 => ?_)
          · replace hF := hF.trans (if_pos c43)
            refine lv_iconst (v := 0) hx hb dX1_hasPlaceFor_48 (by decide) ?_
            refine lv_istore (lv' := [(4, .int 0), (0, .ref a0), (1, .int p1), (2, .int p2), (3, .int p3)]) hx hb dX1_hasPlaceFor_49 hl (by decide) rfl (fun ls hl => ?_)
            have lp51 : ∀ (n51 : Nat) (locs : List Loc) (ls : Array Slot) (j51_4 : Int32), th_B G Γ Γ [] H0 H0 locs → lv_has ls 5 [(0, .ref a0), (1, .int p1), (2, .int p2), (3, .int p3), (4, .int j51_4)] → F = dv_lp f_X1_hasPlaceFor_51b (dv G Γ H0, (a0 : Int), p1.toInt, p2.toInt, p3.toInt, j51_4.toInt) → 0 ≤ j51_4.toInt → j51_4.toInt ≤ 9 → (2147483648 : Int) - j51_4.toInt ≤ (n51 : Int) → W p l e ({ frames := 2, cells := 0, slots := 0, locals := 42 } : Room) s m ([.ref a0, .int p1, .int p2, .int p3] : List Value).toArray below meth c H0 locs 0 0 (MQ below (th_Q (fun (v : Option Value) (H1 : Heap) => ∃ r : Int32, v = some (.int r) ∧ 0 ≤ r.toInt ∧ r.toInt ≤ 1 ∧ (r.toInt = 1 → 0 ≤ p1.toInt ∧ p1.toInt ≤ 8) ∧ (r.toInt = 1 → 0 ≤ p3.toInt) ∧ (f_X1_hasPlaceFor (dv G Γ H0) (a0 : Int) p1.toInt p2.toInt p3.toInt = (r.toInt, ())) ∧ H0 = H1) G) ([.ref a0, .int p1, .int p2, .int p3] : List Value).toArray s 0 0 (fun q => G.2.2 ≤ q)) (F0 m 51 ls []) := by
              intro n51
              induction n51 with
              | zero => intro locs ls j51_4 hB hl hF g51_0 g51_1 hm51; exact absurd hm51 (by have := ti_hi j51_4; omega)
              | succ n51 ih51 =>
                intro locs ls j51_4 hB hl hF g51_0 g51_1 hm51
                have lj51_4 := ti_lo j51_4; have uj51_4 := ti_hi j51_4
                have hm51 : (2147483648 : Int) - j51_4.toInt ≤ (n51 : Int) + 1 := by omega
                replace hF := hF.trans (dv_lp_eq)
                replace hF := hF.trans (congrArg (dv_k f_X1_hasPlaceFor_51b) (f_X1_hasPlaceFor_51c.eq_1 (dv G Γ H0) ((a0 : Int)) (p1.toInt) (p2.toInt) (p3.toInt) (j51_4.toInt)))
                refine lv_iload hx hb dX1_hasPlaceFor_51 (lv_at hl 4 rfl) ?_
                refine lv_aload_n hx hb dX1_hasPlaceFor_53 rfl (lv_at hl 0 rfl) ?_
                refine th_getI (j := 7) hC cf_X1 hB.1 h0 ro_3 rfl rfl kf_X1_33 dX1_hasPlaceFor_54 (fun x9 mx9 lx9 ux9 => ?_)
                replace hF := hF.trans (congrArg (dv_k f_X1_hasPlaceFor_51b) (dv_bn (dv_getI h0 ro_3 (j := 7) rfl mx9 (by decide))))
                refine tr_icmp_ge (tgt := 151) hx hb dX1_hasPlaceFor_57 (by decide) (Eq.refl _) (Eq.refl _) (fun c57 => ?_) (fun c57 => ?_)
                · replace hF := hF.trans (congrArg (dv_k f_X1_hasPlaceFor_51b) (if_pos c57))
                  refine lv_iconst (v := 1) hx hb dX1_hasPlaceFor_151 (by decide) ?_
                  replace hF := hF.trans (dv_kr)
                  exact th_iret hC hH hr hlocks narrow_b1 hB.2.1 ⟨_, rfl, by decide, by decide, by first | (intro h9; exact absurd h9 (by decide)) | (have w9 := tk_1; intros; omega), by first | (intro h9; exact absurd h9 (by decide)) | (have w9 := tk_1; intros; omega), (hF0.symm.trans (hF.trans (by rw [tk_1]))), rfl⟩ dX1_hasPlaceFor_152
                · replace hF := hF.trans (congrArg (dv_k f_X1_hasPlaceFor_51b) (if_neg (Int.not_le.mpr c57)))
                  refine lv_aload_n hx hb dX1_hasPlaceFor_60 rfl (lv_at hl 0 rfl) ?_
                  refine lv_iload hx hb dX1_hasPlaceFor_61 (lv_at hl 4 rfl) ?_
                  refine th_call (th_runV (As := [.int j51_4]) (rest := []) hC mf_X1_isLaid km_X1_56 im_X1_isLaid se_X1_isLaid (c_X1_isLaid l G Γ H0 hB.1 hU a0 h0 j51_4) rfl rfl ⟨Nat.le_of_ble_eq_true rfl, Nat.le_of_ble_eq_true rfl⟩ hB.1 h0 ro_3 rfl rfl hl.1 rfl (Nat.le_of_ble_eq_true rfl) dX1_hasPlaceFor_63 ⟨Nat.le_refl _, Nat.le_refl _⟩) hB.2.1 (fun v63 H63 locs hp hz hS => ?_)
                  obtain ⟨x10, rfl, lx10, ux10, q63_0, q63_1, q63_2, rfl⟩ := hp
                  have hB := th_B_s hB hS
                  replace hF := hF.trans (congrArg (dv_k f_X1_hasPlaceFor_51b) (dv_bn2 (q63_2)))
                  refine W.eq (g2 := F0 m 66 ls [.int x10]) rfl ?_
                  have jn145 : ∀ (locs : List Loc) (ls : Array Slot) , th_B G Γ Γ [] H0 H0 locs → lv_has ls 5 [(0, .ref a0), (1, .int p1), (2, .int p2), (3, .int p3), (4, .int j51_4)] → F = dv_k f_X1_hasPlaceFor_51b (f_X1_hasPlaceFor_145 (dv G Γ H0) ((a0 : Int)) (p1.toInt) (p2.toInt) (p3.toInt) (j51_4.toInt)) → W p l e ({ frames := 2, cells := 0, slots := 0, locals := 42 } : Room) s m ([.ref a0, .int p1, .int p2, .int p3] : List Value).toArray below meth c H0 locs 0 0 (MQ below (th_Q (fun (v : Option Value) (H1 : Heap) => ∃ r : Int32, v = some (.int r) ∧ 0 ≤ r.toInt ∧ r.toInt ≤ 1 ∧ (r.toInt = 1 → 0 ≤ p1.toInt ∧ p1.toInt ≤ 8) ∧ (r.toInt = 1 → 0 ≤ p3.toInt) ∧ (f_X1_hasPlaceFor (dv G Γ H0) (a0 : Int) p1.toInt p2.toInt p3.toInt = (r.toInt, ())) ∧ H0 = H1) G) ([.ref a0, .int p1, .int p2, .int p3] : List Value).toArray s 0 0 (fun q => G.2.2 ≤ q)) (F0 m 145 ls []) := by
                    intro locs ls hB hl hF
                    replace hF := hF.trans (congrArg (dv_k f_X1_hasPlaceFor_51b) (f_X1_hasPlaceFor_145.eq_1 (dv G Γ H0) ((a0 : Int)) (p1.toInt) (p2.toInt) (p3.toInt) (j51_4.toInt)))
                    refine tr_iinc (fun x11 => [(4, .int x11), (0, .ref a0), (1, .int p1), (2, .int p2), (3, .int p3)]) hx hb dX1_hasPlaceFor_145 hl (k := 4) rfl (Eq.refl _) tk_1 (by omega) (by omega) (by decide) (fun _ => rfl) (fun x11 ls ex11 hl => ?_)
                    replace hF := hF.trans (congrArg (dv_k f_X1_hasPlaceFor_51b) (dv_bn (ex11.symm)))
                    refine lv_goto (tgt := 51) hx hb dX1_hasPlaceFor_148 (by decide) ?_
                    replace hF := hF.trans (dv_kl)
                    exact ih51 locs ls x11 hB (lv_sub hl [1, 2, 3, 4, 0] rfl) hF (by omega) (by omega) (by omega)
                  refine tr_if_eq (tgt := 145) hx hb dX1_hasPlaceFor_66 (by decide) (Eq.refl _) (fun c66 => ?_) (fun c66 => ?_)
                  · replace hF := hF.trans (congrArg (dv_k f_X1_hasPlaceFor_51b) (if_pos c66))
                    exact jn145 locs ls hB (lv_sub hl [0, 1, 2, 3, 4] rfl) hF
                  · replace hF := hF.trans (congrArg (dv_k f_X1_hasPlaceFor_51b) (if_neg c66))
                    refine lv_iload_n hx hb dX1_hasPlaceFor_69 rfl (lv_at hl 2 rfl) ?_
                    refine lv_aload_n hx hb dX1_hasPlaceFor_70 rfl (lv_at hl 0 rfl) ?_
                    refine th_getO (j := 3) (r2 := 7) hC cf_X1 hB.1 h0 ro_3 rfl rfl kf_X1_21 dX1_hasPlaceFor_71 (fun b12 mb12 hb12 => ?_)
                    refine lv_iload hx hb dX1_hasPlaceFor_74 (lv_at hl 4 rfl) ?_
                    refine th_ialdF hC hB.1 hb12 ro_7 rfl (Eq.refl _) (by omega) (by omega) rfl dX1_hasPlaceFor_76 (fun x13 mx13 lx13 ux13 => ?_)
                    replace hF := hF.trans (congrArg (dv_k f_X1_hasPlaceFor_51b) (dv_bn (dv_aldI hB.1 hU hb12 ow_7 (z := j51_4.toInt) mx13 (by omega))))
                    refine lv_aload_n hx hb dX1_hasPlaceFor_77 rfl (lv_at hl 0 rfl) ?_
                    refine th_getK hC cf_X1 hB.1 h0 ro_3 rfl (j := 0) (by decide) mb3 kf_X1_9 dX1_hasPlaceFor_78 ?_
                    refine lv_iload hx hb dX1_hasPlaceFor_81 (lv_at hl 4 rfl) ?_
                    refine th_ialdF hC hB.1 hb3 ro_4 rfl (Eq.refl _) (by omega) (by omega) rfl dX1_hasPlaceFor_83 (fun x14 mx14 lx14 ux14 => ?_)
                    replace hF := hF.trans (congrArg (dv_k f_X1_hasPlaceFor_51b) (dv_bn (dv_aldI hB.1 hU hb3 ow_4 (z := j51_4.toInt) mx14 (by omega))))
                    refine lv_iadd hx hb dX1_hasPlaceFor_84 ?_
                    refine lv_topi (fun x15 ex15 => ?_)
                    have lx15 := ti_lo x15; have ux15 := ti_hi x15
                    replace hF := hF.trans (congrArg (dv_k f_X1_hasPlaceFor_51b) (dv_bn (dv_add_e (Eq.refl _) (Eq.refl _) ex15)))
                    refine tr_icmp_ge (tgt := 145) hx hb dX1_hasPlaceFor_85 (by decide) (Eq.refl _) (Eq.refl _) (fun c85 => ?_) (fun c85 => ?_)
                    · replace hF := hF.trans (congrArg (dv_k f_X1_hasPlaceFor_51b) (if_pos c85))
                      exact jn145 locs ls hB (lv_sub hl [0, 1, 2, 3, 4] rfl) hF
                    · replace hF := hF.trans (congrArg (dv_k f_X1_hasPlaceFor_51b) (if_neg (Int.not_le.mpr c85)))
                      refine lv_aload_n hx hb dX1_hasPlaceFor_88 rfl (lv_at hl 0 rfl) ?_
                      refine th_getK hC cf_X1 hB.1 h0 ro_3 rfl (j := 3) (by decide) mb12 kf_X1_21 dX1_hasPlaceFor_89 ?_
                      refine lv_iload hx hb dX1_hasPlaceFor_92 (lv_at hl 4 rfl) ?_
                      refine th_ialdF hC hB.1 hb12 ro_7 rfl (Eq.refl _) (by omega) (by omega) rfl dX1_hasPlaceFor_94 (fun x16 mx16 lx16 ux16 => ?_)
                      replace hF := hF.trans (congrArg (dv_k f_X1_hasPlaceFor_51b) (dv_bn (dv_aldI hB.1 hU hb12 ow_7 (z := j51_4.toInt) mx16 (by omega))))
                      have qx16 : x16.toInt = x13.toInt := by rw [show x16 = x13 from Value.int.inj (mx16.symm.trans mx13)]
                      refine lv_iload_n hx hb dX1_hasPlaceFor_95 rfl (lv_at hl 2 rfl) ?_
                      refine lv_aload_n hx hb dX1_hasPlaceFor_96 rfl (lv_at hl 0 rfl) ?_
                      refine th_getK hC cf_X1 hB.1 h0 ro_3 rfl (j := 0) (by decide) mb3 kf_X1_9 dX1_hasPlaceFor_97 ?_
                      refine lv_iload_n hx hb dX1_hasPlaceFor_100 rfl (lv_at hl 1 rfl) ?_
                      refine th_ialdF hC hB.1 hb3 ro_4 rfl (Eq.refl _) (by omega) (by omega) rfl dX1_hasPlaceFor_101 (fun x17 mx17 lx17 ux17 => ?_)
                      replace hF := hF.trans (congrArg (dv_k f_X1_hasPlaceFor_51b) (dv_bn (dv_aldI hB.1 hU hb3 ow_4 (z := p1.toInt) mx17 (by omega))))
                      have qx17 : x17.toInt = x4.toInt := by rw [show x17 = x4 from Value.int.inj (mx17.symm.trans mx4)]
                      refine tr_iadd hx hb dX1_hasPlaceFor_102 (Eq.refl _) (Eq.refl _) (by omega) (by omega) (fun x18 ex18 => ?_)
                      replace hF := hF.trans (congrArg (dv_k f_X1_hasPlaceFor_51b) (dv_bn (ex18.symm)))
                      refine tr_icmp_ge (tgt := 145) hx hb dX1_hasPlaceFor_103 (by decide) (Eq.refl _) (Eq.refl _) (fun c103 => ?_) (fun c103 => ?_)
                      · replace hF := hF.trans (congrArg (dv_k f_X1_hasPlaceFor_51b) (if_pos c103))
                        exact jn145 locs ls hB (lv_sub hl [0, 1, 2, 3, 4] rfl) hF
                      · replace hF := hF.trans (congrArg (dv_k f_X1_hasPlaceFor_51b) (if_neg (Int.not_le.mpr c103)))
                        refine lv_iload_n hx hb dX1_hasPlaceFor_106 rfl (lv_at hl 3 rfl) ?_
                        refine lv_aload_n hx hb dX1_hasPlaceFor_107 rfl (lv_at hl 0 rfl) ?_
                        refine th_getO (j := 4) (r2 := 8) hC cf_X1 hB.1 h0 ro_3 rfl rfl kf_X1_24 dX1_hasPlaceFor_108 (fun b19 mb19 hb19 => ?_)
                        refine lv_iload hx hb dX1_hasPlaceFor_111 (lv_at hl 4 rfl) ?_
                        refine th_ialdF hC hB.1 hb19 ro_8 rfl (Eq.refl _) (by omega) (by omega) rfl dX1_hasPlaceFor_113 (fun x20 mx20 lx20 ux20 => ?_)
                        replace hF := hF.trans (congrArg (dv_k f_X1_hasPlaceFor_51b) (dv_bn (dv_aldI hB.1 hU hb19 ow_8 (z := j51_4.toInt) mx20 (by omega))))
                        refine lv_aload_n hx hb dX1_hasPlaceFor_114 rfl (lv_at hl 0 rfl) ?_
                        refine th_getK hC cf_X1 hB.1 h0 ro_3 rfl (j := 0) (by decide) mb3 kf_X1_9 dX1_hasPlaceFor_115 ?_
                        refine lv_iload hx hb dX1_hasPlaceFor_118 (lv_at hl 4 rfl) ?_
                        refine th_ialdF hC hB.1 hb3 ro_4 rfl (Eq.refl _) (by omega) (by omega) rfl dX1_hasPlaceFor_120 (fun x21 mx21 lx21 ux21 => ?_)
                        replace hF := hF.trans (congrArg (dv_k f_X1_hasPlaceFor_51b) (dv_bn (dv_aldI hB.1 hU hb3 ow_4 (z := j51_4.toInt) mx21 (by omega))))
                        have qx21 : x21.toInt = x14.toInt := by rw [show x21 = x14 from Value.int.inj (mx21.symm.trans mx14)]
                        refine lv_iadd hx hb dX1_hasPlaceFor_121 ?_
                        refine lv_topi (fun x22 ex22 => ?_)
                        have lx22 := ti_lo x22; have ux22 := ti_hi x22
                        replace hF := hF.trans (congrArg (dv_k f_X1_hasPlaceFor_51b) (dv_bn (dv_add_e (Eq.refl _) (Eq.refl _) ex22)))
                        refine tr_icmp_ge (tgt := 145) hx hb dX1_hasPlaceFor_122 (by decide) (Eq.refl _) (Eq.refl _) (fun c122 => ?_) (fun c122 => ?_)
                        · replace hF := hF.trans (congrArg (dv_k f_X1_hasPlaceFor_51b) (if_pos c122))
                          exact jn145 locs ls hB (lv_sub hl [0, 1, 2, 3, 4] rfl) hF
                        · replace hF := hF.trans (congrArg (dv_k f_X1_hasPlaceFor_51b) (if_neg (Int.not_le.mpr c122)))
                          refine lv_aload_n hx hb dX1_hasPlaceFor_125 rfl (lv_at hl 0 rfl) ?_
                          refine th_getK hC cf_X1 hB.1 h0 ro_3 rfl (j := 4) (by decide) mb19 kf_X1_24 dX1_hasPlaceFor_126 ?_
                          refine lv_iload hx hb dX1_hasPlaceFor_129 (lv_at hl 4 rfl) ?_
                          refine th_ialdF hC hB.1 hb19 ro_8 rfl (Eq.refl _) (by omega) (by omega) rfl dX1_hasPlaceFor_131 (fun x23 mx23 lx23 ux23 => ?_)
                          replace hF := hF.trans (congrArg (dv_k f_X1_hasPlaceFor_51b) (dv_bn (dv_aldI hB.1 hU hb19 ow_8 (z := j51_4.toInt) mx23 (by omega))))
                          have qx23 : x23.toInt = x20.toInt := by rw [show x23 = x20 from Value.int.inj (mx23.symm.trans mx20)]
                          refine lv_iload_n hx hb dX1_hasPlaceFor_132 rfl (lv_at hl 3 rfl) ?_
                          refine lv_aload_n hx hb dX1_hasPlaceFor_133 rfl (lv_at hl 0 rfl) ?_
                          refine th_getK hC cf_X1 hB.1 h0 ro_3 rfl (j := 0) (by decide) mb3 kf_X1_9 dX1_hasPlaceFor_134 ?_
                          refine lv_iload_n hx hb dX1_hasPlaceFor_137 rfl (lv_at hl 1 rfl) ?_
                          refine th_ialdF hC hB.1 hb3 ro_4 rfl (Eq.refl _) (by omega) (by omega) rfl dX1_hasPlaceFor_138 (fun x24 mx24 lx24 ux24 => ?_)
                          replace hF := hF.trans (congrArg (dv_k f_X1_hasPlaceFor_51b) (dv_bn (dv_aldI hB.1 hU hb3 ow_4 (z := p1.toInt) mx24 (by omega))))
                          have qx24 : x24.toInt = x4.toInt := by rw [show x24 = x4 from Value.int.inj (mx24.symm.trans mx4)]
                          refine tr_iadd hx hb dX1_hasPlaceFor_139 (Eq.refl _) (Eq.refl _) (by omega) (by omega) (fun x25 ex25 => ?_)
                          replace hF := hF.trans (congrArg (dv_k f_X1_hasPlaceFor_51b) (dv_bn (ex25.symm)))
                          refine tr_icmp_ge (tgt := 145) hx hb dX1_hasPlaceFor_140 (by decide) (Eq.refl _) (Eq.refl _) (fun c140 => ?_) (fun c140 => ?_)
                          · replace hF := hF.trans (congrArg (dv_k f_X1_hasPlaceFor_51b) (if_pos c140))
                            exact jn145 locs ls hB (lv_sub hl [0, 1, 2, 3, 4] rfl) hF
                          · replace hF := hF.trans (congrArg (dv_k f_X1_hasPlaceFor_51b) (if_neg (Int.not_le.mpr c140)))
                            refine lv_iconst (v := 0) hx hb dX1_hasPlaceFor_143 (by decide) ?_
                            replace hF := hF.trans (dv_kr)
                            exact th_iret hC hH hr hlocks narrow_b0 hB.2.1 ⟨_, rfl, by decide, by decide, by first | (intro h9; exact absurd h9 (by decide)) | (have w9 := tk_0; intros; omega), by first | (intro h9; exact absurd h9 (by decide)) | (have w9 := tk_0; intros; omega), (hF0.symm.trans (hF.trans (by rw [tk_0]))), rfl⟩ dX1_hasPlaceFor_144
            exact lp51 ((2147483648 : Int) - (0)).toNat locs ls 0 hB (lv_sub hl [1, 2, 3, 4, 0] rfl) (by rw [tk_0]; exact hF) (by decide) (by decide) (by have w0 := tk_0; omega)
          · replace hF := hF.trans (if_neg (Int.not_le.mpr c43))
            refine lv_iconst (v := 0) hx hb dX1_hasPlaceFor_46 (by decide) ?_
            exact th_iret hC hH hr hlocks narrow_b0 hB.2.1 ⟨_, rfl, by decide, by decide, by first | (intro h9; exact absurd h9 (by decide)) | (have w9 := tk_0; intros; omega), by first | (intro h9; exact absurd h9 (by decide)) | (have w9 := tk_0; intros; omega), (hF0.symm.trans (hF.trans (by rw [tk_0]))), rfl⟩ dX1_hasPlaceFor_47

set_option maxHeartbeats 4000000 in
set_option maxRecDepth 100000 in
theorem c_X1_threeMoreMeetAt (l : Launch) (G : th_G) (Γ : th_Ga) (H0 : Heap) (hI : th_I G Γ H0) (hU : dv_U Γ) (a0 : Nat) (h0 : Γ a0 = (3, 0)) (p1 : Int32) (p2 : Int32) : Met l yX1_threeMoreMeetAt (.code yX1_threeMoreMeetAt cX1_threeMoreMeetAt 9 (some FieldType.boolean) :: th_tb) ({ frames := 2, cells := 0, slots := 0, locals := 42 } : Room) (th_P [.ref a0, .int p1, .int p2] G H0) (th_Q (fun (v : Option Value) (H1 : Heap) => ∃ r : Int32, v = some (.int r) ∧ 0 ≤ r.toInt ∧ r.toInt ≤ 1 ∧ (f_X1_threeMoreMeetAt (dv G Γ H0) (a0 : Int) p1.toInt p2.toInt = (r.toInt, ())) ∧ H0 = H1) G) 0 0 (fun q => G.2.2 ≤ q) := by
  refine th_met RX1 (by decide) rfl (Nat.le_of_ble_eq_true rfl) ?_
  intro p e s m below meth c hC hH hr hlocks hnm ls hl
  have hx := hC.1
  have hb := hC.2.1
  have hB : th_B G Γ Γ [] H0 H0 [] := ⟨hI, va_S.rf, th_F_rf⟩
  have hl : lv_has ls 9 [(0, .ref a0), (1, .int p1), (2, .int p2)] := hl
  have lp1 := ti_lo p1; have up1 := ti_hi p1
  have lp2 := ti_lo p2; have up2 := ti_hi p2
  obtain ⟨F, hF0⟩ : ∃ F, F = f_X1_threeMoreMeetAt (dv G Γ H0) ((a0 : Int)) (p1.toInt) (p2.toInt) := ⟨_, rfl⟩
  have hF := hF0.trans (f_X1_threeMoreMeetAt.eq_1 (dv G Γ H0) ((a0 : Int)) (p1.toInt) (p2.toInt))
  refine lv_iconst (v := 0) hx hb dX1_threeMoreMeetAt_0 (by decide) ?_
  refine lv_istore_n (lv' := [(3, .int 0), (0, .ref a0), (1, .int p1), (2, .int p2)]) hx hb dX1_threeMoreMeetAt_1 rfl hl (by decide) rfl (fun ls hl => ?_)
  refine lv_iconst (v := 0) hx hb dX1_threeMoreMeetAt_2 (by decide) ?_
  refine lv_istore (lv' := [(4, .int 0), (3, .int 0), (0, .ref a0), (1, .int p1), (2, .int p2)]) hx hb dX1_threeMoreMeetAt_3 hl (by decide) rfl (fun ls hl => ?_)
  have lp5 : ∀ (n5 : Nat) (locs : List Loc) (ls : Array Slot) (j5_3 : Int32) (j5_4 : Int32), th_B G Γ Γ [] H0 H0 locs → lv_has ls 9 [(0, .ref a0), (1, .int p1), (2, .int p2), (3, .int j5_3), (4, .int j5_4)] → F = dv_lp f_X1_threeMoreMeetAt_5b (dv G Γ H0, (a0 : Int), p1.toInt, p2.toInt, j5_3.toInt, j5_4.toInt) → 0 ≤ j5_4.toInt → j5_4.toInt ≤ 9 → (2147483648 : Int) - j5_4.toInt ≤ (n5 : Int) → W p l e ({ frames := 2, cells := 0, slots := 0, locals := 42 } : Room) s m ([.ref a0, .int p1, .int p2] : List Value).toArray below meth c H0 locs 0 0 (MQ below (th_Q (fun (v : Option Value) (H1 : Heap) => ∃ r : Int32, v = some (.int r) ∧ 0 ≤ r.toInt ∧ r.toInt ≤ 1 ∧ (f_X1_threeMoreMeetAt (dv G Γ H0) (a0 : Int) p1.toInt p2.toInt = (r.toInt, ())) ∧ H0 = H1) G) ([.ref a0, .int p1, .int p2] : List Value).toArray s 0 0 (fun q => G.2.2 ≤ q)) (F0 m 5 ls []) := by
    intro n5
    induction n5 with
    | zero => intro locs ls j5_3 j5_4 hB hl hF g5_0 g5_1 hm5; exact absurd hm5 (by have := ti_hi j5_4; omega)
    | succ n5 ih5 =>
      intro locs ls j5_3 j5_4 hB hl hF g5_0 g5_1 hm5
      have lj5_3 := ti_lo j5_3; have uj5_3 := ti_hi j5_3
      have lj5_4 := ti_lo j5_4; have uj5_4 := ti_hi j5_4
      have hm5 : (2147483648 : Int) - j5_4.toInt ≤ (n5 : Int) + 1 := by omega
      replace hF := hF.trans (dv_lp_eq)
      replace hF := hF.trans (congrArg (dv_k f_X1_threeMoreMeetAt_5b) (f_X1_threeMoreMeetAt_5c.eq_1 (dv G Γ H0) ((a0 : Int)) (p1.toInt) (p2.toInt) (j5_3.toInt) (j5_4.toInt)))
      refine lv_iload hx hb dX1_threeMoreMeetAt_5 (lv_at hl 4 rfl) ?_
      refine lv_aload_n hx hb dX1_threeMoreMeetAt_7 rfl (lv_at hl 0 rfl) ?_
      refine th_getI (j := 7) hC cf_X1 hB.1 h0 ro_3 rfl rfl kf_X1_33 dX1_threeMoreMeetAt_8 (fun x1 mx1 lx1 ux1 => ?_)
      replace hF := hF.trans (congrArg (dv_k f_X1_threeMoreMeetAt_5b) (dv_bn (dv_getI h0 ro_3 (j := 7) rfl mx1 (by decide))))
      refine tr_icmp_ge (tgt := 158) hx hb dX1_threeMoreMeetAt_11 (by decide) (Eq.refl _) (Eq.refl _) (fun c11 => ?_) (fun c11 => ?_)
      · replace hF := hF.trans (congrArg (dv_k f_X1_threeMoreMeetAt_5b) (if_pos c11))
        refine lv_iload_n hx hb dX1_threeMoreMeetAt_158 rfl (lv_at hl 3 rfl) ?_
        refine lv_iconst (v := 3) hx hb dX1_threeMoreMeetAt_159 (by decide) ?_
        refine tr_icmp_ne (tgt := 167) hx hb dX1_threeMoreMeetAt_160 (by decide) (Eq.refl _) tk_3 (fun c160 => ?_) (fun c160 => ?_)
        · replace hF := hF.trans (congrArg (dv_k f_X1_threeMoreMeetAt_5b) (if_pos c160))
          refine lv_iconst (v := 0) hx hb dX1_threeMoreMeetAt_167 (by decide) ?_
          replace hF := hF.trans (dv_kr)
          exact th_iret hC hH hr hlocks narrow_b0 hB.2.1 ⟨_, rfl, by decide, by decide, (hF0.symm.trans (hF.trans (by rw [tk_0]))), rfl⟩ dX1_threeMoreMeetAt_168
        · replace hF := hF.trans (congrArg (dv_k f_X1_threeMoreMeetAt_5b) (if_neg (not_not_intro c160)))
          refine lv_iconst (v := 1) hx hb dX1_threeMoreMeetAt_163 (by decide) ?_
          refine lv_goto (tgt := 168) hx hb dX1_threeMoreMeetAt_164 (by decide) ?_
          replace hF := hF.trans (dv_kr)
          exact th_iret hC hH hr hlocks narrow_b1 hB.2.1 ⟨_, rfl, by decide, by decide, (hF0.symm.trans (hF.trans (by rw [tk_1]))), rfl⟩ dX1_threeMoreMeetAt_168
      · replace hF := hF.trans (congrArg (dv_k f_X1_threeMoreMeetAt_5b) (if_neg (Int.not_le.mpr c11)))
        refine lv_aload_n hx hb dX1_threeMoreMeetAt_14 rfl (lv_at hl 0 rfl) ?_
        refine lv_iload hx hb dX1_threeMoreMeetAt_15 (lv_at hl 4 rfl) ?_
        refine th_call (th_runV (As := [.int j5_4]) (rest := []) hC mf_X1_isLaid km_X1_56 im_X1_isLaid se_X1_isLaid (c_X1_isLaid l G Γ H0 hB.1 hU a0 h0 j5_4) rfl rfl ⟨Nat.le_of_ble_eq_true rfl, Nat.le_of_ble_eq_true rfl⟩ hB.1 h0 ro_3 rfl rfl hl.1 rfl (Nat.le_of_ble_eq_true rfl) dX1_threeMoreMeetAt_17 ⟨Nat.le_refl _, Nat.le_refl _⟩) hB.2.1 (fun v17 H17 locs hp hz hS => ?_)
        obtain ⟨x2, rfl, lx2, ux2, q17_0, q17_1, q17_2, rfl⟩ := hp
        have hB := th_B_s hB hS
        replace hF := hF.trans (congrArg (dv_k f_X1_threeMoreMeetAt_5b) (dv_bn2 (q17_2)))
        refine W.eq (g2 := F0 m 20 ls [.int x2]) rfl ?_
        have jn152 : ∀ (locs : List Loc) (ls : Array Slot) (j152_3 : Int32), th_B G Γ Γ [] H0 H0 locs → lv_has ls 9 [(0, .ref a0), (1, .int p1), (2, .int p2), (4, .int j5_4), (3, .int j152_3)] → F = dv_k f_X1_threeMoreMeetAt_5b (f_X1_threeMoreMeetAt_152 (dv G Γ H0) ((a0 : Int)) (p1.toInt) (p2.toInt) (j5_4.toInt) (j152_3.toInt)) → W p l e ({ frames := 2, cells := 0, slots := 0, locals := 42 } : Room) s m ([.ref a0, .int p1, .int p2] : List Value).toArray below meth c H0 locs 0 0 (MQ below (th_Q (fun (v : Option Value) (H1 : Heap) => ∃ r : Int32, v = some (.int r) ∧ 0 ≤ r.toInt ∧ r.toInt ≤ 1 ∧ (f_X1_threeMoreMeetAt (dv G Γ H0) (a0 : Int) p1.toInt p2.toInt = (r.toInt, ())) ∧ H0 = H1) G) ([.ref a0, .int p1, .int p2] : List Value).toArray s 0 0 (fun q => G.2.2 ≤ q)) (F0 m 152 ls []) := by
          intro locs ls j152_3 hB hl hF
          have lj152_3 := ti_lo j152_3; have uj152_3 := ti_hi j152_3
          replace hF := hF.trans (congrArg (dv_k f_X1_threeMoreMeetAt_5b) (f_X1_threeMoreMeetAt_152.eq_1 (dv G Γ H0) ((a0 : Int)) (p1.toInt) (p2.toInt) (j5_4.toInt) (j152_3.toInt)))
          refine tr_iinc (fun x3 => [(4, .int x3), (0, .ref a0), (1, .int p1), (2, .int p2), (3, .int j152_3)]) hx hb dX1_threeMoreMeetAt_152 hl (k := 3) rfl (Eq.refl _) tk_1 (by omega) (by omega) (by decide) (fun _ => rfl) (fun x3 ls ex3 hl => ?_)
          replace hF := hF.trans (congrArg (dv_k f_X1_threeMoreMeetAt_5b) (dv_bn (ex3.symm)))
          refine lv_goto (tgt := 5) hx hb dX1_threeMoreMeetAt_155 (by decide) ?_
          replace hF := hF.trans (dv_kl)
          exact ih5 locs ls j152_3 x3 hB (lv_sub hl [1, 2, 3, 4, 0] rfl) hF (by omega) (by omega) (by omega)
        refine tr_if_ne (tgt := 26) hx hb dX1_threeMoreMeetAt_20 (by decide) (Eq.refl _) (fun c20 => ?_) (fun c20 => ?_)
        · replace hF := hF.trans (congrArg (dv_k f_X1_threeMoreMeetAt_5b) (if_pos c20))
          refine lv_aload_n hx hb dX1_threeMoreMeetAt_26 rfl (lv_at hl 0 rfl) ?_
          refine th_getO (j := 3) (r2 := 7) hC cf_X1 hB.1 h0 ro_3 rfl rfl kf_X1_21 dX1_threeMoreMeetAt_27 (fun b4 mb4 hb4 => ?_)
          refine lv_iload hx hb dX1_threeMoreMeetAt_30 (lv_at hl 4 rfl) ?_
          refine th_ialdF hC hB.1 hb4 ro_7 rfl (Eq.refl _) (by omega) (by omega) rfl dX1_threeMoreMeetAt_32 (fun x5 mx5 lx5 ux5 => ?_)
          replace hF := hF.trans (congrArg (dv_k f_X1_threeMoreMeetAt_5b) (dv_bn (dv_aldI hB.1 hU hb4 ow_7 (z := j5_4.toInt) mx5 (by omega))))
          refine lv_iload_n hx hb dX1_threeMoreMeetAt_33 rfl (lv_at hl 1 rfl) ?_
          have jn42 : ∀ (locs : List Loc) (ls : Array Slot) (s42_0 : Int32), th_B G Γ Γ [] H0 H0 locs → lv_has ls 9 [(0, .ref a0), (1, .int p1), (2, .int p2), (3, .int j5_3), (4, .int j5_4)] → F = dv_k f_X1_threeMoreMeetAt_5b (f_X1_threeMoreMeetAt_42 (dv G Γ H0) ((a0 : Int)) (p1.toInt) (p2.toInt) (j5_3.toInt) (j5_4.toInt) (s42_0.toInt)) → 0 ≤ s42_0.toInt → s42_0.toInt ≤ 1 → W p l e ({ frames := 2, cells := 0, slots := 0, locals := 42 } : Room) s m ([.ref a0, .int p1, .int p2] : List Value).toArray below meth c H0 locs 0 0 (MQ below (th_Q (fun (v : Option Value) (H1 : Heap) => ∃ r : Int32, v = some (.int r) ∧ 0 ≤ r.toInt ∧ r.toInt ≤ 1 ∧ (f_X1_threeMoreMeetAt (dv G Γ H0) (a0 : Int) p1.toInt p2.toInt = (r.toInt, ())) ∧ H0 = H1) G) ([.ref a0, .int p1, .int p2] : List Value).toArray s 0 0 (fun q => G.2.2 ≤ q)) (F0 m 42 ls [.int s42_0]) := by
            intro locs ls s42_0 hB hl hF g42_0 g42_1
            have ls42_0 := ti_lo s42_0; have us42_0 := ti_hi s42_0
            replace hF := hF.trans (congrArg (dv_k f_X1_threeMoreMeetAt_5b) (f_X1_threeMoreMeetAt_42.eq_1 (dv G Γ H0) ((a0 : Int)) (p1.toInt) (p2.toInt) (j5_3.toInt) (j5_4.toInt) (s42_0.toInt)))
            refine lv_istore (lv' := [(5, .int s42_0), (0, .ref a0), (1, .int p1), (2, .int p2), (3, .int j5_3), (4, .int j5_4)]) hx hb dX1_threeMoreMeetAt_42 hl (by decide) rfl (fun ls hl => ?_)
            refine lv_aload_n hx hb dX1_threeMoreMeetAt_44 rfl (lv_at hl 1 rfl) ?_
            refine th_getK hC cf_X1 hB.1 h0 ro_3 rfl (j := 3) (by decide) mb4 kf_X1_21 dX1_threeMoreMeetAt_45 ?_
            refine lv_iload hx hb dX1_threeMoreMeetAt_48 (lv_at hl 5 rfl) ?_
            refine th_ialdF hC hB.1 hb4 ro_7 rfl (Eq.refl _) (by omega) (by omega) rfl dX1_threeMoreMeetAt_50 (fun x6 mx6 lx6 ux6 => ?_)
            replace hF := hF.trans (congrArg (dv_k f_X1_threeMoreMeetAt_5b) (dv_bn (dv_aldI hB.1 hU hb4 ow_7 (z := j5_4.toInt) mx6 (by omega))))
            have qx6 : x6.toInt = x5.toInt := by rw [show x6 = x5 from Value.int.inj (mx6.symm.trans mx5)]
            refine lv_aload_n hx hb dX1_threeMoreMeetAt_51 rfl (lv_at hl 1 rfl) ?_
            refine th_getO (j := 0) (r2 := 4) hC cf_X1 hB.1 h0 ro_3 rfl rfl kf_X1_9 dX1_threeMoreMeetAt_52 (fun b7 mb7 hb7 => ?_)
            refine lv_iload hx hb dX1_threeMoreMeetAt_55 (lv_at hl 5 rfl) ?_
            refine th_ialdF hC hB.1 hb7 ro_4 rfl (Eq.refl _) (by omega) (by omega) rfl dX1_threeMoreMeetAt_57 (fun x8 mx8 lx8 ux8 => ?_)
            replace hF := hF.trans (congrArg (dv_k f_X1_threeMoreMeetAt_5b) (dv_bn (dv_aldI hB.1 hU hb7 ow_4 (z := j5_4.toInt) mx8 (by omega))))
            refine lv_iadd hx hb dX1_threeMoreMeetAt_58 ?_
            refine lv_topi (fun x9 ex9 => ?_)
            have lx9 := ti_lo x9; have ux9 := ti_hi x9
            replace hF := hF.trans (congrArg (dv_k f_X1_threeMoreMeetAt_5b) (dv_bn (dv_add_e (Eq.refl _) (Eq.refl _) ex9)))
            refine lv_iload_n hx hb dX1_threeMoreMeetAt_59 rfl (lv_at hl 2 rfl) ?_
            have jn68 : ∀ (locs : List Loc) (ls : Array Slot) (s68_0 : Int32), th_B G Γ Γ [] H0 H0 locs → lv_has ls 9 [(5, .int s42_0), (0, .ref a0), (1, .int p1), (2, .int p2), (3, .int j5_3), (4, .int j5_4)] → F = dv_k f_X1_threeMoreMeetAt_5b (f_X1_threeMoreMeetAt_68 (dv G Γ H0) (s42_0.toInt) ((a0 : Int)) (p1.toInt) (p2.toInt) (j5_3.toInt) (j5_4.toInt) (s68_0.toInt)) → 0 ≤ s68_0.toInt → s68_0.toInt ≤ 1 → W p l e ({ frames := 2, cells := 0, slots := 0, locals := 42 } : Room) s m ([.ref a0, .int p1, .int p2] : List Value).toArray below meth c H0 locs 0 0 (MQ below (th_Q (fun (v : Option Value) (H1 : Heap) => ∃ r : Int32, v = some (.int r) ∧ 0 ≤ r.toInt ∧ r.toInt ≤ 1 ∧ (f_X1_threeMoreMeetAt (dv G Γ H0) (a0 : Int) p1.toInt p2.toInt = (r.toInt, ())) ∧ H0 = H1) G) ([.ref a0, .int p1, .int p2] : List Value).toArray s 0 0 (fun q => G.2.2 ≤ q)) (F0 m 68 ls [.int s68_0]) := by
              intro locs ls s68_0 hB hl hF g68_0 g68_1
              have ls68_0 := ti_lo s68_0; have us68_0 := ti_hi s68_0
              replace hF := hF.trans (congrArg (dv_k f_X1_threeMoreMeetAt_5b) (f_X1_threeMoreMeetAt_68.eq_1 (dv G Γ H0) (s42_0.toInt) ((a0 : Int)) (p1.toInt) (p2.toInt) (j5_3.toInt) (j5_4.toInt) (s68_0.toInt)))
              refine lv_istore (lv' := [(6, .int s68_0), (5, .int s42_0), (0, .ref a0), (1, .int p1), (2, .int p2), (3, .int j5_3), (4, .int j5_4)]) hx hb dX1_threeMoreMeetAt_68 hl (by decide) rfl (fun ls hl => ?_)
              refine lv_aload_n hx hb dX1_threeMoreMeetAt_70 rfl (lv_at hl 2 rfl) ?_
              refine th_getO (j := 4) (r2 := 8) hC cf_X1 hB.1 h0 ro_3 rfl rfl kf_X1_24 dX1_threeMoreMeetAt_71 (fun b10 mb10 hb10 => ?_)
              refine lv_iload hx hb dX1_threeMoreMeetAt_74 (lv_at hl 6 rfl) ?_
              refine th_ialdF hC hB.1 hb10 ro_8 rfl (Eq.refl _) (by omega) (by omega) rfl dX1_threeMoreMeetAt_76 (fun x11 mx11 lx11 ux11 => ?_)
              replace hF := hF.trans (congrArg (dv_k f_X1_threeMoreMeetAt_5b) (dv_bn (dv_aldI hB.1 hU hb10 ow_8 (z := j5_4.toInt) mx11 (by omega))))
              refine lv_iload_n hx hb dX1_threeMoreMeetAt_77 rfl (lv_at hl 4 rfl) ?_
              have jn86 : ∀ (locs : List Loc) (ls : Array Slot) (s86_0 : Int32), th_B G Γ Γ [] H0 H0 locs → lv_has ls 9 [(6, .int s68_0), (5, .int s42_0), (0, .ref a0), (1, .int p1), (2, .int p2), (3, .int j5_3), (4, .int j5_4)] → F = dv_k f_X1_threeMoreMeetAt_5b (f_X1_threeMoreMeetAt_86 (dv G Γ H0) (s68_0.toInt) (s42_0.toInt) ((a0 : Int)) (p1.toInt) (p2.toInt) (j5_3.toInt) (j5_4.toInt) (s86_0.toInt)) → 0 ≤ s86_0.toInt → s86_0.toInt ≤ 1 → W p l e ({ frames := 2, cells := 0, slots := 0, locals := 42 } : Room) s m ([.ref a0, .int p1, .int p2] : List Value).toArray below meth c H0 locs 0 0 (MQ below (th_Q (fun (v : Option Value) (H1 : Heap) => ∃ r : Int32, v = some (.int r) ∧ 0 ≤ r.toInt ∧ r.toInt ≤ 1 ∧ (f_X1_threeMoreMeetAt (dv G Γ H0) (a0 : Int) p1.toInt p2.toInt = (r.toInt, ())) ∧ H0 = H1) G) ([.ref a0, .int p1, .int p2] : List Value).toArray s 0 0 (fun q => G.2.2 ≤ q)) (F0 m 86 ls [.int s86_0]) := by
                intro locs ls s86_0 hB hl hF g86_0 g86_1
                have ls86_0 := ti_lo s86_0; have us86_0 := ti_hi s86_0
                replace hF := hF.trans (congrArg (dv_k f_X1_threeMoreMeetAt_5b) (f_X1_threeMoreMeetAt_86.eq_1 (dv G Γ H0) (s68_0.toInt) (s42_0.toInt) ((a0 : Int)) (p1.toInt) (p2.toInt) (j5_3.toInt) (j5_4.toInt) (s86_0.toInt)))
                refine lv_istore (lv' := [(7, .int s86_0), (6, .int s68_0), (5, .int s42_0), (0, .ref a0), (1, .int p1), (2, .int p2), (3, .int j5_3), (4, .int j5_4)]) hx hb dX1_threeMoreMeetAt_86 hl (by decide) rfl (fun ls hl => ?_)
                refine lv_aload_n hx hb dX1_threeMoreMeetAt_88 rfl (lv_at hl 3 rfl) ?_
                refine th_getK hC cf_X1 hB.1 h0 ro_3 rfl (j := 4) (by decide) mb10 kf_X1_24 dX1_threeMoreMeetAt_89 ?_
                refine lv_iload hx hb dX1_threeMoreMeetAt_92 (lv_at hl 7 rfl) ?_
                refine th_ialdF hC hB.1 hb10 ro_8 rfl (Eq.refl _) (by omega) (by omega) rfl dX1_threeMoreMeetAt_94 (fun x12 mx12 lx12 ux12 => ?_)
                replace hF := hF.trans (congrArg (dv_k f_X1_threeMoreMeetAt_5b) (dv_bn (dv_aldI hB.1 hU hb10 ow_8 (z := j5_4.toInt) mx12 (by omega))))
                have qx12 : x12.toInt = x11.toInt := by rw [show x12 = x11 from Value.int.inj (mx12.symm.trans mx11)]
                refine lv_aload_n hx hb dX1_threeMoreMeetAt_95 rfl (lv_at hl 3 rfl) ?_
                refine th_getK hC cf_X1 hB.1 h0 ro_3 rfl (j := 0) (by decide) mb7 kf_X1_9 dX1_threeMoreMeetAt_96 ?_
                refine lv_iload hx hb dX1_threeMoreMeetAt_99 (lv_at hl 7 rfl) ?_
                refine th_ialdF hC hB.1 hb7 ro_4 rfl (Eq.refl _) (by omega) (by omega) rfl dX1_threeMoreMeetAt_101 (fun x13 mx13 lx13 ux13 => ?_)
                replace hF := hF.trans (congrArg (dv_k f_X1_threeMoreMeetAt_5b) (dv_bn (dv_aldI hB.1 hU hb7 ow_4 (z := j5_4.toInt) mx13 (by omega))))
                have qx13 : x13.toInt = x8.toInt := by rw [show x13 = x8 from Value.int.inj (mx13.symm.trans mx8)]
                refine lv_iadd hx hb dX1_threeMoreMeetAt_102 ?_
                refine lv_topi (fun x14 ex14 => ?_)
                have lx14 := ti_lo x14; have ux14 := ti_hi x14
                replace hF := hF.trans (congrArg (dv_k f_X1_threeMoreMeetAt_5b) (dv_bn (dv_add_e (Eq.refl _) (Eq.refl _) ex14)))
                refine lv_iload_n hx hb dX1_threeMoreMeetAt_103 rfl (lv_at hl 5 rfl) ?_
                have jn112 : ∀ (locs : List Loc) (ls : Array Slot) (s112_0 : Int32), th_B G Γ Γ [] H0 H0 locs → lv_has ls 9 [(7, .int s86_0), (6, .int s68_0), (5, .int s42_0), (0, .ref a0), (1, .int p1), (2, .int p2), (3, .int j5_3), (4, .int j5_4)] → F = dv_k f_X1_threeMoreMeetAt_5b (f_X1_threeMoreMeetAt_112 (dv G Γ H0) (s86_0.toInt) (s68_0.toInt) (s42_0.toInt) ((a0 : Int)) (p1.toInt) (p2.toInt) (j5_3.toInt) (j5_4.toInt) (s112_0.toInt)) → 0 ≤ s112_0.toInt → s112_0.toInt ≤ 1 → W p l e ({ frames := 2, cells := 0, slots := 0, locals := 42 } : Room) s m ([.ref a0, .int p1, .int p2] : List Value).toArray below meth c H0 locs 0 0 (MQ below (th_Q (fun (v : Option Value) (H1 : Heap) => ∃ r : Int32, v = some (.int r) ∧ 0 ≤ r.toInt ∧ r.toInt ≤ 1 ∧ (f_X1_threeMoreMeetAt (dv G Γ H0) (a0 : Int) p1.toInt p2.toInt = (r.toInt, ())) ∧ H0 = H1) G) ([.ref a0, .int p1, .int p2] : List Value).toArray s 0 0 (fun q => G.2.2 ≤ q)) (F0 m 112 ls [.int s112_0]) := by
                  intro locs ls s112_0 hB hl hF g112_0 g112_1
                  have ls112_0 := ti_lo s112_0; have us112_0 := ti_hi s112_0
                  replace hF := hF.trans (congrArg (dv_k f_X1_threeMoreMeetAt_5b) (f_X1_threeMoreMeetAt_112.eq_1 (dv G Γ H0) (s86_0.toInt) (s68_0.toInt) (s42_0.toInt) ((a0 : Int)) (p1.toInt) (p2.toInt) (j5_3.toInt) (j5_4.toInt) (s112_0.toInt)))
                  refine lv_istore (lv' := [(8, .int s112_0), (7, .int s86_0), (6, .int s68_0), (5, .int s42_0), (0, .ref a0), (1, .int p1), (2, .int p2), (3, .int j5_3), (4, .int j5_4)]) hx hb dX1_threeMoreMeetAt_112 hl (by decide) rfl (fun ls hl => ?_)
                  refine lv_iload_n hx hb dX1_threeMoreMeetAt_114 rfl (lv_at hl 7 rfl) ?_
                  refine lv_iload hx hb dX1_threeMoreMeetAt_115 (lv_at hl 3 rfl) ?_
                  have jn150 : ∀ (locs : List Loc) (ls : Array Slot) (s150_1 : Int32), th_B G Γ Γ [] H0 H0 locs → lv_has ls 9 [(0, .ref a0), (1, .int p1), (2, .int p2), (4, .int j5_4)] → F = dv_k f_X1_threeMoreMeetAt_5b (f_X1_threeMoreMeetAt_150 (dv G Γ H0) ((a0 : Int)) (p1.toInt) (p2.toInt) (j5_4.toInt) (j5_3.toInt) (s150_1.toInt)) → 0 ≤ s150_1.toInt → s150_1.toInt ≤ 1 → W p l e ({ frames := 2, cells := 0, slots := 0, locals := 42 } : Room) s m ([.ref a0, .int p1, .int p2] : List Value).toArray below meth c H0 locs 0 0 (MQ below (th_Q (fun (v : Option Value) (H1 : Heap) => ∃ r : Int32, v = some (.int r) ∧ 0 ≤ r.toInt ∧ r.toInt ≤ 1 ∧ (f_X1_threeMoreMeetAt (dv G Γ H0) (a0 : Int) p1.toInt p2.toInt = (r.toInt, ())) ∧ H0 = H1) G) ([.ref a0, .int p1, .int p2] : List Value).toArray s 0 0 (fun q => G.2.2 ≤ q)) (F0 m 150 ls [.int s150_1, .int j5_3]) := by
                    intro locs ls s150_1 hB hl hF g150_0 g150_1
                    have ls150_1 := ti_lo s150_1; have us150_1 := ti_hi s150_1
                    replace hF := hF.trans (congrArg (dv_k f_X1_threeMoreMeetAt_5b) (f_X1_threeMoreMeetAt_150.eq_1 (dv G Γ H0) ((a0 : Int)) (p1.toInt) (p2.toInt) (j5_4.toInt) (j5_3.toInt) (s150_1.toInt)))
                    refine lv_iadd hx hb dX1_threeMoreMeetAt_150 ?_
                    refine lv_topi (fun x15 ex15 => ?_)
                    have lx15 := ti_lo x15; have ux15 := ti_hi x15
                    replace hF := hF.trans (congrArg (dv_k f_X1_threeMoreMeetAt_5b) (dv_bn (dv_add_e (Eq.refl _) (Eq.refl _) ex15)))
                    refine lv_istore_n (lv' := [(3, .int x15), (0, .ref a0), (1, .int p1), (2, .int p2), (4, .int j5_4)]) hx hb dX1_threeMoreMeetAt_151 rfl hl (by decide) rfl (fun ls hl => ?_)
                    exact jn152 locs ls x15 hB (lv_sub hl [1, 2, 3, 4, 0] rfl) hF
                  have jn145 : ∀ (locs : List Loc) (ls : Array Slot) , th_B G Γ Γ [] H0 H0 locs → lv_has ls 9 [(0, .ref a0), (1, .int p1), (2, .int p2), (4, .int j5_4)] → F = dv_k f_X1_threeMoreMeetAt_5b (f_X1_threeMoreMeetAt_145 (dv G Γ H0) ((a0 : Int)) (p1.toInt) (p2.toInt) (j5_4.toInt) (j5_3.toInt)) → W p l e ({ frames := 2, cells := 0, slots := 0, locals := 42 } : Room) s m ([.ref a0, .int p1, .int p2] : List Value).toArray below meth c H0 locs 0 0 (MQ below (th_Q (fun (v : Option Value) (H1 : Heap) => ∃ r : Int32, v = some (.int r) ∧ 0 ≤ r.toInt ∧ r.toInt ≤ 1 ∧ (f_X1_threeMoreMeetAt (dv G Γ H0) (a0 : Int) p1.toInt p2.toInt = (r.toInt, ())) ∧ H0 = H1) G) ([.ref a0, .int p1, .int p2] : List Value).toArray s 0 0 (fun q => G.2.2 ≤ q)) (F0 m 145 ls [.int j5_3]) := by
                    intro locs ls hB hl hF
                    replace hF := hF.trans (congrArg (dv_k f_X1_threeMoreMeetAt_5b) (f_X1_threeMoreMeetAt_145.eq_1 (dv G Γ H0) ((a0 : Int)) (p1.toInt) (p2.toInt) (j5_4.toInt) (j5_3.toInt)))
                    refine lv_iconst (v := 1) hx hb dX1_threeMoreMeetAt_145 (by decide) ?_
                    refine lv_goto (tgt := 150) hx hb dX1_threeMoreMeetAt_146 (by decide) ?_
                    exact jn150 locs ls 1 hB (lv_sub hl [0, 1, 2, 3] rfl) (by rw [tk_1]; exact hF) (by decide) (by decide)
                  have jn125 : ∀ (locs : List Loc) (ls : Array Slot) , th_B G Γ Γ [] H0 H0 locs → lv_has ls 9 [(8, .int s112_0), (7, .int s86_0), (6, .int s68_0), (5, .int s42_0), (0, .ref a0), (1, .int p1), (2, .int p2), (4, .int j5_4)] → F = dv_k f_X1_threeMoreMeetAt_5b (f_X1_threeMoreMeetAt_125 (dv G Γ H0) (s112_0.toInt) (s86_0.toInt) (s68_0.toInt) (s42_0.toInt) ((a0 : Int)) (p1.toInt) (p2.toInt) (j5_4.toInt) (j5_3.toInt)) → W p l e ({ frames := 2, cells := 0, slots := 0, locals := 42 } : Room) s m ([.ref a0, .int p1, .int p2] : List Value).toArray below meth c H0 locs 0 0 (MQ below (th_Q (fun (v : Option Value) (H1 : Heap) => ∃ r : Int32, v = some (.int r) ∧ 0 ≤ r.toInt ∧ r.toInt ≤ 1 ∧ (f_X1_threeMoreMeetAt (dv G Γ H0) (a0 : Int) p1.toInt p2.toInt = (r.toInt, ())) ∧ H0 = H1) G) ([.ref a0, .int p1, .int p2] : List Value).toArray s 0 0 (fun q => G.2.2 ≤ q)) (F0 m 125 ls [.int j5_3]) := by
                    intro locs ls hB hl hF
                    replace hF := hF.trans (congrArg (dv_k f_X1_threeMoreMeetAt_5b) (f_X1_threeMoreMeetAt_125.eq_1 (dv G Γ H0) (s112_0.toInt) (s86_0.toInt) (s68_0.toInt) (s42_0.toInt) ((a0 : Int)) (p1.toInt) (p2.toInt) (j5_4.toInt) (j5_3.toInt)))
                    refine lv_iload hx hb dX1_threeMoreMeetAt_125 (lv_at hl 3 rfl) ?_
                    have jn135 : ∀ (locs : List Loc) (ls : Array Slot) , th_B G Γ Γ [] H0 H0 locs → lv_has ls 9 [(7, .int s86_0), (6, .int s68_0), (0, .ref a0), (1, .int p1), (2, .int p2), (4, .int j5_4)] → F = dv_k f_X1_threeMoreMeetAt_5b (f_X1_threeMoreMeetAt_135 (dv G Γ H0) (s86_0.toInt) (s68_0.toInt) ((a0 : Int)) (p1.toInt) (p2.toInt) (j5_4.toInt) (j5_3.toInt)) → W p l e ({ frames := 2, cells := 0, slots := 0, locals := 42 } : Room) s m ([.ref a0, .int p1, .int p2] : List Value).toArray below meth c H0 locs 0 0 (MQ below (th_Q (fun (v : Option Value) (H1 : Heap) => ∃ r : Int32, v = some (.int r) ∧ 0 ≤ r.toInt ∧ r.toInt ≤ 1 ∧ (f_X1_threeMoreMeetAt (dv G Γ H0) (a0 : Int) p1.toInt p2.toInt = (r.toInt, ())) ∧ H0 = H1) G) ([.ref a0, .int p1, .int p2] : List Value).toArray s 0 0 (fun q => G.2.2 ≤ q)) (F0 m 135 ls [.int j5_3]) := by
                      intro locs ls hB hl hF
                      replace hF := hF.trans (congrArg (dv_k f_X1_threeMoreMeetAt_5b) (f_X1_threeMoreMeetAt_135.eq_1 (dv G Γ H0) (s86_0.toInt) (s68_0.toInt) ((a0 : Int)) (p1.toInt) (p2.toInt) (j5_4.toInt) (j5_3.toInt)))
                      refine lv_iload hx hb dX1_threeMoreMeetAt_135 (lv_at hl 1 rfl) ?_
                      have jn149 : ∀ (locs : List Loc) (ls : Array Slot) , th_B G Γ Γ [] H0 H0 locs → lv_has ls 9 [(0, .ref a0), (1, .int p1), (2, .int p2), (4, .int j5_4)] → F = dv_k f_X1_threeMoreMeetAt_5b (f_X1_threeMoreMeetAt_149 (dv G Γ H0) ((a0 : Int)) (p1.toInt) (p2.toInt) (j5_4.toInt) (j5_3.toInt)) → W p l e ({ frames := 2, cells := 0, slots := 0, locals := 42 } : Room) s m ([.ref a0, .int p1, .int p2] : List Value).toArray below meth c H0 locs 0 0 (MQ below (th_Q (fun (v : Option Value) (H1 : Heap) => ∃ r : Int32, v = some (.int r) ∧ 0 ≤ r.toInt ∧ r.toInt ≤ 1 ∧ (f_X1_threeMoreMeetAt (dv G Γ H0) (a0 : Int) p1.toInt p2.toInt = (r.toInt, ())) ∧ H0 = H1) G) ([.ref a0, .int p1, .int p2] : List Value).toArray s 0 0 (fun q => G.2.2 ≤ q)) (F0 m 149 ls [.int j5_3]) := by
                        intro locs ls hB hl hF
                        replace hF := hF.trans (congrArg (dv_k f_X1_threeMoreMeetAt_5b) (f_X1_threeMoreMeetAt_149.eq_1 (dv G Γ H0) ((a0 : Int)) (p1.toInt) (p2.toInt) (j5_4.toInt) (j5_3.toInt)))
                        refine lv_iconst (v := 0) hx hb dX1_threeMoreMeetAt_149 (by decide) ?_
                        exact jn150 locs ls 0 hB (lv_sub hl [0, 1, 2, 3] rfl) (by rw [tk_0]; exact hF) (by decide) (by decide)
                      refine tr_if_eq (tgt := 149) hx hb dX1_threeMoreMeetAt_137 (by decide) (Eq.refl _) (fun c137 => ?_) (fun c137 => ?_)
                      · replace hF := hF.trans (congrArg (dv_k f_X1_threeMoreMeetAt_5b) (if_pos c137))
                        exact jn149 locs ls hB (lv_sub hl [2, 3, 4, 5] rfl) hF
                      · replace hF := hF.trans (congrArg (dv_k f_X1_threeMoreMeetAt_5b) (if_neg c137))
                        refine lv_iload hx hb dX1_threeMoreMeetAt_140 (lv_at hl 0 rfl) ?_
                        refine tr_if_eq (tgt := 149) hx hb dX1_threeMoreMeetAt_142 (by decide) (Eq.refl _) (fun c142 => ?_) (fun c142 => ?_)
                        · replace hF := hF.trans (congrArg (dv_k f_X1_threeMoreMeetAt_5b) (if_pos c142))
                          exact jn149 locs ls hB (lv_sub hl [2, 3, 4, 5] rfl) hF
                        · replace hF := hF.trans (congrArg (dv_k f_X1_threeMoreMeetAt_5b) (if_neg c142))
                          exact jn145 locs ls hB (lv_sub hl [2, 3, 4, 5] rfl) hF
                    refine tr_if_eq (tgt := 135) hx hb dX1_threeMoreMeetAt_127 (by decide) (Eq.refl _) (fun c127 => ?_) (fun c127 => ?_)
                    · replace hF := hF.trans (congrArg (dv_k f_X1_threeMoreMeetAt_5b) (if_pos c127))
                      exact jn135 locs ls hB (lv_sub hl [1, 2, 4, 5, 6, 7] rfl) hF
                    · replace hF := hF.trans (congrArg (dv_k f_X1_threeMoreMeetAt_5b) (if_neg c127))
                      refine lv_iload hx hb dX1_threeMoreMeetAt_130 (lv_at hl 0 rfl) ?_
                      refine tr_if_ne (tgt := 145) hx hb dX1_threeMoreMeetAt_132 (by decide) (Eq.refl _) (fun c132 => ?_) (fun c132 => ?_)
                      · replace hF := hF.trans (congrArg (dv_k f_X1_threeMoreMeetAt_5b) (if_pos c132))
                        exact jn145 locs ls hB (lv_sub hl [4, 5, 6, 7] rfl) hF
                      · replace hF := hF.trans (congrArg (dv_k f_X1_threeMoreMeetAt_5b) (if_neg (not_not_intro c132)))
                        exact jn135 locs ls hB (lv_sub hl [1, 2, 4, 5, 6, 7] rfl) hF
                  refine tr_if_eq (tgt := 125) hx hb dX1_threeMoreMeetAt_117 (by decide) (Eq.refl _) (fun c117 => ?_) (fun c117 => ?_)
                  · replace hF := hF.trans (congrArg (dv_k f_X1_threeMoreMeetAt_5b) (if_pos c117))
                    exact jn125 locs ls hB (lv_sub hl [0, 1, 2, 3, 4, 5, 6, 8] rfl) hF
                  · replace hF := hF.trans (congrArg (dv_k f_X1_threeMoreMeetAt_5b) (if_neg c117))
                    refine lv_iload hx hb dX1_threeMoreMeetAt_120 (lv_at hl 1 rfl) ?_
                    refine tr_if_ne (tgt := 145) hx hb dX1_threeMoreMeetAt_122 (by decide) (Eq.refl _) (fun c122 => ?_) (fun c122 => ?_)
                    · replace hF := hF.trans (congrArg (dv_k f_X1_threeMoreMeetAt_5b) (if_pos c122))
                      exact jn145 locs ls hB (lv_sub hl [4, 5, 6, 8] rfl) hF
                    · replace hF := hF.trans (congrArg (dv_k f_X1_threeMoreMeetAt_5b) (if_neg (not_not_intro c122)))
                      exact jn125 locs ls hB (lv_sub hl [0, 1, 2, 3, 4, 5, 6, 8] rfl) hF
                refine tr_icmp_ne (tgt := 111) hx hb dX1_threeMoreMeetAt_104 (by decide) (Eq.refl _) (Eq.refl _) (fun c104 => ?_) (fun c104 => ?_)
                · replace hF := hF.trans (congrArg (dv_k f_X1_threeMoreMeetAt_5b) (if_pos c104))
                  refine lv_iconst (v := 0) hx hb dX1_threeMoreMeetAt_111 (by decide) ?_
                  exact jn112 locs ls 0 hB (lv_sub hl [0, 1, 2, 3, 4, 5, 6, 7] rfl) (by rw [tk_0]; exact hF) (by decide) (by decide)
                · replace hF := hF.trans (congrArg (dv_k f_X1_threeMoreMeetAt_5b) (if_neg (not_not_intro c104)))
                  refine lv_iconst (v := 1) hx hb dX1_threeMoreMeetAt_107 (by decide) ?_
                  refine lv_goto (tgt := 112) hx hb dX1_threeMoreMeetAt_108 (by decide) ?_
                  exact jn112 locs ls 1 hB (lv_sub hl [0, 1, 2, 3, 4, 5, 6, 7] rfl) (by rw [tk_1]; exact hF) (by decide) (by decide)
              refine tr_icmp_ne (tgt := 85) hx hb dX1_threeMoreMeetAt_78 (by decide) (Eq.refl _) (Eq.refl _) (fun c78 => ?_) (fun c78 => ?_)
              · replace hF := hF.trans (congrArg (dv_k f_X1_threeMoreMeetAt_5b) (if_pos c78))
                refine lv_iconst (v := 0) hx hb dX1_threeMoreMeetAt_85 (by decide) ?_
                exact jn86 locs ls 0 hB (lv_sub hl [0, 1, 2, 3, 4, 5, 6] rfl) (by rw [tk_0]; exact hF) (by decide) (by decide)
              · replace hF := hF.trans (congrArg (dv_k f_X1_threeMoreMeetAt_5b) (if_neg (not_not_intro c78)))
                refine lv_iconst (v := 1) hx hb dX1_threeMoreMeetAt_81 (by decide) ?_
                refine lv_goto (tgt := 86) hx hb dX1_threeMoreMeetAt_82 (by decide) ?_
                exact jn86 locs ls 1 hB (lv_sub hl [0, 1, 2, 3, 4, 5, 6] rfl) (by rw [tk_1]; exact hF) (by decide) (by decide)
            refine tr_icmp_ne (tgt := 67) hx hb dX1_threeMoreMeetAt_60 (by decide) (Eq.refl _) (Eq.refl _) (fun c60 => ?_) (fun c60 => ?_)
            · replace hF := hF.trans (congrArg (dv_k f_X1_threeMoreMeetAt_5b) (if_pos c60))
              refine lv_iconst (v := 0) hx hb dX1_threeMoreMeetAt_67 (by decide) ?_
              exact jn68 locs ls 0 hB (lv_sub hl [0, 1, 2, 3, 4, 5] rfl) (by rw [tk_0]; exact hF) (by decide) (by decide)
            · replace hF := hF.trans (congrArg (dv_k f_X1_threeMoreMeetAt_5b) (if_neg (not_not_intro c60)))
              refine lv_iconst (v := 1) hx hb dX1_threeMoreMeetAt_63 (by decide) ?_
              refine lv_goto (tgt := 68) hx hb dX1_threeMoreMeetAt_64 (by decide) ?_
              exact jn68 locs ls 1 hB (lv_sub hl [0, 1, 2, 3, 4, 5] rfl) (by rw [tk_1]; exact hF) (by decide) (by decide)
          refine tr_icmp_ne (tgt := 41) hx hb dX1_threeMoreMeetAt_34 (by decide) (Eq.refl _) (Eq.refl _) (fun c34 => ?_) (fun c34 => ?_)
          · replace hF := hF.trans (congrArg (dv_k f_X1_threeMoreMeetAt_5b) (if_pos c34))
            refine lv_iconst (v := 0) hx hb dX1_threeMoreMeetAt_41 (by decide) ?_
            exact jn42 locs ls 0 hB (lv_sub hl [0, 1, 2, 3, 4] rfl) (by rw [tk_0]; exact hF) (by decide) (by decide)
          · replace hF := hF.trans (congrArg (dv_k f_X1_threeMoreMeetAt_5b) (if_neg (not_not_intro c34)))
            refine lv_iconst (v := 1) hx hb dX1_threeMoreMeetAt_37 (by decide) ?_
            refine lv_goto (tgt := 42) hx hb dX1_threeMoreMeetAt_38 (by decide) ?_
            exact jn42 locs ls 1 hB (lv_sub hl [0, 1, 2, 3, 4] rfl) (by rw [tk_1]; exact hF) (by decide) (by decide)
        · replace hF := hF.trans (congrArg (dv_k f_X1_threeMoreMeetAt_5b) (if_neg (not_not_intro c20)))
          refine lv_goto (tgt := 152) hx hb dX1_threeMoreMeetAt_23 (by decide) ?_
          exact jn152 locs ls j5_3 hB (lv_sub hl [0, 1, 2, 4, 3] rfl) hF
  exact lp5 ((2147483648 : Int) - (0)).toNat [] ls 0 0 hB (lv_sub hl [2, 3, 4, 1, 0] rfl) (by rw [tk_0]; exact hF) (by decide) (by decide) (by have w0 := tk_0; omega)

set_option maxHeartbeats 4000000 in
set_option maxRecDepth 100000 in
theorem c_X1_crossPoints (l : Launch) (G : th_G) (Γ : th_Ga) (H0 : Heap) (hI : th_I G Γ H0) (hU : dv_U Γ) (a0 : Nat) (h0 : Γ a0 = (3, 0)) : Met l yX1_crossPoints (.code yX1_crossPoints cX1_crossPoints 3 (some FieldType.int) :: th_tb) ({ frames := 3, cells := 0, slots := 0, locals := 70 } : Room) (th_P [.ref a0] G H0) (th_Q (fun (v : Option Value) (H1 : Heap) => ∃ r : Int32, v = some (.int r) ∧ (f_X1_crossPoints (dv G Γ H0) (a0 : Int) = (r.toInt, ())) ∧ H0 = H1) G) 0 0 (fun q => G.2.2 ≤ q) := by
  refine th_met RX1 (by decide) rfl (Nat.le_of_ble_eq_true rfl) ?_
  intro p e s m below meth c hC hH hr hlocks hnm ls hl
  have hx := hC.1
  have hb := hC.2.1
  have hB : th_B G Γ Γ [] H0 H0 [] := ⟨hI, va_S.rf, th_F_rf⟩
  have hl : lv_has ls 3 [(0, .ref a0)] := hl
  obtain ⟨F, hF0⟩ : ∃ F, F = f_X1_crossPoints (dv G Γ H0) ((a0 : Int)) := ⟨_, rfl⟩
  have hF := hF0.trans (f_X1_crossPoints.eq_1 (dv G Γ H0) ((a0 : Int)))
  refine lv_iconst (v := 0) hx hb dX1_crossPoints_0 (by decide) ?_
  refine lv_istore_n (lv' := [(1, .int 0), (0, .ref a0)]) hx hb dX1_crossPoints_1 rfl hl (by decide) rfl (fun ls hl => ?_)
  refine lv_iconst (v := 0) hx hb dX1_crossPoints_2 (by decide) ?_
  refine lv_istore_n (lv' := [(2, .int 0), (1, .int 0), (0, .ref a0)]) hx hb dX1_crossPoints_3 rfl hl (by decide) rfl (fun ls hl => ?_)
  have lp4 : ∀ (n4 : Nat) (locs : List Loc) (ls : Array Slot) (j4_1 : Int32) (j4_2 : Int32), th_B G Γ Γ [] H0 H0 locs → lv_has ls 3 [(0, .ref a0), (1, .int j4_1), (2, .int j4_2)] → F = dv_lp f_X1_crossPoints_4b (dv G Γ H0, (a0 : Int), j4_1.toInt, j4_2.toInt) → 0 ≤ j4_2.toInt → j4_2.toInt ≤ 9 → (2147483648 : Int) - j4_2.toInt ≤ (n4 : Int) → W p l e ({ frames := 3, cells := 0, slots := 0, locals := 70 } : Room) s m ([.ref a0] : List Value).toArray below meth c H0 locs 0 0 (MQ below (th_Q (fun (v : Option Value) (H1 : Heap) => ∃ r : Int32, v = some (.int r) ∧ (f_X1_crossPoints (dv G Γ H0) (a0 : Int) = (r.toInt, ())) ∧ H0 = H1) G) ([.ref a0] : List Value).toArray s 0 0 (fun q => G.2.2 ≤ q)) (F0 m 4 ls []) := by
    intro n4
    induction n4 with
    | zero => intro locs ls j4_1 j4_2 hB hl hF g4_0 g4_1 hm4; exact absurd hm4 (by have := ti_hi j4_2; omega)
    | succ n4 ih4 =>
      intro locs ls j4_1 j4_2 hB hl hF g4_0 g4_1 hm4
      have lj4_1 := ti_lo j4_1; have uj4_1 := ti_hi j4_1
      have lj4_2 := ti_lo j4_2; have uj4_2 := ti_hi j4_2
      have hm4 : (2147483648 : Int) - j4_2.toInt ≤ (n4 : Int) + 1 := by omega
      replace hF := hF.trans (dv_lp_eq)
      replace hF := hF.trans (congrArg (dv_k f_X1_crossPoints_4b) (f_X1_crossPoints_4c.eq_1 (dv G Γ H0) ((a0 : Int)) (j4_1.toInt) (j4_2.toInt)))
      refine lv_iload_n hx hb dX1_crossPoints_4 rfl (lv_at hl 2 rfl) ?_
      refine lv_aload_n hx hb dX1_crossPoints_5 rfl (lv_at hl 0 rfl) ?_
      refine th_getI (j := 7) hC cf_X1 hB.1 h0 ro_3 rfl rfl kf_X1_33 dX1_crossPoints_6 (fun x1 mx1 lx1 ux1 => ?_)
      replace hF := hF.trans (congrArg (dv_k f_X1_crossPoints_4b) (dv_bn (dv_getI h0 ro_3 (j := 7) rfl mx1 (by decide))))
      refine tr_icmp_ge (tgt := 62) hx hb dX1_crossPoints_9 (by decide) (Eq.refl _) (Eq.refl _) (fun c9 => ?_) (fun c9 => ?_)
      · replace hF := hF.trans (congrArg (dv_k f_X1_crossPoints_4b) (if_pos c9))
        refine lv_iload_n hx hb dX1_crossPoints_62 rfl (lv_at hl 1 rfl) ?_
        replace hF := hF.trans (dv_kr)
        exact th_iret hC hH hr hlocks rfl hB.2.1 ⟨_, rfl, (hF0.symm.trans hF), rfl⟩ dX1_crossPoints_63
      · replace hF := hF.trans (congrArg (dv_k f_X1_crossPoints_4b) (if_neg (Int.not_le.mpr c9)))
        refine lv_aload_n hx hb dX1_crossPoints_12 rfl (lv_at hl 0 rfl) ?_
        refine lv_iload_n hx hb dX1_crossPoints_13 rfl (lv_at hl 2 rfl) ?_
        refine th_call (th_runV (As := [.int j4_2]) (rest := []) hC mf_X1_isLaid km_X1_56 im_X1_isLaid se_X1_isLaid (c_X1_isLaid l G Γ H0 hB.1 hU a0 h0 j4_2) rfl rfl ⟨Nat.le_of_ble_eq_true rfl, Nat.le_of_ble_eq_true rfl⟩ hB.1 h0 ro_3 rfl rfl hl.1 rfl (Nat.le_of_ble_eq_true rfl) dX1_crossPoints_14 ⟨Nat.le_refl _, Nat.le_refl _⟩) hB.2.1 (fun v14 H14 locs hp hz hS => ?_)
        obtain ⟨x2, rfl, lx2, ux2, q14_0, q14_1, q14_2, rfl⟩ := hp
        have hB := th_B_s hB hS
        replace hF := hF.trans (congrArg (dv_k f_X1_crossPoints_4b) (dv_bn2 (q14_2)))
        refine W.eq (g2 := F0 m 17 ls [.int x2]) rfl ?_
        have jn56 : ∀ (locs : List Loc) (ls : Array Slot) (j56_1 : Int32), th_B G Γ Γ [] H0 H0 locs → lv_has ls 3 [(0, .ref a0), (2, .int j4_2), (1, .int j56_1)] → F = dv_k f_X1_crossPoints_4b (f_X1_crossPoints_56 (dv G Γ H0) ((a0 : Int)) (j4_2.toInt) (j56_1.toInt)) → W p l e ({ frames := 3, cells := 0, slots := 0, locals := 70 } : Room) s m ([.ref a0] : List Value).toArray below meth c H0 locs 0 0 (MQ below (th_Q (fun (v : Option Value) (H1 : Heap) => ∃ r : Int32, v = some (.int r) ∧ (f_X1_crossPoints (dv G Γ H0) (a0 : Int) = (r.toInt, ())) ∧ H0 = H1) G) ([.ref a0] : List Value).toArray s 0 0 (fun q => G.2.2 ≤ q)) (F0 m 56 ls []) := by
          intro locs ls j56_1 hB hl hF
          have lj56_1 := ti_lo j56_1; have uj56_1 := ti_hi j56_1
          replace hF := hF.trans (congrArg (dv_k f_X1_crossPoints_4b) (f_X1_crossPoints_56.eq_1 (dv G Γ H0) ((a0 : Int)) (j4_2.toInt) (j56_1.toInt)))
          refine tr_iinc (fun x3 => [(2, .int x3), (0, .ref a0), (1, .int j56_1)]) hx hb dX1_crossPoints_56 hl (k := 1) rfl (Eq.refl _) tk_1 (by omega) (by omega) (by decide) (fun _ => rfl) (fun x3 ls ex3 hl => ?_)
          replace hF := hF.trans (congrArg (dv_k f_X1_crossPoints_4b) (dv_bn (ex3.symm)))
          refine lv_goto (tgt := 4) hx hb dX1_crossPoints_59 (by decide) ?_
          replace hF := hF.trans (dv_kl)
          exact ih4 locs ls j56_1 x3 hB (lv_sub hl [1, 2, 0] rfl) hF (by omega) (by omega) (by omega)
        refine tr_if_eq (tgt := 56) hx hb dX1_crossPoints_17 (by decide) (Eq.refl _) (fun c17 => ?_) (fun c17 => ?_)
        · replace hF := hF.trans (congrArg (dv_k f_X1_crossPoints_4b) (if_pos c17))
          exact jn56 locs ls j4_1 hB (lv_sub hl [0, 2, 1] rfl) hF
        · replace hF := hF.trans (congrArg (dv_k f_X1_crossPoints_4b) (if_neg c17))
          refine lv_aload_n hx hb dX1_crossPoints_20 rfl (lv_at hl 0 rfl) ?_
          refine lv_aload_n hx hb dX1_crossPoints_21 rfl (lv_at hl 0 rfl) ?_
          refine th_getO (j := 3) (r2 := 7) hC cf_X1 hB.1 h0 ro_3 rfl rfl kf_X1_21 dX1_crossPoints_22 (fun b4 mb4 hb4 => ?_)
          refine lv_iload_n hx hb dX1_crossPoints_25 rfl (lv_at hl 2 rfl) ?_
          refine th_ialdF hC hB.1 hb4 ro_7 rfl (Eq.refl _) (by omega) (by omega) rfl dX1_crossPoints_26 (fun x5 mx5 lx5 ux5 => ?_)
          replace hF := hF.trans (congrArg (dv_k f_X1_crossPoints_4b) (dv_bn (dv_aldI hB.1 hU hb4 ow_7 (z := j4_2.toInt) mx5 (by omega))))
          refine lv_aload_n hx hb dX1_crossPoints_27 rfl (lv_at hl 0 rfl) ?_
          refine th_getO (j := 0) (r2 := 4) hC cf_X1 hB.1 h0 ro_3 rfl rfl kf_X1_9 dX1_crossPoints_28 (fun b6 mb6 hb6 => ?_)
          refine lv_iload_n hx hb dX1_crossPoints_31 rfl (lv_at hl 2 rfl) ?_
          refine th_ialdF hC hB.1 hb6 ro_4 rfl (Eq.refl _) (by omega) (by omega) rfl dX1_crossPoints_32 (fun x7 mx7 lx7 ux7 => ?_)
          replace hF := hF.trans (congrArg (dv_k f_X1_crossPoints_4b) (dv_bn (dv_aldI hB.1 hU hb6 ow_4 (z := j4_2.toInt) mx7 (by omega))))
          refine lv_iadd hx hb dX1_crossPoints_33 ?_
          refine lv_topi (fun x8 ex8 => ?_)
          have lx8 := ti_lo x8; have ux8 := ti_hi x8
          replace hF := hF.trans (congrArg (dv_k f_X1_crossPoints_4b) (dv_bn (dv_add_e (Eq.refl _) (Eq.refl _) ex8)))
          refine lv_aload_n hx hb dX1_crossPoints_34 rfl (lv_at hl 0 rfl) ?_
          refine th_getO (j := 4) (r2 := 8) hC cf_X1 hB.1 h0 ro_3 rfl rfl kf_X1_24 dX1_crossPoints_35 (fun b9 mb9 hb9 => ?_)
          refine lv_iload_n hx hb dX1_crossPoints_38 rfl (lv_at hl 2 rfl) ?_
          refine th_ialdF hC hB.1 hb9 ro_8 rfl (Eq.refl _) (by omega) (by omega) rfl dX1_crossPoints_39 (fun x10 mx10 lx10 ux10 => ?_)
          replace hF := hF.trans (congrArg (dv_k f_X1_crossPoints_4b) (dv_bn (dv_aldI hB.1 hU hb9 ow_8 (z := j4_2.toInt) mx10 (by omega))))
          refine lv_aload_n hx hb dX1_crossPoints_40 rfl (lv_at hl 0 rfl) ?_
          refine th_getK hC cf_X1 hB.1 h0 ro_3 rfl (j := 0) (by decide) mb6 kf_X1_9 dX1_crossPoints_41 ?_
          refine lv_iload_n hx hb dX1_crossPoints_44 rfl (lv_at hl 2 rfl) ?_
          refine th_ialdF hC hB.1 hb6 ro_4 rfl (Eq.refl _) (by omega) (by omega) rfl dX1_crossPoints_45 (fun x11 mx11 lx11 ux11 => ?_)
          replace hF := hF.trans (congrArg (dv_k f_X1_crossPoints_4b) (dv_bn (dv_aldI hB.1 hU hb6 ow_4 (z := j4_2.toInt) mx11 (by omega))))
          have qx11 : x11.toInt = x7.toInt := by rw [show x11 = x7 from Value.int.inj (mx11.symm.trans mx7)]
          refine lv_iadd hx hb dX1_crossPoints_46 ?_
          refine lv_topi (fun x12 ex12 => ?_)
          have lx12 := ti_lo x12; have ux12 := ti_hi x12
          replace hF := hF.trans (congrArg (dv_k f_X1_crossPoints_4b) (dv_bn (dv_add_e (Eq.refl _) (Eq.refl _) ex12)))
          refine th_call (th_runV (As := [.int x8, .int x12]) (rest := []) hC mf_X1_threeMoreMeetAt km_X1_99 im_X1_threeMoreMeetAt se_X1_threeMoreMeetAt (c_X1_threeMoreMeetAt l G Γ H0 hB.1 hU a0 h0 x8 x12) rfl rfl ⟨Nat.le_of_ble_eq_true rfl, Nat.le_of_ble_eq_true rfl⟩ hB.1 h0 ro_3 rfl rfl hl.1 rfl (Nat.le_of_ble_eq_true rfl) dX1_crossPoints_47 ⟨Nat.le_refl _, Nat.le_refl _⟩) hB.2.1 (fun v47 H47 locs hp hz hS => ?_)
          obtain ⟨x13, rfl, lx13, ux13, q47_0, rfl⟩ := hp
          have hB := th_B_s hB hS
          replace hF := hF.trans (congrArg (dv_k f_X1_crossPoints_4b) (dv_bn2 (q47_0)))
          refine W.eq (g2 := F0 m 50 ls [.int x13]) rfl ?_
          refine tr_if_eq (tgt := 56) hx hb dX1_crossPoints_50 (by decide) (Eq.refl _) (fun c50 => ?_) (fun c50 => ?_)
          · replace hF := hF.trans (congrArg (dv_k f_X1_crossPoints_4b) (if_pos c50))
            exact jn56 locs ls j4_1 hB (lv_sub hl [0, 2, 1] rfl) hF
          · replace hF := hF.trans (congrArg (dv_k f_X1_crossPoints_4b) (if_neg c50))
            refine tr_iincE (fun x14 => [(1, .int x14), (0, .ref a0), (2, .int j4_2)]) hx hb dX1_crossPoints_53 hl (k := 1) rfl (Eq.refl _) (by decide) (fun _ => rfl) (fun x14 ls ex14 hl => ?_)
            have lx14 := ti_lo x14; have ux14 := ti_hi x14
            replace hF := hF.trans (congrArg (dv_k f_X1_crossPoints_4b) (dv_bn (ex14)))
            exact jn56 locs ls x14 hB (lv_sub hl [1, 2, 0] rfl) hF
  exact lp4 ((2147483648 : Int) - (0)).toNat [] ls 0 0 hB (lv_sub hl [2, 1, 0] rfl) (by rw [tk_0]; exact hF) (by decide) (by decide) (by have w0 := tk_0; omega)

set_option maxHeartbeats 4000000 in
set_option maxRecDepth 100000 in
theorem c_X1_sidesAtLine (l : Launch) (G : th_G) (Γ : th_Ga) (H0 : Heap) (hI : th_I G Γ H0) (hU : dv_U Γ) (a0 : Nat) (h0 : Γ a0 = (3, 0)) (p1 : Int32) (p2 : Int32) (f2 : 0 ≤ p2.toInt) (g2 : p2.toInt ≤ 1) : Met l yX1_sidesAtLine (.code yX1_sidesAtLine cX1_sidesAtLine 5 (some FieldType.int) :: th_tb) ({ frames := 2, cells := 0, slots := 0, locals := 42 } : Room) (th_P [.ref a0, .int p1, .int p2] G H0) (th_Q (fun (v : Option Value) (H1 : Heap) => ∃ r : Int32, v = some (.int r) ∧ (f_X1_sidesAtLine (dv G Γ H0) (a0 : Int) p1.toInt p2.toInt = (r.toInt, ())) ∧ H0 = H1) G) 0 0 (fun q => G.2.2 ≤ q) := by
  refine th_met RX1 (by decide) rfl (Nat.le_of_ble_eq_true rfl) ?_
  intro p e s m below meth c hC hH hr hlocks hnm ls hl
  have hx := hC.1
  have hb := hC.2.1
  have hB : th_B G Γ Γ [] H0 H0 [] := ⟨hI, va_S.rf, th_F_rf⟩
  have hl : lv_has ls 5 [(0, .ref a0), (1, .int p1), (2, .int p2)] := hl
  have lp1 := ti_lo p1; have up1 := ti_hi p1
  have lp2 := ti_lo p2; have up2 := ti_hi p2
  obtain ⟨F, hF0⟩ : ∃ F, F = f_X1_sidesAtLine (dv G Γ H0) ((a0 : Int)) (p1.toInt) (p2.toInt) := ⟨_, rfl⟩
  have hF := hF0.trans (f_X1_sidesAtLine.eq_1 (dv G Γ H0) ((a0 : Int)) (p1.toInt) (p2.toInt))
  refine lv_iconst (v := 0) hx hb dX1_sidesAtLine_0 (by decide) ?_
  refine lv_istore_n (lv' := [(3, .int 0), (0, .ref a0), (1, .int p1), (2, .int p2)]) hx hb dX1_sidesAtLine_1 rfl hl (by decide) rfl (fun ls hl => ?_)
  refine lv_iconst (v := 0) hx hb dX1_sidesAtLine_2 (by decide) ?_
  refine lv_istore (lv' := [(4, .int 0), (3, .int 0), (0, .ref a0), (1, .int p1), (2, .int p2)]) hx hb dX1_sidesAtLine_3 hl (by decide) rfl (fun ls hl => ?_)
  have lp5 : ∀ (n5 : Nat) (locs : List Loc) (ls : Array Slot) (j5_3 : Int32) (j5_4 : Int32), th_B G Γ Γ [] H0 H0 locs → lv_has ls 5 [(0, .ref a0), (1, .int p1), (2, .int p2), (3, .int j5_3), (4, .int j5_4)] → F = dv_lp f_X1_sidesAtLine_5b (dv G Γ H0, (a0 : Int), p1.toInt, p2.toInt, j5_3.toInt, j5_4.toInt) → 0 ≤ j5_4.toInt → j5_4.toInt ≤ 9 → (2147483648 : Int) - j5_4.toInt ≤ (n5 : Int) → W p l e ({ frames := 2, cells := 0, slots := 0, locals := 42 } : Room) s m ([.ref a0, .int p1, .int p2] : List Value).toArray below meth c H0 locs 0 0 (MQ below (th_Q (fun (v : Option Value) (H1 : Heap) => ∃ r : Int32, v = some (.int r) ∧ (f_X1_sidesAtLine (dv G Γ H0) (a0 : Int) p1.toInt p2.toInt = (r.toInt, ())) ∧ H0 = H1) G) ([.ref a0, .int p1, .int p2] : List Value).toArray s 0 0 (fun q => G.2.2 ≤ q)) (F0 m 5 ls []) := by
    intro n5
    induction n5 with
    | zero => intro locs ls j5_3 j5_4 hB hl hF g5_0 g5_1 hm5; exact absurd hm5 (by have := ti_hi j5_4; omega)
    | succ n5 ih5 =>
      intro locs ls j5_3 j5_4 hB hl hF g5_0 g5_1 hm5
      have lj5_3 := ti_lo j5_3; have uj5_3 := ti_hi j5_3
      have lj5_4 := ti_lo j5_4; have uj5_4 := ti_hi j5_4
      have hm5 : (2147483648 : Int) - j5_4.toInt ≤ (n5 : Int) + 1 := by omega
      replace hF := hF.trans (dv_lp_eq)
      replace hF := hF.trans (congrArg (dv_k f_X1_sidesAtLine_5b) (f_X1_sidesAtLine_5c.eq_1 (dv G Γ H0) ((a0 : Int)) (p1.toInt) (p2.toInt) (j5_3.toInt) (j5_4.toInt)))
      refine lv_iload hx hb dX1_sidesAtLine_5 (lv_at hl 4 rfl) ?_
      refine lv_aload_n hx hb dX1_sidesAtLine_7 rfl (lv_at hl 0 rfl) ?_
      refine th_getI (j := 7) hC cf_X1 hB.1 h0 ro_3 rfl rfl kf_X1_33 dX1_sidesAtLine_8 (fun x1 mx1 lx1 ux1 => ?_)
      replace hF := hF.trans (congrArg (dv_k f_X1_sidesAtLine_5b) (dv_bn (dv_getI h0 ro_3 (j := 7) rfl mx1 (by decide))))
      refine tr_icmp_ge (tgt := 66) hx hb dX1_sidesAtLine_11 (by decide) (Eq.refl _) (Eq.refl _) (fun c11 => ?_) (fun c11 => ?_)
      · replace hF := hF.trans (congrArg (dv_k f_X1_sidesAtLine_5b) (if_pos c11))
        refine lv_iload_n hx hb dX1_sidesAtLine_66 rfl (lv_at hl 3 rfl) ?_
        replace hF := hF.trans (dv_kr)
        exact th_iret hC hH hr hlocks rfl hB.2.1 ⟨_, rfl, (hF0.symm.trans hF), rfl⟩ dX1_sidesAtLine_67
      · replace hF := hF.trans (congrArg (dv_k f_X1_sidesAtLine_5b) (if_neg (Int.not_le.mpr c11)))
        refine lv_aload_n hx hb dX1_sidesAtLine_14 rfl (lv_at hl 0 rfl) ?_
        refine lv_iload hx hb dX1_sidesAtLine_15 (lv_at hl 4 rfl) ?_
        refine th_call (th_runV (As := [.int j5_4]) (rest := []) hC mf_X1_isLaid km_X1_56 im_X1_isLaid se_X1_isLaid (c_X1_isLaid l G Γ H0 hB.1 hU a0 h0 j5_4) rfl rfl ⟨Nat.le_of_ble_eq_true rfl, Nat.le_of_ble_eq_true rfl⟩ hB.1 h0 ro_3 rfl rfl hl.1 rfl (Nat.le_of_ble_eq_true rfl) dX1_sidesAtLine_17 ⟨Nat.le_refl _, Nat.le_refl _⟩) hB.2.1 (fun v17 H17 locs hp hz hS => ?_)
        obtain ⟨x2, rfl, lx2, ux2, q17_0, q17_1, q17_2, rfl⟩ := hp
        have hB := th_B_s hB hS
        replace hF := hF.trans (congrArg (dv_k f_X1_sidesAtLine_5b) (dv_bn2 (q17_2)))
        refine W.eq (g2 := F0 m 20 ls [.int x2]) rfl ?_
        have jn60 : ∀ (locs : List Loc) (ls : Array Slot) (j60_3 : Int32), th_B G Γ Γ [] H0 H0 locs → lv_has ls 5 [(0, .ref a0), (1, .int p1), (2, .int p2), (4, .int j5_4), (3, .int j60_3)] → F = dv_k f_X1_sidesAtLine_5b (f_X1_sidesAtLine_60 (dv G Γ H0) ((a0 : Int)) (p1.toInt) (p2.toInt) (j5_4.toInt) (j60_3.toInt)) → W p l e ({ frames := 2, cells := 0, slots := 0, locals := 42 } : Room) s m ([.ref a0, .int p1, .int p2] : List Value).toArray below meth c H0 locs 0 0 (MQ below (th_Q (fun (v : Option Value) (H1 : Heap) => ∃ r : Int32, v = some (.int r) ∧ (f_X1_sidesAtLine (dv G Γ H0) (a0 : Int) p1.toInt p2.toInt = (r.toInt, ())) ∧ H0 = H1) G) ([.ref a0, .int p1, .int p2] : List Value).toArray s 0 0 (fun q => G.2.2 ≤ q)) (F0 m 60 ls []) := by
          intro locs ls j60_3 hB hl hF
          have lj60_3 := ti_lo j60_3; have uj60_3 := ti_hi j60_3
          replace hF := hF.trans (congrArg (dv_k f_X1_sidesAtLine_5b) (f_X1_sidesAtLine_60.eq_1 (dv G Γ H0) ((a0 : Int)) (p1.toInt) (p2.toInt) (j5_4.toInt) (j60_3.toInt)))
          refine tr_iinc (fun x3 => [(4, .int x3), (0, .ref a0), (1, .int p1), (2, .int p2), (3, .int j60_3)]) hx hb dX1_sidesAtLine_60 hl (k := 3) rfl (Eq.refl _) tk_1 (by omega) (by omega) (by decide) (fun _ => rfl) (fun x3 ls ex3 hl => ?_)
          replace hF := hF.trans (congrArg (dv_k f_X1_sidesAtLine_5b) (dv_bn (ex3.symm)))
          refine lv_goto (tgt := 5) hx hb dX1_sidesAtLine_63 (by decide) ?_
          replace hF := hF.trans (dv_kl)
          exact ih5 locs ls j60_3 x3 hB (lv_sub hl [1, 2, 3, 4, 0] rfl) hF (by omega) (by omega) (by omega)
        refine tr_if_eq (tgt := 60) hx hb dX1_sidesAtLine_20 (by decide) (Eq.refl _) (fun c20 => ?_) (fun c20 => ?_)
        · replace hF := hF.trans (congrArg (dv_k f_X1_sidesAtLine_5b) (if_pos c20))
          exact jn60 locs ls j5_3 hB (lv_sub hl [0, 1, 2, 4, 3] rfl) hF
        · replace hF := hF.trans (congrArg (dv_k f_X1_sidesAtLine_5b) (if_neg c20))
          refine lv_aload_n hx hb dX1_sidesAtLine_23 rfl (lv_at hl 0 rfl) ?_
          refine th_getO (j := 4) (r2 := 8) hC cf_X1 hB.1 h0 ro_3 rfl rfl kf_X1_24 dX1_sidesAtLine_24 (fun b4 mb4 hb4 => ?_)
          refine lv_iload hx hb dX1_sidesAtLine_27 (lv_at hl 4 rfl) ?_
          refine th_ialdF hC hB.1 hb4 ro_8 rfl (Eq.refl _) (by omega) (by omega) rfl dX1_sidesAtLine_29 (fun x5 mx5 lx5 ux5 => ?_)
          replace hF := hF.trans (congrArg (dv_k f_X1_sidesAtLine_5b) (dv_bn (dv_aldI hB.1 hU hb4 ow_8 (z := j5_4.toInt) mx5 (by omega))))
          refine lv_iload_n hx hb dX1_sidesAtLine_30 rfl (lv_at hl 2 rfl) ?_
          have jn45 : ∀ (locs : List Loc) (ls : Array Slot) (s45_1 : Int32), th_B G Γ Γ [] H0 H0 locs → lv_has ls 5 [(0, .ref a0), (1, .int p1), (2, .int p2), (3, .int j5_3), (4, .int j5_4)] → F = dv_k f_X1_sidesAtLine_5b (f_X1_sidesAtLine_45 (dv G Γ H0) ((a0 : Int)) (p1.toInt) (p2.toInt) (j5_3.toInt) (j5_4.toInt) (x5.toInt) (s45_1.toInt)) → 0 ≤ s45_1.toInt → s45_1.toInt ≤ 12 → W p l e ({ frames := 2, cells := 0, slots := 0, locals := 42 } : Room) s m ([.ref a0, .int p1, .int p2] : List Value).toArray below meth c H0 locs 0 0 (MQ below (th_Q (fun (v : Option Value) (H1 : Heap) => ∃ r : Int32, v = some (.int r) ∧ (f_X1_sidesAtLine (dv G Γ H0) (a0 : Int) p1.toInt p2.toInt = (r.toInt, ())) ∧ H0 = H1) G) ([.ref a0, .int p1, .int p2] : List Value).toArray s 0 0 (fun q => G.2.2 ≤ q)) (F0 m 45 ls [.int s45_1, .int x5]) := by
            intro locs ls s45_1 hB hl hF g45_0 g45_1
            have ls45_1 := ti_lo s45_1; have us45_1 := ti_hi s45_1
            replace hF := hF.trans (congrArg (dv_k f_X1_sidesAtLine_5b) (f_X1_sidesAtLine_45.eq_1 (dv G Γ H0) ((a0 : Int)) (p1.toInt) (p2.toInt) (j5_3.toInt) (j5_4.toInt) (x5.toInt) (s45_1.toInt)))
            refine lv_iadd hx hb dX1_sidesAtLine_45 ?_
            refine lv_topi (fun x6 ex6 => ?_)
            have lx6 := ti_lo x6; have ux6 := ti_hi x6
            replace hF := hF.trans (congrArg (dv_k f_X1_sidesAtLine_5b) (dv_bn (dv_add_e (Eq.refl _) (Eq.refl _) ex6)))
            refine lv_iload_n hx hb dX1_sidesAtLine_46 rfl (lv_at hl 1 rfl) ?_
            refine tr_icmp_ne (tgt := 60) hx hb dX1_sidesAtLine_47 (by decide) (Eq.refl _) (Eq.refl _) (fun c47 => ?_) (fun c47 => ?_)
            · replace hF := hF.trans (congrArg (dv_k f_X1_sidesAtLine_5b) (if_pos c47))
              exact jn60 locs ls j5_3 hB (lv_sub hl [0, 1, 2, 4, 3] rfl) hF
            · replace hF := hF.trans (congrArg (dv_k f_X1_sidesAtLine_5b) (if_neg (not_not_intro c47)))
              refine lv_iload_n hx hb dX1_sidesAtLine_50 rfl (lv_at hl 3 rfl) ?_
              refine lv_aload_n hx hb dX1_sidesAtLine_51 rfl (lv_at hl 0 rfl) ?_
              refine th_getO (j := 0) (r2 := 4) hC cf_X1 hB.1 h0 ro_3 rfl rfl kf_X1_9 dX1_sidesAtLine_52 (fun b7 mb7 hb7 => ?_)
              refine lv_iload hx hb dX1_sidesAtLine_55 (lv_at hl 4 rfl) ?_
              refine th_ialdF hC hB.1 hb7 ro_4 rfl (Eq.refl _) (by omega) (by omega) rfl dX1_sidesAtLine_57 (fun x8 mx8 lx8 ux8 => ?_)
              replace hF := hF.trans (congrArg (dv_k f_X1_sidesAtLine_5b) (dv_bn (dv_aldI hB.1 hU hb7 ow_4 (z := j5_4.toInt) mx8 (by omega))))
              refine lv_iadd hx hb dX1_sidesAtLine_58 ?_
              refine lv_topi (fun x9 ex9 => ?_)
              have lx9 := ti_lo x9; have ux9 := ti_hi x9
              replace hF := hF.trans (congrArg (dv_k f_X1_sidesAtLine_5b) (dv_bn (dv_add_e (Eq.refl _) (Eq.refl _) ex9)))
              refine lv_istore_n (lv' := [(3, .int x9), (0, .ref a0), (1, .int p1), (2, .int p2), (4, .int j5_4)]) hx hb dX1_sidesAtLine_59 rfl hl (by decide) rfl (fun ls hl => ?_)
              exact jn60 locs ls x9 hB (lv_sub hl [1, 2, 3, 4, 0] rfl) hF
          refine tr_if_eq (tgt := 44) hx hb dX1_sidesAtLine_31 (by decide) (Eq.refl _) (fun c31 => ?_) (fun c31 => ?_)
          · replace hF := hF.trans (congrArg (dv_k f_X1_sidesAtLine_5b) (if_pos c31))
            refine lv_iconst (v := 0) hx hb dX1_sidesAtLine_44 (by decide) ?_
            exact jn45 locs ls 0 hB (lv_sub hl [0, 1, 2, 3, 4] rfl) (by rw [tk_0]; exact hF) (by decide) (by decide)
          · replace hF := hF.trans (congrArg (dv_k f_X1_sidesAtLine_5b) (if_neg c31))
            refine lv_aload_n hx hb dX1_sidesAtLine_34 rfl (lv_at hl 0 rfl) ?_
            refine th_getO (j := 0) (r2 := 4) hC cf_X1 hB.1 h0 ro_3 rfl rfl kf_X1_9 dX1_sidesAtLine_35 (fun b10 mb10 hb10 => ?_)
            refine lv_iload hx hb dX1_sidesAtLine_38 (lv_at hl 4 rfl) ?_
            refine th_ialdF hC hB.1 hb10 ro_4 rfl (Eq.refl _) (by omega) (by omega) rfl dX1_sidesAtLine_40 (fun x11 mx11 lx11 ux11 => ?_)
            replace hF := hF.trans (congrArg (dv_k f_X1_sidesAtLine_5b) (dv_bn (dv_aldI hB.1 hU hb10 ow_4 (z := j5_4.toInt) mx11 (by omega))))
            refine lv_goto (tgt := 45) hx hb dX1_sidesAtLine_41 (by decide) ?_
            exact jn45 locs ls x11 hB (lv_sub hl [0, 1, 2, 3, 4] rfl) hF (by omega) (by omega)
  exact lp5 ((2147483648 : Int) - (0)).toNat [] ls 0 0 hB (lv_sub hl [2, 3, 4, 1, 0] rfl) (by rw [tk_0]; exact hF) (by decide) (by decide) (by have w0 := tk_0; omega)

set_option maxHeartbeats 4000000 in
set_option maxRecDepth 100000 in
theorem c_X1_twosOfOneSide (l : Launch) (G : th_G) (Γ : th_Ga) (H0 : Heap) (hI : th_I G Γ H0) (hU : dv_U Γ) (a0 : Nat) (h0 : Γ a0 = (3, 0)) : Met l yX1_twosOfOneSide (.code yX1_twosOfOneSide cX1_twosOfOneSide 4 (some FieldType.int) :: th_tb) ({ frames := 2, cells := 0, slots := 0, locals := 42 } : Room) (th_P [.ref a0] G H0) (th_Q (fun (v : Option Value) (H1 : Heap) => ∃ r : Int32, v = some (.int r) ∧ (f_X1_twosOfOneSide (dv G Γ H0) (a0 : Int) = (r.toInt, ())) ∧ H0 = H1) G) 0 0 (fun q => G.2.2 ≤ q) := by
  refine th_met RX1 (by decide) rfl (Nat.le_of_ble_eq_true rfl) ?_
  intro p e s m below meth c hC hH hr hlocks hnm ls hl
  have hx := hC.1
  have hb := hC.2.1
  have hB : th_B G Γ Γ [] H0 H0 [] := ⟨hI, va_S.rf, th_F_rf⟩
  have hl : lv_has ls 4 [(0, .ref a0)] := hl
  obtain ⟨F, hF0⟩ : ∃ F, F = f_X1_twosOfOneSide (dv G Γ H0) ((a0 : Int)) := ⟨_, rfl⟩
  have hF := hF0.trans (f_X1_twosOfOneSide.eq_1 (dv G Γ H0) ((a0 : Int)))
  refine lv_iconst (v := 0) hx hb dX1_twosOfOneSide_0 (by decide) ?_
  refine lv_istore_n (lv' := [(1, .int 0), (0, .ref a0)]) hx hb dX1_twosOfOneSide_1 rfl hl (by decide) rfl (fun ls hl => ?_)
  refine lv_iconst (v := 0) hx hb dX1_twosOfOneSide_2 (by decide) ?_
  refine lv_istore_n (lv' := [(2, .int 0), (1, .int 0), (0, .ref a0)]) hx hb dX1_twosOfOneSide_3 rfl hl (by decide) rfl (fun ls hl => ?_)
  have lp4 : ∀ (n4 : Nat) (locs : List Loc) (ls : Array Slot) (j4_1 : Int32) (j4_2 : Int32), th_B G Γ Γ [] H0 H0 locs → lv_has ls 4 [(0, .ref a0), (1, .int j4_1), (2, .int j4_2)] → F = dv_lp f_X1_twosOfOneSide_4b (dv G Γ H0, (a0 : Int), j4_1.toInt, j4_2.toInt) → 0 ≤ j4_2.toInt → j4_2.toInt ≤ 9 → (2147483648 : Int) - j4_2.toInt ≤ (n4 : Int) → W p l e ({ frames := 2, cells := 0, slots := 0, locals := 42 } : Room) s m ([.ref a0] : List Value).toArray below meth c H0 locs 0 0 (MQ below (th_Q (fun (v : Option Value) (H1 : Heap) => ∃ r : Int32, v = some (.int r) ∧ (f_X1_twosOfOneSide (dv G Γ H0) (a0 : Int) = (r.toInt, ())) ∧ H0 = H1) G) ([.ref a0] : List Value).toArray s 0 0 (fun q => G.2.2 ≤ q)) (F0 m 4 ls []) := by
    intro n4
    induction n4 with
    | zero => intro locs ls j4_1 j4_2 hB hl hF g4_0 g4_1 hm4; exact absurd hm4 (by have := ti_hi j4_2; omega)
    | succ n4 ih4 =>
      intro locs ls j4_1 j4_2 hB hl hF g4_0 g4_1 hm4
      have lj4_1 := ti_lo j4_1; have uj4_1 := ti_hi j4_1
      have lj4_2 := ti_lo j4_2; have uj4_2 := ti_hi j4_2
      have hm4 : (2147483648 : Int) - j4_2.toInt ≤ (n4 : Int) + 1 := by omega
      replace hF := hF.trans (dv_lp_eq)
      replace hF := hF.trans (congrArg (dv_k f_X1_twosOfOneSide_4b) (f_X1_twosOfOneSide_4c.eq_1 (dv G Γ H0) ((a0 : Int)) (j4_1.toInt) (j4_2.toInt)))
      refine lv_iload_n hx hb dX1_twosOfOneSide_4 rfl (lv_at hl 2 rfl) ?_
      refine lv_aload_n hx hb dX1_twosOfOneSide_5 rfl (lv_at hl 0 rfl) ?_
      refine th_getI (j := 7) hC cf_X1 hB.1 h0 ro_3 rfl rfl kf_X1_33 dX1_twosOfOneSide_6 (fun x1 mx1 lx1 ux1 => ?_)
      replace hF := hF.trans (congrArg (dv_k f_X1_twosOfOneSide_4b) (dv_bn (dv_getI h0 ro_3 (j := 7) rfl mx1 (by decide))))
      refine tr_icmp_ge (tgt := 75) hx hb dX1_twosOfOneSide_9 (by decide) (Eq.refl _) (Eq.refl _) (fun c9 => ?_) (fun c9 => ?_)
      · replace hF := hF.trans (congrArg (dv_k f_X1_twosOfOneSide_4b) (if_pos c9))
        refine lv_iload_n hx hb dX1_twosOfOneSide_75 rfl (lv_at hl 1 rfl) ?_
        replace hF := hF.trans (dv_kr)
        exact th_iret hC hH hr hlocks rfl hB.2.1 ⟨_, rfl, (hF0.symm.trans hF), rfl⟩ dX1_twosOfOneSide_76
      · replace hF := hF.trans (congrArg (dv_k f_X1_twosOfOneSide_4b) (if_neg (Int.not_le.mpr c9)))
        refine lv_iload_n hx hb dX1_twosOfOneSide_12 rfl (lv_at hl 2 rfl) ?_
        refine lv_iconst (v := 1) hx hb dX1_twosOfOneSide_13 (by decide) ?_
        refine tr_iadd hx hb dX1_twosOfOneSide_14 (Eq.refl _) tk_1 (by omega) (by omega) (fun x2 ex2 => ?_)
        replace hF := hF.trans (congrArg (dv_k f_X1_twosOfOneSide_4b) (dv_bn (ex2.symm)))
        refine lv_istore_n (lv' := [(3, .int x2), (0, .ref a0), (1, .int j4_1), (2, .int j4_2)]) hx hb dX1_twosOfOneSide_15 rfl hl (by decide) rfl (fun ls hl => ?_)
        have lp16 : ∀ (n16 : Nat) (locs : List Loc) (ls : Array Slot) (j16_1 : Int32) (j16_3 : Int32), th_B G Γ Γ [] H0 H0 locs → lv_has ls 4 [(0, .ref a0), (2, .int j4_2), (1, .int j16_1), (3, .int j16_3)] → F = dv_k f_X1_twosOfOneSide_4b (dv_lp f_X1_twosOfOneSide_16b (dv G Γ H0, (a0 : Int), j4_2.toInt, j16_1.toInt, j16_3.toInt)) → 1 ≤ j16_3.toInt → j16_3.toInt ≤ 9 → (2147483648 : Int) - j16_3.toInt ≤ (n16 : Int) → W p l e ({ frames := 2, cells := 0, slots := 0, locals := 42 } : Room) s m ([.ref a0] : List Value).toArray below meth c H0 locs 0 0 (MQ below (th_Q (fun (v : Option Value) (H1 : Heap) => ∃ r : Int32, v = some (.int r) ∧ (f_X1_twosOfOneSide (dv G Γ H0) (a0 : Int) = (r.toInt, ())) ∧ H0 = H1) G) ([.ref a0] : List Value).toArray s 0 0 (fun q => G.2.2 ≤ q)) (F0 m 16 ls []) := by
          intro n16
          induction n16 with
          | zero => intro locs ls j16_1 j16_3 hB hl hF g16_0 g16_1 hm16; exact absurd hm16 (by have := ti_hi j16_3; omega)
          | succ n16 ih16 =>
            intro locs ls j16_1 j16_3 hB hl hF g16_0 g16_1 hm16
            have lj16_1 := ti_lo j16_1; have uj16_1 := ti_hi j16_1
            have lj16_3 := ti_lo j16_3; have uj16_3 := ti_hi j16_3
            have hm16 : (2147483648 : Int) - j16_3.toInt ≤ (n16 : Int) + 1 := by omega
            replace hF := hF.trans (congrArg (dv_k f_X1_twosOfOneSide_4b) (dv_lp_eq))
            replace hF := hF.trans (congrArg (dv_k f_X1_twosOfOneSide_4b) (congrArg (dv_k f_X1_twosOfOneSide_16b) (f_X1_twosOfOneSide_16c.eq_1 (dv G Γ H0) ((a0 : Int)) (j4_2.toInt) (j16_1.toInt) (j16_3.toInt))))
            refine lv_iload_n hx hb dX1_twosOfOneSide_16 rfl (lv_at hl 3 rfl) ?_
            refine lv_aload_n hx hb dX1_twosOfOneSide_17 rfl (lv_at hl 0 rfl) ?_
            refine th_getK hC cf_X1 hB.1 h0 ro_3 rfl (j := 7) (by decide) mx1 kf_X1_33 dX1_twosOfOneSide_18 ?_
            replace hF := hF.trans (congrArg (dv_k f_X1_twosOfOneSide_4b) (congrArg (dv_k f_X1_twosOfOneSide_16b) (dv_bn (dv_getI h0 ro_3 (j := 7) rfl mx1 (by decide)))))
            refine tr_icmp_ge (tgt := 69) hx hb dX1_twosOfOneSide_21 (by decide) (Eq.refl _) (Eq.refl _) (fun c21 => ?_) (fun c21 => ?_)
            · replace hF := hF.trans (congrArg (dv_k f_X1_twosOfOneSide_4b) (congrArg (dv_k f_X1_twosOfOneSide_16b) (if_pos c21)))
              refine tr_iinc (fun x3 => [(2, .int x3), (0, .ref a0), (1, .int j16_1), (3, .int j16_3)]) hx hb dX1_twosOfOneSide_69 hl (k := 1) rfl (Eq.refl _) tk_1 (by omega) (by omega) (by decide) (fun _ => rfl) (fun x3 ls ex3 hl => ?_)
              replace hF := hF.trans (congrArg (dv_k f_X1_twosOfOneSide_4b) (congrArg (dv_k f_X1_twosOfOneSide_16b) (dv_bn (ex3.symm))))
              refine lv_goto (tgt := 4) hx hb dX1_twosOfOneSide_72 (by decide) ?_
              replace hF := hF.trans (congrArg (dv_k f_X1_twosOfOneSide_4b) (dv_kr))
              replace hF := hF.trans (dv_kl)
              exact ih4 locs ls j16_1 x3 hB (lv_sub hl [1, 2, 0] rfl) hF (by omega) (by omega) (by omega)
            · replace hF := hF.trans (congrArg (dv_k f_X1_twosOfOneSide_4b) (congrArg (dv_k f_X1_twosOfOneSide_16b) (if_neg (Int.not_le.mpr c21))))
              refine lv_iload_n hx hb dX1_twosOfOneSide_24 rfl (lv_at hl 2 rfl) ?_
              refine lv_aload_n hx hb dX1_twosOfOneSide_25 rfl (lv_at hl 0 rfl) ?_
              refine lv_iload_n hx hb dX1_twosOfOneSide_26 rfl (lv_at hl 1 rfl) ?_
              refine th_call (th_runV (As := [.int j4_2]) (rest := [.int j16_1]) hC mf_X1_isLaid km_X1_56 im_X1_isLaid se_X1_isLaid (c_X1_isLaid l G Γ H0 hB.1 hU a0 h0 j4_2) rfl rfl ⟨Nat.le_of_ble_eq_true rfl, Nat.le_of_ble_eq_true rfl⟩ hB.1 h0 ro_3 rfl rfl hl.1 rfl (Nat.le_of_ble_eq_true rfl) dX1_twosOfOneSide_27 ⟨Nat.le_refl _, Nat.le_refl _⟩) hB.2.1 (fun v27 H27 locs hp hz hS => ?_)
              obtain ⟨x4, rfl, lx4, ux4, q27_0, q27_1, q27_2, rfl⟩ := hp
              have hB := th_B_s hB hS
              replace hF := hF.trans (congrArg (dv_k f_X1_twosOfOneSide_4b) (congrArg (dv_k f_X1_twosOfOneSide_16b) (dv_bn2 (q27_2))))
              refine W.eq (g2 := F0 m 30 ls [.int x4, .int j16_1]) rfl ?_
              have jn61 : ∀ (locs : List Loc) (ls : Array Slot) (s61_1 : Int32), th_B G Γ Γ [] H0 H0 locs → lv_has ls 4 [(0, .ref a0), (2, .int j4_2), (3, .int j16_3)] → F = dv_k f_X1_twosOfOneSide_4b (dv_k f_X1_twosOfOneSide_16b (f_X1_twosOfOneSide_61 (dv G Γ H0) ((a0 : Int)) (j4_2.toInt) (j16_3.toInt) (j16_1.toInt) (s61_1.toInt))) → 0 ≤ s61_1.toInt → s61_1.toInt ≤ 1 → W p l e ({ frames := 2, cells := 0, slots := 0, locals := 42 } : Room) s m ([.ref a0] : List Value).toArray below meth c H0 locs 0 0 (MQ below (th_Q (fun (v : Option Value) (H1 : Heap) => ∃ r : Int32, v = some (.int r) ∧ (f_X1_twosOfOneSide (dv G Γ H0) (a0 : Int) = (r.toInt, ())) ∧ H0 = H1) G) ([.ref a0] : List Value).toArray s 0 0 (fun q => G.2.2 ≤ q)) (F0 m 61 ls [.int s61_1, .int j16_1]) := by
                intro locs ls s61_1 hB hl hF g61_0 g61_1
                have ls61_1 := ti_lo s61_1; have us61_1 := ti_hi s61_1
                replace hF := hF.trans (congrArg (dv_k f_X1_twosOfOneSide_4b) (congrArg (dv_k f_X1_twosOfOneSide_16b) (f_X1_twosOfOneSide_61.eq_1 (dv G Γ H0) ((a0 : Int)) (j4_2.toInt) (j16_3.toInt) (j16_1.toInt) (s61_1.toInt))))
                refine lv_iadd hx hb dX1_twosOfOneSide_61 ?_
                refine lv_topi (fun x5 ex5 => ?_)
                have lx5 := ti_lo x5; have ux5 := ti_hi x5
                replace hF := hF.trans (congrArg (dv_k f_X1_twosOfOneSide_4b) (congrArg (dv_k f_X1_twosOfOneSide_16b) (dv_bn (dv_add_e (Eq.refl _) (Eq.refl _) ex5))))
                refine lv_istore_n (lv' := [(1, .int x5), (0, .ref a0), (2, .int j4_2), (3, .int j16_3)]) hx hb dX1_twosOfOneSide_62 rfl hl (by decide) rfl (fun ls hl => ?_)
                refine tr_iinc (fun x6 => [(3, .int x6), (1, .int x5), (0, .ref a0), (2, .int j4_2)]) hx hb dX1_twosOfOneSide_63 hl (k := 3) rfl (Eq.refl _) tk_1 (by omega) (by omega) (by decide) (fun _ => rfl) (fun x6 ls ex6 hl => ?_)
                replace hF := hF.trans (congrArg (dv_k f_X1_twosOfOneSide_4b) (congrArg (dv_k f_X1_twosOfOneSide_16b) (dv_bn (ex6.symm))))
                refine lv_goto (tgt := 16) hx hb dX1_twosOfOneSide_66 (by decide) ?_
                replace hF := hF.trans (congrArg (dv_k f_X1_twosOfOneSide_4b) (dv_kl))
                exact ih16 locs ls x5 x6 hB (lv_sub hl [2, 3, 1, 0] rfl) hF (by omega) (by omega) (by omega)
              have jn60 : ∀ (locs : List Loc) (ls : Array Slot) , th_B G Γ Γ [] H0 H0 locs → lv_has ls 4 [(0, .ref a0), (2, .int j4_2), (3, .int j16_3)] → F = dv_k f_X1_twosOfOneSide_4b (dv_k f_X1_twosOfOneSide_16b (f_X1_twosOfOneSide_60 (dv G Γ H0) ((a0 : Int)) (j4_2.toInt) (j16_3.toInt) (j16_1.toInt))) → W p l e ({ frames := 2, cells := 0, slots := 0, locals := 42 } : Room) s m ([.ref a0] : List Value).toArray below meth c H0 locs 0 0 (MQ below (th_Q (fun (v : Option Value) (H1 : Heap) => ∃ r : Int32, v = some (.int r) ∧ (f_X1_twosOfOneSide (dv G Γ H0) (a0 : Int) = (r.toInt, ())) ∧ H0 = H1) G) ([.ref a0] : List Value).toArray s 0 0 (fun q => G.2.2 ≤ q)) (F0 m 60 ls [.int j16_1]) := by
                intro locs ls hB hl hF
                replace hF := hF.trans (congrArg (dv_k f_X1_twosOfOneSide_4b) (congrArg (dv_k f_X1_twosOfOneSide_16b) (f_X1_twosOfOneSide_60.eq_1 (dv G Γ H0) ((a0 : Int)) (j4_2.toInt) (j16_3.toInt) (j16_1.toInt))))
                refine lv_iconst (v := 0) hx hb dX1_twosOfOneSide_60 (by decide) ?_
                exact jn61 locs ls 0 hB (lv_sub hl [0, 1, 2] rfl) (by rw [tk_0]; exact hF) (by decide) (by decide)
              refine tr_if_eq (tgt := 60) hx hb dX1_twosOfOneSide_30 (by decide) (Eq.refl _) (fun c30 => ?_) (fun c30 => ?_)
              · replace hF := hF.trans (congrArg (dv_k f_X1_twosOfOneSide_4b) (congrArg (dv_k f_X1_twosOfOneSide_16b) (if_pos c30)))
                exact jn60 locs ls hB (lv_sub hl [0, 1, 3] rfl) hF
              · replace hF := hF.trans (congrArg (dv_k f_X1_twosOfOneSide_4b) (congrArg (dv_k f_X1_twosOfOneSide_16b) (if_neg c30)))
                refine lv_aload_n hx hb dX1_twosOfOneSide_33 rfl (lv_at hl 0 rfl) ?_
                refine lv_iload_n hx hb dX1_twosOfOneSide_34 rfl (lv_at hl 3 rfl) ?_
                refine th_call (th_runV (As := [.int j16_3]) (rest := [.int j16_1]) hC mf_X1_isLaid km_X1_56 im_X1_isLaid se_X1_isLaid (c_X1_isLaid l G Γ H0 hB.1 hU a0 h0 j16_3) rfl rfl ⟨Nat.le_of_ble_eq_true rfl, Nat.le_of_ble_eq_true rfl⟩ hB.1 h0 ro_3 rfl rfl hl.1 rfl (Nat.le_of_ble_eq_true rfl) dX1_twosOfOneSide_35 ⟨Nat.le_refl _, Nat.le_refl _⟩) hB.2.1 (fun v35 H35 locs hp hz hS => ?_)
                obtain ⟨x7, rfl, lx7, ux7, q35_0, q35_1, q35_2, rfl⟩ := hp
                have hB := th_B_s hB hS
                replace hF := hF.trans (congrArg (dv_k f_X1_twosOfOneSide_4b) (congrArg (dv_k f_X1_twosOfOneSide_16b) (dv_bn2 (q35_2))))
                refine W.eq (g2 := F0 m 38 ls [.int x7, .int j16_1]) rfl ?_
                refine tr_if_eq (tgt := 60) hx hb dX1_twosOfOneSide_38 (by decide) (Eq.refl _) (fun c38 => ?_) (fun c38 => ?_)
                · replace hF := hF.trans (congrArg (dv_k f_X1_twosOfOneSide_4b) (congrArg (dv_k f_X1_twosOfOneSide_16b) (if_pos c38)))
                  exact jn60 locs ls hB (lv_sub hl [0, 1, 3] rfl) hF
                · replace hF := hF.trans (congrArg (dv_k f_X1_twosOfOneSide_4b) (congrArg (dv_k f_X1_twosOfOneSide_16b) (if_neg c38)))
                  refine lv_aload_n hx hb dX1_twosOfOneSide_41 rfl (lv_at hl 0 rfl) ?_
                  refine th_getO (j := 0) (r2 := 4) hC cf_X1 hB.1 h0 ro_3 rfl rfl kf_X1_9 dX1_twosOfOneSide_42 (fun b8 mb8 hb8 => ?_)
                  refine lv_iload_n hx hb dX1_twosOfOneSide_45 rfl (lv_at hl 1 rfl) ?_
                  refine th_ialdF hC hB.1 hb8 ro_4 rfl (Eq.refl _) (by omega) (by omega) rfl dX1_twosOfOneSide_46 (fun x9 mx9 lx9 ux9 => ?_)
                  replace hF := hF.trans (congrArg (dv_k f_X1_twosOfOneSide_4b) (congrArg (dv_k f_X1_twosOfOneSide_16b) (dv_bn (dv_aldI hB.1 hU hb8 ow_4 (z := j4_2.toInt) mx9 (by omega)))))
                  refine lv_aload_n hx hb dX1_twosOfOneSide_47 rfl (lv_at hl 0 rfl) ?_
                  refine th_getK hC cf_X1 hB.1 h0 ro_3 rfl (j := 0) (by decide) mb8 kf_X1_9 dX1_twosOfOneSide_48 ?_
                  refine lv_iload_n hx hb dX1_twosOfOneSide_51 rfl (lv_at hl 3 rfl) ?_
                  refine th_ialdF hC hB.1 hb8 ro_4 rfl (Eq.refl _) (by omega) (by omega) rfl dX1_twosOfOneSide_52 (fun x10 mx10 lx10 ux10 => ?_)
                  replace hF := hF.trans (congrArg (dv_k f_X1_twosOfOneSide_4b) (congrArg (dv_k f_X1_twosOfOneSide_16b) (dv_bn (dv_aldI hB.1 hU hb8 ow_4 (z := j16_3.toInt) mx10 (by omega)))))
                  refine tr_icmp_ne (tgt := 60) hx hb dX1_twosOfOneSide_53 (by decide) (Eq.refl _) (Eq.refl _) (fun c53 => ?_) (fun c53 => ?_)
                  · replace hF := hF.trans (congrArg (dv_k f_X1_twosOfOneSide_4b) (congrArg (dv_k f_X1_twosOfOneSide_16b) (if_pos c53)))
                    exact jn60 locs ls hB (lv_sub hl [0, 1, 3] rfl) hF
                  · replace hF := hF.trans (congrArg (dv_k f_X1_twosOfOneSide_4b) (congrArg (dv_k f_X1_twosOfOneSide_16b) (if_neg (not_not_intro c53))))
                    refine lv_iconst (v := 1) hx hb dX1_twosOfOneSide_56 (by decide) ?_
                    refine lv_goto (tgt := 61) hx hb dX1_twosOfOneSide_57 (by decide) ?_
                    exact jn61 locs ls 1 hB (lv_sub hl [0, 1, 3] rfl) (by rw [tk_1]; exact hF) (by decide) (by decide)
        exact lp16 ((2147483648 : Int) - (x2.toInt)).toNat locs ls j4_1 x2 hB (lv_sub hl [1, 3, 2, 0] rfl) hF (by omega) (by omega) (by omega)
  exact lp4 ((2147483648 : Int) - (0)).toNat [] ls 0 0 hB (lv_sub hl [2, 1, 0] rfl) (by rw [tk_0]; exact hF) (by decide) (by decide) (by have w0 := tk_0; omega)
