section TMO
theorem ek_a {b : Int} (h0 : 0 ≤ b) (h1 : b ≤ 28) : th_esk b.toNat = (0, (-2147483648), 2147483647) := by
  unfold th_esk th_any; (repeat' split) <;> first | rfl | omega
theorem ek_side {b : Int} (h0 : 29 ≤ b) (h1 : b ≤ 37) : th_esk b.toNat = (0, 0, 12) := by
  unfold th_esk th_any; (repeat' split) <;> first | rfl | omega
theorem ek_b {b : Int} (h0 : 38 ≤ b) (h1 : b ≤ 66) : th_esk b.toNat = (0, (-2147483648), 2147483647) := by
  unfold th_esk th_any; (repeat' split) <;> first | rfl | omega
theorem ek_t {b : Int} (h0 : b = 28 ∨ 65 ≤ b) (h1 : b ≤ 66) : th_esk b.toNat = (0, (-2147483648), 2147483647) := by
  unfold th_esk th_any; (repeat' split) <;> first | rfl | omega
theorem ek_hall {b : Int} (h0 : 67 ≤ b) (h1 : b ≤ 68) : th_esk b.toNat = (0, 0, 12) := by
  unfold th_esk th_any; (repeat' split) <;> first | rfl | omega
theorem ek_many {b : Int} (h0 : 69 ≤ b) (h1 : b ≤ 69) : th_esk b.toNat = (0, 0, 9) := by
  unfold th_esk th_any; (repeat' split) <;> first | rfl | omega
theorem ek_seen {b : Int} (h0 : 70 ≤ b) (h1 : b ≤ 70) : th_esk b.toNat = (0, 0, 6) := by
  unfold th_esk th_any; (repeat' split) <;> first | rfl | omega
theorem ek_told {b : Int} (h0 : 71 ≤ b) (h1 : b ≤ 71) : th_esk b.toNat = (0, 0, 6) := by
  unfold th_esk th_any; (repeat' split) <;> first | rfl | omega
theorem ek_force {b : Int} (h0 : 72 ≤ b) (h1 : b ≤ 72) : th_esk b.toNat = (0, (-1), 5) := by
  unfold th_esk th_any; (repeat' split) <;> first | rfl | omega
theorem ek_size {b : Int} (h0 : 73 ≤ b) (h1 : b ≤ 79) : th_esk b.toNat = (0, 0, 400) := by
  unfold th_esk th_any; (repeat' split) <;> first | rfl | omega
theorem ek_c {b : Int} (h0 : 80 ≤ b) (h1 : b ≤ 5679) : th_esk b.toNat = (0, (-2147483648), 2147483647) := by
  unfold th_esk th_any; (repeat' split) <;> first | rfl | omega
end TMO
set_option maxHeartbeats 4000000 in
set_option maxRecDepth 100000 in
theorem c_X12_lies (l : Launch) (G : th_G) (Γ : th_Ga) (H0 : Heap) (hI : th_I G Γ H0) (hU : dv_U Γ) (p1 : Int32) (p2 : Int32) (p3 : Int32) : Met l yX12_lies (.code yX12_lies cX12_lies 3 (some FieldType.boolean) :: th_tb) ({ frames := 0, cells := 0, slots := 0, locals := 0 } : Room) (th_P [.int p1, .int p2, .int p3] G H0) (th_Q (fun (v : Option Value) (H1 : Heap) => ∃ r : Int32, v = some (.int r) ∧ 0 ≤ r.toInt ∧ r.toInt ≤ 1 ∧ (r.toInt = 1 → p2.toInt ≤ p1.toInt ∧ p1.toInt ≤ p3.toInt) ∧ (r.toInt = 0 → p1.toInt < p2.toInt ∨ p3.toInt < p1.toInt) ∧ (f_X12_lies (dv G Γ H0) p1.toInt p2.toInt p3.toInt = (r.toInt, ())) ∧ H0 = H1) G) 0 0 (fun q => G.2.2 ≤ q) := by
  refine th_met RX12 (by decide) rfl (Nat.le_of_ble_eq_true rfl) ?_
  intro p e s m below meth c hC hH hr hlocks hnm ls hl
  have hx := hC.1
  have hb := hC.2.1
  have hB : th_B G Γ Γ [] H0 H0 [] := ⟨hI, va_S.rf, th_F_rf⟩
  have hl : lv_has ls 3 [(0, .int p1), (1, .int p2), (2, .int p3)] := hl
  have lp1 := ti_lo p1; have up1 := ti_hi p1
  have lp2 := ti_lo p2; have up2 := ti_hi p2
  have lp3 := ti_lo p3; have up3 := ti_hi p3
  obtain ⟨F, hF0⟩ : ∃ F, F = f_X12_lies (dv G Γ H0) (p1.toInt) (p2.toInt) (p3.toInt) := ⟨_, rfl⟩
  have hF := hF0.trans (f_X12_lies.eq_1 (dv G Γ H0) (p1.toInt) (p2.toInt) (p3.toInt))
  refine lv_iload_n hx hb dX12_lies_0 rfl (lv_at hl 0 rfl) ?_
  refine lv_iload_n hx hb dX12_lies_1 rfl (lv_at hl 1 rfl) ?_
  refine tr_icmp_lt (tgt := 14) hx hb dX12_lies_2 (by decide) (Eq.refl _) (Eq.refl _) (fun c2 => ?_) (fun c2 => ?_)
  · replace hF := hF.trans (if_pos c2)
    refine lv_iconst (v := 0) hx hb dX12_lies_14 (by decide) ?_
    exact th_iret hC hH hr hlocks narrow_b0 hB.2.1 ⟨_, rfl, by decide, by decide, by first | (intro h9; exact absurd h9 (by decide)) | (have w9 := tk_0; intros; omega), by first | (intro h9; exact absurd h9 (by decide)) | (have w9 := tk_0; intros; omega), (hF0.symm.trans (hF.trans (by rw [tk_0]))), rfl⟩ dX12_lies_15
  · replace hF := hF.trans (if_neg (Int.not_lt.mpr c2))
    refine lv_iload_n hx hb dX12_lies_5 rfl (lv_at hl 0 rfl) ?_
    refine lv_iload_n hx hb dX12_lies_6 rfl (lv_at hl 2 rfl) ?_
    refine tr_icmp_gt (tgt := 14) hx hb dX12_lies_7 (by decide) (Eq.refl _) (Eq.refl _) (fun c7 => ?_) (fun c7 => ?_)
    · replace hF := hF.trans (if_pos c7)
      refine lv_iconst (v := 0) hx hb dX12_lies_14 (by decide) ?_
      exact th_iret hC hH hr hlocks narrow_b0 hB.2.1 ⟨_, rfl, by decide, by decide, by first | (intro h9; exact absurd h9 (by decide)) | (have w9 := tk_0; intros; omega), by first | (intro h9; exact absurd h9 (by decide)) | (have w9 := tk_0; intros; omega), (hF0.symm.trans (hF.trans (by rw [tk_0]))), rfl⟩ dX12_lies_15
    · replace hF := hF.trans (if_neg (Int.not_lt.mpr c7))
      refine lv_iconst (v := 1) hx hb dX12_lies_10 (by decide) ?_
      refine lv_goto (tgt := 15) hx hb dX12_lies_11 (by decide) ?_
      exact th_iret hC hH hr hlocks narrow_b1 hB.2.1 ⟨_, rfl, by decide, by decide, by first | (intro h9; exact absurd h9 (by decide)) | (have w9 := tk_1; intros; omega), by first | (intro h9; exact absurd h9 (by decide)) | (have w9 := tk_1; intros; omega), (hF0.symm.trans (hF.trans (by rw [tk_1]))), rfl⟩ dX12_lies_15

set_option maxHeartbeats 4000000 in
set_option maxRecDepth 100000 in
theorem c_X12_lesser (l : Launch) (G : th_G) (Γ : th_Ga) (H0 : Heap) (hI : th_I G Γ H0) (hU : dv_U Γ) (p1 : Int32) (p2 : Int32) : Met l yX12_lesser (.code yX12_lesser cX12_lesser 2 (some FieldType.int) :: th_tb) ({ frames := 0, cells := 0, slots := 0, locals := 0 } : Room) (th_P [.int p1, .int p2] G H0) (th_Q (fun (v : Option Value) (H1 : Heap) => ∃ r : Int32, v = some (.int r) ∧ (r.toInt = p1.toInt ∨ r.toInt = p2.toInt) ∧ (f_X12_lesser (dv G Γ H0) p1.toInt p2.toInt = (r.toInt, ())) ∧ H0 = H1) G) 0 0 (fun q => G.2.2 ≤ q) := by
  refine th_met RX12 (by decide) rfl (Nat.le_of_ble_eq_true rfl) ?_
  intro p e s m below meth c hC hH hr hlocks hnm ls hl
  have hx := hC.1
  have hb := hC.2.1
  have hB : th_B G Γ Γ [] H0 H0 [] := ⟨hI, va_S.rf, th_F_rf⟩
  have hl : lv_has ls 2 [(0, .int p1), (1, .int p2)] := hl
  have lp1 := ti_lo p1; have up1 := ti_hi p1
  have lp2 := ti_lo p2; have up2 := ti_hi p2
  obtain ⟨F, hF0⟩ : ∃ F, F = f_X12_lesser (dv G Γ H0) (p1.toInt) (p2.toInt) := ⟨_, rfl⟩
  have hF := hF0.trans (f_X12_lesser.eq_1 (dv G Γ H0) (p1.toInt) (p2.toInt))
  refine lv_iload_n hx hb dX12_lesser_0 rfl (lv_at hl 0 rfl) ?_
  refine lv_iload_n hx hb dX12_lesser_1 rfl (lv_at hl 1 rfl) ?_
  refine tr_icmp_ge (tgt := 9) hx hb dX12_lesser_2 (by decide) (Eq.refl _) (Eq.refl _) (fun c2 => ?_) (fun c2 => ?_)
  · replace hF := hF.trans (if_pos c2)
    refine lv_iload_n hx hb dX12_lesser_9 rfl (lv_at hl 1 rfl) ?_
    exact th_iret hC hH hr hlocks rfl hB.2.1 ⟨_, rfl, by intros; omega, (hF0.symm.trans hF), rfl⟩ dX12_lesser_10
  · replace hF := hF.trans (if_neg (Int.not_le.mpr c2))
    refine lv_iload_n hx hb dX12_lesser_5 rfl (lv_at hl 0 rfl) ?_
    refine lv_goto (tgt := 10) hx hb dX12_lesser_6 (by decide) ?_
    exact th_iret hC hH hr hlocks rfl hB.2.1 ⟨_, rfl, by intros; omega, (hF0.symm.trans hF), rfl⟩ dX12_lesser_10

set_option maxHeartbeats 4000000 in
set_option maxRecDepth 100000 in
theorem c_X12_greater (l : Launch) (G : th_G) (Γ : th_Ga) (H0 : Heap) (hI : th_I G Γ H0) (hU : dv_U Γ) (p1 : Int32) (p2 : Int32) : Met l yX12_greater (.code yX12_greater cX12_greater 2 (some FieldType.int) :: th_tb) ({ frames := 0, cells := 0, slots := 0, locals := 0 } : Room) (th_P [.int p1, .int p2] G H0) (th_Q (fun (v : Option Value) (H1 : Heap) => ∃ r : Int32, v = some (.int r) ∧ (r.toInt = p1.toInt ∨ r.toInt = p2.toInt) ∧ (f_X12_greater (dv G Γ H0) p1.toInt p2.toInt = (r.toInt, ())) ∧ H0 = H1) G) 0 0 (fun q => G.2.2 ≤ q) := by
  refine th_met RX12 (by decide) rfl (Nat.le_of_ble_eq_true rfl) ?_
  intro p e s m below meth c hC hH hr hlocks hnm ls hl
  have hx := hC.1
  have hb := hC.2.1
  have hB : th_B G Γ Γ [] H0 H0 [] := ⟨hI, va_S.rf, th_F_rf⟩
  have hl : lv_has ls 2 [(0, .int p1), (1, .int p2)] := hl
  have lp1 := ti_lo p1; have up1 := ti_hi p1
  have lp2 := ti_lo p2; have up2 := ti_hi p2
  obtain ⟨F, hF0⟩ : ∃ F, F = f_X12_greater (dv G Γ H0) (p1.toInt) (p2.toInt) := ⟨_, rfl⟩
  have hF := hF0.trans (f_X12_greater.eq_1 (dv G Γ H0) (p1.toInt) (p2.toInt))
  refine lv_iload_n hx hb dX12_greater_0 rfl (lv_at hl 0 rfl) ?_
  refine lv_iload_n hx hb dX12_greater_1 rfl (lv_at hl 1 rfl) ?_
  refine tr_icmp_le (tgt := 9) hx hb dX12_greater_2 (by decide) (Eq.refl _) (Eq.refl _) (fun c2 => ?_) (fun c2 => ?_)
  · replace hF := hF.trans (if_pos c2)
    refine lv_iload_n hx hb dX12_greater_9 rfl (lv_at hl 1 rfl) ?_
    exact th_iret hC hH hr hlocks rfl hB.2.1 ⟨_, rfl, by intros; omega, (hF0.symm.trans hF), rfl⟩ dX12_greater_10
  · replace hF := hF.trans (if_neg (Int.not_le.mpr c2))
    refine lv_iload_n hx hb dX12_greater_5 rfl (lv_at hl 0 rfl) ?_
    refine lv_goto (tgt := 10) hx hb dX12_greater_6 (by decide) ?_
    exact th_iret hC hH hr hlocks rfl hB.2.1 ⟨_, rfl, by intros; omega, (hF0.symm.trans hF), rfl⟩ dX12_greater_10

set_option maxHeartbeats 4000000 in
set_option maxRecDepth 100000 in
theorem c_X12_isIn (l : Launch) (G : th_G) (Γ : th_Ga) (H0 : Heap) (hI : th_I G Γ H0) (hU : dv_U Γ) (p1 : Int32) (p2 : Int32) (f2 : 0 ≤ p2.toInt) (g2 : p2.toInt ≤ 11) : Met l yX12_isIn (.code yX12_isIn cX12_isIn 2 (some FieldType.boolean) :: th_tb) ({ frames := 0, cells := 0, slots := 0, locals := 0 } : Room) (th_P [.int p1, .int p2] G H0) (th_Q (fun (v : Option Value) (H1 : Heap) => ∃ r : Int32, v = some (.int r) ∧ 0 ≤ r.toInt ∧ r.toInt ≤ 1 ∧ (r.toInt = 1 → mo_bt p1 p2.toInt) ∧ (f_X12_isIn (dv G Γ H0) p1.toInt p2.toInt = (r.toInt, ())) ∧ H0 = H1) G) 0 0 (fun q => G.2.2 ≤ q) := by
  refine th_met RX12 (by decide) rfl (Nat.le_of_ble_eq_true rfl) ?_
  intro p e s m below meth c hC hH hr hlocks hnm ls hl
  have hx := hC.1
  have hb := hC.2.1
  have hB : th_B G Γ Γ [] H0 H0 [] := ⟨hI, va_S.rf, th_F_rf⟩
  have hl : lv_has ls 2 [(0, .int p1), (1, .int p2)] := hl
  have lp1 := ti_lo p1; have up1 := ti_hi p1
  have lp2 := ti_lo p2; have up2 := ti_hi p2
  obtain ⟨F, hF0⟩ : ∃ F, F = f_X12_isIn (dv G Γ H0) (p1.toInt) (p2.toInt) := ⟨_, rfl⟩
  have hF := hF0.trans (f_X12_isIn.eq_1 (dv G Γ H0) (p1.toInt) (p2.toInt))
  refine lv_iload_n hx hb dX12_isIn_0 rfl (lv_at hl 0 rfl) ?_
  refine lv_iload_n hx hb dX12_isIn_1 rfl (lv_at hl 1 rfl) ?_
  refine lv_ishr hx hb dX12_isIn_2 ?_
  refine lv_topi (fun x1 ex1 => ?_)
  have lx1 := ti_lo x1; have ux1 := ti_hi x1
  replace hF := hF.trans (dv_bn (dv_shr_e (Eq.refl _) (Eq.refl _) ex1))
  refine lv_iconst (v := 1) hx hb dX12_isIn_3 (by decide) ?_
  refine lv_iand hx hb dX12_isIn_4 ?_
  refine lv_topi (fun x2 ex2 => ?_)
  have lx2 := ti_lo x2; have ux2 := ti_hi x2
  replace hF := hF.trans (dv_bn (dv_and_e (Eq.refl _) tk_1 ex2))
  have fx2 := ti_and x1 1 (m := 1) (by decide) (by decide)
  rw [← ex2] at fx2
  refine lv_iconst (v := 1) hx hb dX12_isIn_5 (by decide) ?_
  refine tr_icmp_ne (tgt := 13) hx hb dX12_isIn_6 (by decide) (Eq.refl _) tk_1 (fun c6 => ?_) (fun c6 => ?_)
  · replace hF := hF.trans (if_pos c6)
    refine lv_iconst (v := 0) hx hb dX12_isIn_13 (by decide) ?_
    exact th_iret hC hH hr hlocks narrow_b0 hB.2.1 ⟨_, rfl, by decide, by decide, by first | (intro h9; exact absurd h9 (by decide)) | (intro _; exact mo_bt_of (by omega) (by omega) ex1 ex2 (by omega)), (hF0.symm.trans (hF.trans (by rw [tk_0]))), rfl⟩ dX12_isIn_14
  · replace hF := hF.trans (if_neg (not_not_intro c6))
    refine lv_iconst (v := 1) hx hb dX12_isIn_9 (by decide) ?_
    refine lv_goto (tgt := 14) hx hb dX12_isIn_10 (by decide) ?_
    exact th_iret hC hH hr hlocks narrow_b1 hB.2.1 ⟨_, rfl, by decide, by decide, by first | (intro h9; exact absurd h9 (by decide)) | (intro _; exact mo_bt_of (by omega) (by omega) ex1 ex2 (by omega)), (hF0.symm.trans (hF.trans (by rw [tk_1]))), rfl⟩ dX12_isIn_14

set_option maxHeartbeats 4000000 in
set_option maxRecDepth 100000 in
theorem c_X12_isSide (l : Launch) (G : th_G) (Γ : th_Ga) (H0 : Heap) (hI : th_I G Γ H0) (hU : dv_U Γ) (p1 : Int32) : Met l yX12_isSide (.code yX12_isSide cX12_isSide 1 (some FieldType.boolean) :: th_tb) ({ frames := 1, cells := 0, slots := 0, locals := 22 } : Room) (th_P [.int p1] G H0) (th_Q (fun (v : Option Value) (H1 : Heap) => ∃ r : Int32, v = some (.int r) ∧ 0 ≤ r.toInt ∧ r.toInt ≤ 1 ∧ (r.toInt = 1 → 1 ≤ p1.toInt ∧ p1.toInt ≤ 12) ∧ (f_X12_isSide (dv G Γ H0) p1.toInt = (r.toInt, ())) ∧ H0 = H1) G) 0 0 (fun q => G.2.2 ≤ q) := by
  refine th_met RX12 (by decide) rfl (Nat.le_of_ble_eq_true rfl) ?_
  intro p e s m below meth c hC hH hr hlocks hnm ls hl
  have hx := hC.1
  have hb := hC.2.1
  have hB : th_B G Γ Γ [] H0 H0 [] := ⟨hI, va_S.rf, th_F_rf⟩
  have hl : lv_has ls 1 [(0, .int p1)] := hl
  have lp1 := ti_lo p1; have up1 := ti_hi p1
  obtain ⟨F, hF0⟩ : ∃ F, F = f_X12_isSide (dv G Γ H0) (p1.toInt) := ⟨_, rfl⟩
  have hF := hF0.trans (f_X12_isSide.eq_1 (dv G Γ H0) (p1.toInt))
  refine lv_iload_n hx hb dX12_isSide_0 rfl (lv_at hl 0 rfl) ?_
  refine lv_iconst (v := 1) hx hb dX12_isSide_1 (by decide) ?_
  refine lv_bipush (v := 12) hx hb dX12_isSide_2 (by decide) ?_
  refine th_call (th_runS (As := [.int p1, .int 1, .int 12]) (rest := []) hC mf_X12_lies km_X12_18 st_X12_lies (c_X12_lies l G Γ H0 hB.1 hU p1 1 12) rfl rfl ⟨Nat.le_of_ble_eq_true rfl, Nat.le_of_ble_eq_true rfl⟩ rfl hl.1 rfl (Nat.le_of_ble_eq_true rfl) dX12_isSide_4 ⟨Nat.le_refl _, Nat.le_refl _⟩) hB.2.1 (fun v4 H4 locs hp hz hS => ?_)
  obtain ⟨x1, rfl, lx1, ux1, q4_0, q4_1, q4_2, rfl⟩ := hp
  have hB := th_B_s hB hS
  have w4_1 := tk_1
  have w4_2 := tk_12
  have zf4 := q4_2
  rw [tk_1, tk_12] at zf4
  replace hF := hF.trans (dv_bn2 (zf4))
  refine W.eq (g2 := F0 m 7 ls [.int x1]) rfl ?_
  exact th_iret hC hH hr hlocks (th_nb (by omega) (by omega)) hB.2.1 ⟨_, rfl, by omega, by omega, by intros; omega, (hF0.symm.trans hF), rfl⟩ dX12_isSide_7

set_option maxHeartbeats 4000000 in
set_option maxRecDepth 100000 in
theorem c_X12_isAlong (l : Launch) (G : th_G) (Γ : th_Ga) (H0 : Heap) (hI : th_I G Γ H0) (hU : dv_U Γ) (p1 : Int32) : Met l yX12_isAlong (.code yX12_isAlong cX12_isAlong 1 (some FieldType.boolean) :: th_tb) ({ frames := 1, cells := 0, slots := 0, locals := 22 } : Room) (th_P [.int p1] G H0) (th_Q (fun (v : Option Value) (H1 : Heap) => ∃ r : Int32, v = some (.int r) ∧ 0 ≤ r.toInt ∧ r.toInt ≤ 1 ∧ (r.toInt = 1 → 0 ≤ p1.toInt ∧ p1.toInt ≤ 11) ∧ (f_X12_isAlong (dv G Γ H0) p1.toInt = (r.toInt, ())) ∧ H0 = H1) G) 0 0 (fun q => G.2.2 ≤ q) := by
  refine th_met RX12 (by decide) rfl (Nat.le_of_ble_eq_true rfl) ?_
  intro p e s m below meth c hC hH hr hlocks hnm ls hl
  have hx := hC.1
  have hb := hC.2.1
  have hB : th_B G Γ Γ [] H0 H0 [] := ⟨hI, va_S.rf, th_F_rf⟩
  have hl : lv_has ls 1 [(0, .int p1)] := hl
  have lp1 := ti_lo p1; have up1 := ti_hi p1
  obtain ⟨F, hF0⟩ : ∃ F, F = f_X12_isAlong (dv G Γ H0) (p1.toInt) := ⟨_, rfl⟩
  have hF := hF0.trans (f_X12_isAlong.eq_1 (dv G Γ H0) (p1.toInt))
  refine lv_iload_n hx hb dX12_isAlong_0 rfl (lv_at hl 0 rfl) ?_
  refine lv_iconst (v := 0) hx hb dX12_isAlong_1 (by decide) ?_
  refine lv_bipush (v := 11) hx hb dX12_isAlong_2 (by decide) ?_
  refine th_call (th_runS (As := [.int p1, .int 0, .int 11]) (rest := []) hC mf_X12_lies km_X12_18 st_X12_lies (c_X12_lies l G Γ H0 hB.1 hU p1 0 11) rfl rfl ⟨Nat.le_of_ble_eq_true rfl, Nat.le_of_ble_eq_true rfl⟩ rfl hl.1 rfl (Nat.le_of_ble_eq_true rfl) dX12_isAlong_4 ⟨Nat.le_refl _, Nat.le_refl _⟩) hB.2.1 (fun v4 H4 locs hp hz hS => ?_)
  obtain ⟨x1, rfl, lx1, ux1, q4_0, q4_1, q4_2, rfl⟩ := hp
  have hB := th_B_s hB hS
  have w4_1 := tk_0
  have w4_2 := tk_11
  have zf4 := q4_2
  rw [tk_0, tk_11] at zf4
  replace hF := hF.trans (dv_bn2 (zf4))
  refine W.eq (g2 := F0 m 7 ls [.int x1]) rfl ?_
  exact th_iret hC hH hr hlocks (th_nb (by omega) (by omega)) hB.2.1 ⟨_, rfl, by omega, by omega, by intros; omega, (hF0.symm.trans hF), rfl⟩ dX12_isAlong_7

set_option maxHeartbeats 4000000 in
set_option maxRecDepth 100000 in
theorem c_X12_canBe (l : Launch) (G : th_G) (Γ : th_Ga) (H0 : Heap) (hI : th_I G Γ H0) (hU : dv_U Γ) (p1 : Int32) (p2 : Int32) (p3 : Int32) : Met l yX12_canBe (.code yX12_canBe cX12_canBe 3 (some FieldType.boolean) :: th_tb) ({ frames := 2, cells := 0, slots := 0, locals := 42 } : Room) (th_P [.int p1, .int p2, .int p3] G H0) (th_Q (fun (v : Option Value) (H1 : Heap) => ∃ r : Int32, v = some (.int r) ∧ 0 ≤ r.toInt ∧ r.toInt ≤ 1 ∧ (r.toInt = 1 → 1 ≤ p1.toInt ∧ p1.toInt ≤ 12) ∧ (f_X12_canBe (dv G Γ H0) p1.toInt p2.toInt p3.toInt = (r.toInt, ())) ∧ H0 = H1) G) 0 0 (fun q => G.2.2 ≤ q) := by
  refine th_met RX12 (by decide) rfl (Nat.le_of_ble_eq_true rfl) ?_
  intro p e s m below meth c hC hH hr hlocks hnm ls hl
  have hx := hC.1
  have hb := hC.2.1
  have hB : th_B G Γ Γ [] H0 H0 [] := ⟨hI, va_S.rf, th_F_rf⟩
  have hl : lv_has ls 3 [(0, .int p1), (1, .int p2), (2, .int p3)] := hl
  have lp1 := ti_lo p1; have up1 := ti_hi p1
  have lp2 := ti_lo p2; have up2 := ti_hi p2
  have lp3 := ti_lo p3; have up3 := ti_hi p3
  obtain ⟨F, hF0⟩ : ∃ F, F = f_X12_canBe (dv G Γ H0) (p1.toInt) (p2.toInt) (p3.toInt) := ⟨_, rfl⟩
  have hF := hF0.trans (f_X12_canBe.eq_1 (dv G Γ H0) (p1.toInt) (p2.toInt) (p3.toInt))
  refine lv_iload_n hx hb dX12_canBe_0 rfl (lv_at hl 0 rfl) ?_
  refine th_call (th_runS (As := [.int p1]) (rest := []) hC mf_X12_isSide km_X12_119 st_X12_isSide (c_X12_isSide l G Γ H0 hB.1 hU p1) rfl rfl ⟨Nat.le_of_ble_eq_true rfl, Nat.le_of_ble_eq_true rfl⟩ rfl hl.1 rfl (Nat.le_of_ble_eq_true rfl) dX12_canBe_1 ⟨Nat.le_refl _, Nat.le_refl _⟩) hB.2.1 (fun v1 H1 locs hp hz hS => ?_)
  obtain ⟨x1, rfl, lx1, ux1, q1_0, q1_1, rfl⟩ := hp
  have hB := th_B_s hB hS
  replace hF := hF.trans (dv_bn2 (q1_1))
  refine W.eq (g2 := F0 m 4 ls [.int x1]) rfl ?_
  refine tr_if_eq (tgt := 30) hx hb dX12_canBe_4 (by decide) (Eq.refl _) (fun c4 => ?_) (fun c4 => ?_)
  · replace hF := hF.trans (if_pos c4)
    refine lv_iconst (v := 0) hx hb dX12_canBe_30 (by decide) ?_
    exact th_iret hC hH hr hlocks narrow_b0 hB.2.1 ⟨_, rfl, by decide, by decide, by first | (intro h9; exact absurd h9 (by decide)) | (have w9 := tk_0; intros; omega), (hF0.symm.trans (hF.trans (by rw [tk_0]))), rfl⟩ dX12_canBe_31
  · replace hF := hF.trans (if_neg c4)
    refine lv_iload_n hx hb dX12_canBe_7 rfl (lv_at hl 1 rfl) ?_
    refine lv_iconst (v := 0) hx hb dX12_canBe_8 (by decide) ?_
    refine lv_iconst (v := 3) hx hb dX12_canBe_9 (by decide) ?_
    refine th_call (th_runS (As := [.int p2, .int 0, .int 3]) (rest := []) hC mf_X12_lies km_X12_18 st_X12_lies (c_X12_lies l G Γ H0 hB.1 hU p2 0 3) rfl rfl ⟨Nat.le_of_ble_eq_true rfl, Nat.le_of_ble_eq_true rfl⟩ rfl hl.1 rfl (Nat.le_of_ble_eq_true rfl) dX12_canBe_10 ⟨Nat.le_refl _, Nat.le_refl _⟩) hB.2.1 (fun v10 H10 locs hp hz hS => ?_)
    obtain ⟨x2, rfl, lx2, ux2, q10_0, q10_1, q10_2, rfl⟩ := hp
    have hB := th_B_s hB hS
    have w10_1 := tk_0
    have w10_2 := tk_3
    have zf10 := q10_2
    rw [tk_0, tk_3] at zf10
    replace hF := hF.trans (dv_bn2 (zf10))
    refine W.eq (g2 := F0 m 13 ls [.int x2]) rfl ?_
    refine tr_if_eq (tgt := 30) hx hb dX12_canBe_13 (by decide) (Eq.refl _) (fun c13 => ?_) (fun c13 => ?_)
    · replace hF := hF.trans (if_pos c13)
      refine lv_iconst (v := 0) hx hb dX12_canBe_30 (by decide) ?_
      exact th_iret hC hH hr hlocks narrow_b0 hB.2.1 ⟨_, rfl, by decide, by decide, by first | (intro h9; exact absurd h9 (by decide)) | (have w9 := tk_0; intros; omega), (hF0.symm.trans (hF.trans (by rw [tk_0]))), rfl⟩ dX12_canBe_31
    · replace hF := hF.trans (if_neg c13)
      refine lv_iload_n hx hb dX12_canBe_16 rfl (lv_at hl 2 rfl) ?_
      refine lv_iconst (v := 0) hx hb dX12_canBe_17 (by decide) ?_
      refine lv_bipush (v := 9) hx hb dX12_canBe_18 (by decide) ?_
      refine th_call (th_runS (As := [.int p3, .int 0, .int 9]) (rest := []) hC mf_X12_lies km_X12_18 st_X12_lies (c_X12_lies l G Γ H0 hB.1 hU p3 0 9) rfl rfl ⟨Nat.le_of_ble_eq_true rfl, Nat.le_of_ble_eq_true rfl⟩ rfl hl.1 rfl (Nat.le_of_ble_eq_true rfl) dX12_canBe_20 ⟨Nat.le_refl _, Nat.le_refl _⟩) hB.2.1 (fun v20 H20 locs hp hz hS => ?_)
      obtain ⟨x3, rfl, lx3, ux3, q20_0, q20_1, q20_2, rfl⟩ := hp
      have hB := th_B_s hB hS
      have w20_1 := tk_0
      have w20_2 := tk_9
      have zf20 := q20_2
      rw [tk_0, tk_9] at zf20
      replace hF := hF.trans (dv_bn2 (zf20))
      refine W.eq (g2 := F0 m 23 ls [.int x3]) rfl ?_
      refine tr_if_eq (tgt := 30) hx hb dX12_canBe_23 (by decide) (Eq.refl _) (fun c23 => ?_) (fun c23 => ?_)
      · replace hF := hF.trans (if_pos c23)
        refine lv_iconst (v := 0) hx hb dX12_canBe_30 (by decide) ?_
        exact th_iret hC hH hr hlocks narrow_b0 hB.2.1 ⟨_, rfl, by decide, by decide, by first | (intro h9; exact absurd h9 (by decide)) | (have w9 := tk_0; intros; omega), (hF0.symm.trans (hF.trans (by rw [tk_0]))), rfl⟩ dX12_canBe_31
      · replace hF := hF.trans (if_neg c23)
        refine lv_iconst (v := 1) hx hb dX12_canBe_26 (by decide) ?_
        refine lv_goto (tgt := 31) hx hb dX12_canBe_27 (by decide) ?_
        exact th_iret hC hH hr hlocks narrow_b1 hB.2.1 ⟨_, rfl, by decide, by decide, by first | (intro h9; exact absurd h9 (by decide)) | (have w9 := tk_1; intros; omega), (hF0.symm.trans (hF.trans (by rw [tk_1]))), rfl⟩ dX12_canBe_31

set_option maxHeartbeats 4000000 in
set_option maxRecDepth 100000 in
theorem c_X12_isTerm (l : Launch) (G : th_G) (Γ : th_Ga) (H0 : Heap) (hI : th_I G Γ H0) (hU : dv_U Γ) (p1 : Int32) (p2 : Int32) : Met l yX12_isTerm (.code yX12_isTerm cX12_isTerm 2 (some FieldType.boolean) :: th_tb) ({ frames := 1, cells := 0, slots := 0, locals := 22 } : Room) (th_P [.int p1, .int p2] G H0) (th_Q (fun (v : Option Value) (H1 : Heap) => ∃ r : Int32, v = some (.int r) ∧ 0 ≤ r.toInt ∧ r.toInt ≤ 1 ∧ (r.toInt = 1 → 0 ≤ p1.toInt ∧ p1.toInt ≤ 2) ∧ (f_X12_isTerm (dv G Γ H0) p1.toInt p2.toInt = (r.toInt, ())) ∧ H0 = H1) G) 0 0 (fun q => G.2.2 ≤ q) := by
  refine th_met RX12 (by decide) rfl (Nat.le_of_ble_eq_true rfl) ?_
  intro p e s m below meth c hC hH hr hlocks hnm ls hl
  have hx := hC.1
  have hb := hC.2.1
  have hB : th_B G Γ Γ [] H0 H0 [] := ⟨hI, va_S.rf, th_F_rf⟩
  have hl : lv_has ls 2 [(0, .int p1), (1, .int p2)] := hl
  have lp1 := ti_lo p1; have up1 := ti_hi p1
  have lp2 := ti_lo p2; have up2 := ti_hi p2
  obtain ⟨F, hF0⟩ : ∃ F, F = f_X12_isTerm (dv G Γ H0) (p1.toInt) (p2.toInt) := ⟨_, rfl⟩
  have hF := hF0.trans (f_X12_isTerm.eq_1 (dv G Γ H0) (p1.toInt) (p2.toInt))
  refine lv_iload_n hx hb dX12_isTerm_0 rfl (lv_at hl 0 rfl) ?_
  by_cases k1_0 : p1.toInt = 0
  · replace hF := hF.trans (if_pos k1_0)
    refine lv_tableIn (off := 27) (tgt := 28) hx hb dX12_isTerm_1 (by omega) (by omega) (by rw [show p1.toInt = 0 from k1_0]; decide) (by decide) ?_
    refine lv_iload_n hx hb dX12_isTerm_28 rfl (lv_at hl 1 rfl) ?_
    refine lv_iconst (v := 0) hx hb dX12_isTerm_29 (by decide) ?_
    refine lv_sipush (v := 999) hx hb dX12_isTerm_30 (by decide) ?_
    refine th_call (th_runS (As := [.int p2, .int 0, .int 999]) (rest := []) hC mf_X12_lies km_X12_18 st_X12_lies (c_X12_lies l G Γ H0 hB.1 hU p2 0 999) rfl rfl ⟨Nat.le_of_ble_eq_true rfl, Nat.le_of_ble_eq_true rfl⟩ rfl hl.1 rfl (Nat.le_of_ble_eq_true rfl) dX12_isTerm_33 ⟨Nat.le_refl _, Nat.le_refl _⟩) hB.2.1 (fun v33 H33 locs hp hz hS => ?_)
    obtain ⟨x1, rfl, lx1, ux1, q33_0, q33_1, q33_2, rfl⟩ := hp
    have hB := th_B_s hB hS
    have w33_1 := tk_0
    have w33_2 := tk_999
    have zf33 := q33_2
    rw [tk_0, tk_999] at zf33
    replace hF := hF.trans (dv_bn2 (zf33))
    refine W.eq (g2 := F0 m 36 ls [.int x1]) rfl ?_
    exact th_iret hC hH hr hlocks (th_nb (by omega) (by omega)) hB.2.1 ⟨_, rfl, by omega, by omega, by intros; omega, (hF0.symm.trans hF), rfl⟩ dX12_isTerm_36
  replace hF := hF.trans (if_neg k1_0)
  by_cases k1_1 : p1.toInt = 1
  · replace hF := hF.trans (if_pos k1_1)
    refine lv_tableIn (off := 36) (tgt := 37) hx hb dX12_isTerm_1 (by omega) (by omega) (by rw [show p1.toInt = 1 from k1_1]; decide) (by decide) ?_
    refine lv_iload_n hx hb dX12_isTerm_37 rfl (lv_at hl 1 rfl) ?_
    refine lv_iconst (v := 0) hx hb dX12_isTerm_38 (by decide) ?_
    refine lv_bipush (v := 10) hx hb dX12_isTerm_39 (by decide) ?_
    refine th_call (th_runS (As := [.int p2, .int 0, .int 10]) (rest := []) hC mf_X12_lies km_X12_18 st_X12_lies (c_X12_lies l G Γ H0 hB.1 hU p2 0 10) rfl rfl ⟨Nat.le_of_ble_eq_true rfl, Nat.le_of_ble_eq_true rfl⟩ rfl hl.1 rfl (Nat.le_of_ble_eq_true rfl) dX12_isTerm_41 ⟨Nat.le_refl _, Nat.le_refl _⟩) hB.2.1 (fun v41 H41 locs hp hz hS => ?_)
    obtain ⟨x2, rfl, lx2, ux2, q41_0, q41_1, q41_2, rfl⟩ := hp
    have hB := th_B_s hB hS
    have w41_1 := tk_0
    have w41_2 := tk_10
    have zf41 := q41_2
    rw [tk_0, tk_10] at zf41
    replace hF := hF.trans (dv_bn2 (zf41))
    refine W.eq (g2 := F0 m 44 ls [.int x2]) rfl ?_
    exact th_iret hC hH hr hlocks (th_nb (by omega) (by omega)) hB.2.1 ⟨_, rfl, by omega, by omega, by intros; omega, (hF0.symm.trans hF), rfl⟩ dX12_isTerm_44
  replace hF := hF.trans (if_neg k1_1)
  by_cases k1_2 : p1.toInt = 2
  · replace hF := hF.trans (if_pos k1_2)
    refine lv_tableIn (off := 44) (tgt := 45) hx hb dX12_isTerm_1 (by omega) (by omega) (by rw [show p1.toInt = 2 from k1_2]; decide) (by decide) ?_
    refine lv_iload_n hx hb dX12_isTerm_45 rfl (lv_at hl 1 rfl) ?_
    refine lv_iconst (v := 0) hx hb dX12_isTerm_46 (by decide) ?_
    refine lv_bipush (v := 9) hx hb dX12_isTerm_47 (by decide) ?_
    refine th_call (th_runS (As := [.int p2, .int 0, .int 9]) (rest := []) hC mf_X12_lies km_X12_18 st_X12_lies (c_X12_lies l G Γ H0 hB.1 hU p2 0 9) rfl rfl ⟨Nat.le_of_ble_eq_true rfl, Nat.le_of_ble_eq_true rfl⟩ rfl hl.1 rfl (Nat.le_of_ble_eq_true rfl) dX12_isTerm_49 ⟨Nat.le_refl _, Nat.le_refl _⟩) hB.2.1 (fun v49 H49 locs hp hz hS => ?_)
    obtain ⟨x3, rfl, lx3, ux3, q49_0, q49_1, q49_2, rfl⟩ := hp
    have hB := th_B_s hB hS
    have w49_1 := tk_0
    have w49_2 := tk_9
    have zf49 := q49_2
    rw [tk_0, tk_9] at zf49
    replace hF := hF.trans (dv_bn2 (zf49))
    refine W.eq (g2 := F0 m 52 ls [.int x3]) rfl ?_
    exact th_iret hC hH hr hlocks (th_nb (by omega) (by omega)) hB.2.1 ⟨_, rfl, by omega, by omega, by intros; omega, (hF0.symm.trans hF), rfl⟩ dX12_isTerm_52
  replace hF := hF.trans (if_neg k1_2)
  refine lv_tableOut (tgt := 53) hx hb dX12_isTerm_1 (by omega) (by decide) ?_
  refine lv_iconst (v := 0) hx hb dX12_isTerm_53 (by decide) ?_
  exact th_iret hC hH hr hlocks narrow_b0 hB.2.1 ⟨_, rfl, by decide, by decide, by first | (intro h9; exact absurd h9 (by decide)) | (have w9 := tk_0; intros; omega), (hF0.symm.trans (hF.trans (by rw [tk_0]))), rfl⟩ dX12_isTerm_54

set_option maxHeartbeats 4000000 in
set_option maxRecDepth 100000 in
theorem c_X12_termAt (l : Launch) (G : th_G) (Γ : th_Ga) (H0 : Heap) (hI : th_I G Γ H0) (hU : dv_U Γ) (p1 : Int32) : Met l yX12_termAt (.code yX12_termAt cX12_termAt 1 (some FieldType.int) :: th_tb) ({ frames := 0, cells := 0, slots := 0, locals := 0 } : Room) (th_P [.int p1] G H0) (th_Q (fun (v : Option Value) (H1 : Heap) => ∃ r : Int32, v = some (.int r) ∧ 28 ≤ r.toInt ∧ r.toInt ≤ 66 ∧ (r.toInt = 28 ∨ 65 ≤ r.toInt) ∧ (f_X12_termAt (dv G Γ H0) p1.toInt = (r.toInt, ())) ∧ H0 = H1) G) 0 0 (fun q => G.2.2 ≤ q) := by
  refine th_met RX12 (by decide) rfl (Nat.le_of_ble_eq_true rfl) ?_
  intro p e s m below meth c hC hH hr hlocks hnm ls hl
  have hx := hC.1
  have hb := hC.2.1
  have hB : th_B G Γ Γ [] H0 H0 [] := ⟨hI, va_S.rf, th_F_rf⟩
  have hl : lv_has ls 1 [(0, .int p1)] := hl
  have lp1 := ti_lo p1; have up1 := ti_hi p1
  obtain ⟨F, hF0⟩ : ∃ F, F = f_X12_termAt (dv G Γ H0) (p1.toInt) := ⟨_, rfl⟩
  have hF := hF0.trans (f_X12_termAt.eq_1 (dv G Γ H0) (p1.toInt))
  refine lv_iload_n hx hb dX12_termAt_0 rfl (lv_at hl 0 rfl) ?_
  refine tr_if_ne (tgt := 9) hx hb dX12_termAt_1 (by decide) (Eq.refl _) (fun c1 => ?_) (fun c1 => ?_)
  · replace hF := hF.trans (if_pos c1)
    refine lv_iload_n hx hb dX12_termAt_9 rfl (lv_at hl 0 rfl) ?_
    refine lv_iconst (v := 1) hx hb dX12_termAt_10 (by decide) ?_
    refine tr_icmp_ne (tgt := 19) hx hb dX12_termAt_11 (by decide) (Eq.refl _) tk_1 (fun c11 => ?_) (fun c11 => ?_)
    · replace hF := hF.trans (if_pos c11)
      refine lv_bipush (v := 66) hx hb dX12_termAt_19 (by decide) ?_
      exact th_iret hC hH hr hlocks rfl hB.2.1 ⟨_, rfl, by decide, by decide, by first | (intro h9; exact absurd h9 (by decide)) | (have w9 := tk_66; intros; omega), (hF0.symm.trans (hF.trans (by rw [tk_66]))), rfl⟩ dX12_termAt_21
    · replace hF := hF.trans (if_neg (not_not_intro c11))
      refine lv_bipush (v := 65) hx hb dX12_termAt_14 (by decide) ?_
      refine lv_goto (tgt := 21) hx hb dX12_termAt_16 (by decide) ?_
      exact th_iret hC hH hr hlocks rfl hB.2.1 ⟨_, rfl, by decide, by decide, by first | (intro h9; exact absurd h9 (by decide)) | (have w9 := tk_65; intros; omega), (hF0.symm.trans (hF.trans (by rw [tk_65]))), rfl⟩ dX12_termAt_21
  · replace hF := hF.trans (if_neg (not_not_intro c1))
    refine lv_bipush (v := 28) hx hb dX12_termAt_4 (by decide) ?_
    refine lv_goto (tgt := 21) hx hb dX12_termAt_6 (by decide) ?_
    exact th_iret hC hH hr hlocks rfl hB.2.1 ⟨_, rfl, by decide, by decide, by first | (intro h9; exact absurd h9 (by decide)) | (have w9 := tk_28; intros; omega), (hF0.symm.trans (hF.trans (by rw [tk_28]))), rfl⟩ dX12_termAt_21

set_option maxHeartbeats 4000000 in
set_option maxRecDepth 100000 in
theorem c_X12_isSmall (l : Launch) (G : th_G) (Γ : th_Ga) (H0 : Heap) (hI : th_I G Γ H0) (hU : dv_U Γ) (p1 : Int32) : Met l yX12_isSmall (.code yX12_isSmall cX12_isSmall 1 (some FieldType.boolean) :: th_tb) ({ frames := 0, cells := 0, slots := 0, locals := 0 } : Room) (th_P [.int p1] G H0) (th_Q (fun (v : Option Value) (H1 : Heap) => ∃ r : Int32, v = some (.int r) ∧ 0 ≤ r.toInt ∧ r.toInt ≤ 1 ∧ (f_X12_isSmall (dv G Γ H0) p1.toInt = (r.toInt, ())) ∧ H0 = H1) G) 0 0 (fun q => G.2.2 ≤ q) := by
  refine th_met RX12 (by decide) rfl (Nat.le_of_ble_eq_true rfl) ?_
  intro p e s m below meth c hC hH hr hlocks hnm ls hl
  have hx := hC.1
  have hb := hC.2.1
  have hB : th_B G Γ Γ [] H0 H0 [] := ⟨hI, va_S.rf, th_F_rf⟩
  have hl : lv_has ls 1 [(0, .int p1)] := hl
  have lp1 := ti_lo p1; have up1 := ti_hi p1
  obtain ⟨F, hF0⟩ : ∃ F, F = f_X12_isSmall (dv G Γ H0) (p1.toInt) := ⟨_, rfl⟩
  have hF := hF0.trans (f_X12_isSmall.eq_1 (dv G Γ H0) (p1.toInt))
  refine lv_iload_n hx hb dX12_isSmall_0 rfl (lv_at hl 0 rfl) ?_
  refine lv_bipush (v := 97) hx hb dX12_isSmall_1 (by decide) ?_
  refine tr_icmp_lt (tgt := 16) hx hb dX12_isSmall_3 (by decide) (Eq.refl _) tk_97 (fun c3 => ?_) (fun c3 => ?_)
  · replace hF := hF.trans (if_pos c3)
    refine lv_iconst (v := 0) hx hb dX12_isSmall_16 (by decide) ?_
    exact th_iret hC hH hr hlocks narrow_b0 hB.2.1 ⟨_, rfl, by decide, by decide, (hF0.symm.trans (hF.trans (by rw [tk_0]))), rfl⟩ dX12_isSmall_17
  · replace hF := hF.trans (if_neg (Int.not_lt.mpr c3))
    refine lv_iload_n hx hb dX12_isSmall_6 rfl (lv_at hl 0 rfl) ?_
    refine lv_bipush (v := 122) hx hb dX12_isSmall_7 (by decide) ?_
    refine tr_icmp_gt (tgt := 16) hx hb dX12_isSmall_9 (by decide) (Eq.refl _) tk_122 (fun c9 => ?_) (fun c9 => ?_)
    · replace hF := hF.trans (if_pos c9)
      refine lv_iconst (v := 0) hx hb dX12_isSmall_16 (by decide) ?_
      exact th_iret hC hH hr hlocks narrow_b0 hB.2.1 ⟨_, rfl, by decide, by decide, (hF0.symm.trans (hF.trans (by rw [tk_0]))), rfl⟩ dX12_isSmall_17
    · replace hF := hF.trans (if_neg (Int.not_lt.mpr c9))
      refine lv_iconst (v := 1) hx hb dX12_isSmall_12 (by decide) ?_
      refine lv_goto (tgt := 17) hx hb dX12_isSmall_13 (by decide) ?_
      exact th_iret hC hH hr hlocks narrow_b1 hB.2.1 ⟨_, rfl, by decide, by decide, (hF0.symm.trans (hF.trans (by rw [tk_1]))), rfl⟩ dX12_isSmall_17

set_option maxHeartbeats 4000000 in
set_option maxRecDepth 100000 in
theorem c_X12_isDigit (l : Launch) (G : th_G) (Γ : th_Ga) (H0 : Heap) (hI : th_I G Γ H0) (hU : dv_U Γ) (p1 : Int32) : Met l yX12_isDigit (.code yX12_isDigit cX12_isDigit 1 (some FieldType.boolean) :: th_tb) ({ frames := 0, cells := 0, slots := 0, locals := 0 } : Room) (th_P [.int p1] G H0) (th_Q (fun (v : Option Value) (H1 : Heap) => ∃ r : Int32, v = some (.int r) ∧ 0 ≤ r.toInt ∧ r.toInt ≤ 1 ∧ (f_X12_isDigit (dv G Γ H0) p1.toInt = (r.toInt, ())) ∧ H0 = H1) G) 0 0 (fun q => G.2.2 ≤ q) := by
  refine th_met RX12 (by decide) rfl (Nat.le_of_ble_eq_true rfl) ?_
  intro p e s m below meth c hC hH hr hlocks hnm ls hl
  have hx := hC.1
  have hb := hC.2.1
  have hB : th_B G Γ Γ [] H0 H0 [] := ⟨hI, va_S.rf, th_F_rf⟩
  have hl : lv_has ls 1 [(0, .int p1)] := hl
  have lp1 := ti_lo p1; have up1 := ti_hi p1
  obtain ⟨F, hF0⟩ : ∃ F, F = f_X12_isDigit (dv G Γ H0) (p1.toInt) := ⟨_, rfl⟩
  have hF := hF0.trans (f_X12_isDigit.eq_1 (dv G Γ H0) (p1.toInt))
  refine lv_iload_n hx hb dX12_isDigit_0 rfl (lv_at hl 0 rfl) ?_
  refine lv_bipush (v := 48) hx hb dX12_isDigit_1 (by decide) ?_
  refine tr_icmp_lt (tgt := 16) hx hb dX12_isDigit_3 (by decide) (Eq.refl _) tk_48 (fun c3 => ?_) (fun c3 => ?_)
  · replace hF := hF.trans (if_pos c3)
    refine lv_iconst (v := 0) hx hb dX12_isDigit_16 (by decide) ?_
    exact th_iret hC hH hr hlocks narrow_b0 hB.2.1 ⟨_, rfl, by decide, by decide, (hF0.symm.trans (hF.trans (by rw [tk_0]))), rfl⟩ dX12_isDigit_17
  · replace hF := hF.trans (if_neg (Int.not_lt.mpr c3))
    refine lv_iload_n hx hb dX12_isDigit_6 rfl (lv_at hl 0 rfl) ?_
    refine lv_bipush (v := 57) hx hb dX12_isDigit_7 (by decide) ?_
    refine tr_icmp_gt (tgt := 16) hx hb dX12_isDigit_9 (by decide) (Eq.refl _) tk_57 (fun c9 => ?_) (fun c9 => ?_)
    · replace hF := hF.trans (if_pos c9)
      refine lv_iconst (v := 0) hx hb dX12_isDigit_16 (by decide) ?_
      exact th_iret hC hH hr hlocks narrow_b0 hB.2.1 ⟨_, rfl, by decide, by decide, (hF0.symm.trans (hF.trans (by rw [tk_0]))), rfl⟩ dX12_isDigit_17
    · replace hF := hF.trans (if_neg (Int.not_lt.mpr c9))
      refine lv_iconst (v := 1) hx hb dX12_isDigit_12 (by decide) ?_
      refine lv_goto (tgt := 17) hx hb dX12_isDigit_13 (by decide) ?_
      exact th_iret hC hH hr hlocks narrow_b1 hB.2.1 ⟨_, rfl, by decide, by decide, (hF0.symm.trans (hF.trans (by rw [tk_1]))), rfl⟩ dX12_isDigit_17

set_option maxHeartbeats 4000000 in
set_option maxRecDepth 100000 in
theorem c_X12_sign (l : Launch) (G : th_G) (Γ : th_Ga) (H0 : Heap) (hI : th_I G Γ H0) (hU : dv_U Γ) (p1 : Int32) (f1 : 0 ≤ p1.toInt) (g1 : p1.toInt ≤ 65535) : Met l yX12_sign (.code yX12_sign cX12_sign 1 (some FieldType.int) :: th_tb) ({ frames := 0, cells := 0, slots := 0, locals := 0 } : Room) (th_P [.int p1] G H0) (th_Q (fun (v : Option Value) (H1 : Heap) => ∃ r : Int32, v = some (.int r) ∧ 100 ≤ r.toInt ∧ r.toInt ≤ 65635 ∧ (r.toInt = p1.toInt + 100) ∧ (f_X12_sign (dv G Γ H0) p1.toInt = (r.toInt, ())) ∧ H0 = H1) G) 0 0 (fun q => G.2.2 ≤ q) := by
  refine th_met RX12 (by decide) rfl (Nat.le_of_ble_eq_true rfl) ?_
  intro p e s m below meth c hC hH hr hlocks hnm ls hl
  have hx := hC.1
  have hb := hC.2.1
  have hB : th_B G Γ Γ [] H0 H0 [] := ⟨hI, va_S.rf, th_F_rf⟩
  have hl : lv_has ls 1 [(0, .int p1)] := hl
  have lp1 := ti_lo p1; have up1 := ti_hi p1
  obtain ⟨F, hF0⟩ : ∃ F, F = f_X12_sign (dv G Γ H0) (p1.toInt) := ⟨_, rfl⟩
  have hF := hF0.trans (f_X12_sign.eq_1 (dv G Γ H0) (p1.toInt))
  refine lv_bipush (v := 100) hx hb dX12_sign_0 (by decide) ?_
  refine lv_iload_n hx hb dX12_sign_2 rfl (lv_at hl 0 rfl) ?_
  refine tr_iadd hx hb dX12_sign_3 tk_100 (Eq.refl _) (by omega) (by omega) (fun x1 ex1 => ?_)
  replace hF := hF.trans (dv_bn (ex1.symm))
  exact th_iret hC hH hr hlocks rfl hB.2.1 ⟨_, rfl, by omega, by omega, by intros; omega, (hF0.symm.trans hF), rfl⟩ dX12_sign_4

set_option maxHeartbeats 4000000 in
set_option maxRecDepth 100000 in
theorem c_X12_many (l : Launch) (G : th_G) (Γ : th_Ga) (H0 : Heap) (hI : th_I G Γ H0) (hU : dv_U Γ) (a0 : Nat) (h0 : Γ a0 = (46, 0)) : Met l yX12_many (.code yX12_many cX12_many 1 (some FieldType.int) :: th_tb) ({ frames := 0, cells := 0, slots := 0, locals := 0 } : Room) (th_P [.ref a0] G H0) (th_Q (fun (v : Option Value) (H1 : Heap) => ∃ r : Int32, v = some (.int r) ∧ 0 ≤ r.toInt ∧ r.toInt ≤ 9 ∧ (r.toInt = mo_v G H0 a0 2 69) ∧ (f_X12_many (dv G Γ H0) (a0 : Int) = (r.toInt, ())) ∧ H0 = H1) G) 0 0 (fun q => G.2.2 ≤ q) := by
  refine th_met RX12 (by decide) rfl (Nat.le_of_ble_eq_true rfl) ?_
  intro p e s m below meth c hC hH hr hlocks hnm ls hl
  have hx := hC.1
  have hb := hC.2.1
  have hB : th_B G Γ Γ [] H0 H0 [] := ⟨hI, va_S.rf, th_F_rf⟩
  have hl : lv_has ls 1 [(0, .ref a0)] := hl
  obtain ⟨F, hF0⟩ : ∃ F, F = f_X12_many (dv G Γ H0) ((a0 : Int)) := ⟨_, rfl⟩
  have hF := hF0.trans (f_X12_many.eq_1 (dv G Γ H0) ((a0 : Int)))
  refine lv_aload_n hx hb dX12_many_0 rfl (lv_at hl 0 rfl) ?_
  refine th_getO (j := 2) (r2 := 48) hC cf_X12 hB.1 h0 ro_46 rfl rfl kf_X12_28 dX12_many_1 (fun b1 mb1 hb1 => ?_)
  refine lv_bipush (v := 69) hx hb dX12_many_4 (by decide) ?_
  refine th_ialdF hC hB.1 hb1 ro_48 rfl tk_69 (by omega) (by omega) (ek_many (by omega) (by omega)) dX12_many_6 (fun x2 mx2 lx2 ux2 => ?_)
  replace hF := hF.trans (dv_bn (dv_aldI hB.1 hU hb1 ow_48 (z := 69) mx2 (by omega)))
  have vgx2 : mo_v G H0 a0 2 69 = x2.toInt := by rw [show (69 : Int) = 69 by omega]; exact mo_vat mb1 mx2 (by omega)
  exact th_iret hC hH hr hlocks rfl hB.2.1 ⟨_, rfl, by omega, by omega, by intros; omega, (hF0.symm.trans hF), rfl⟩ dX12_many_7

set_option maxHeartbeats 4000000 in
set_option maxRecDepth 100000 in
theorem c_X12_isCarpet (l : Launch) (G : th_G) (Γ : th_Ga) (H0 : Heap) (hI : th_I G Γ H0) (hU : dv_U Γ) (a0 : Nat) (h0 : Γ a0 = (46, 0)) (p1 : Int32) : Met l yX12_isCarpet (.code yX12_isCarpet cX12_isCarpet 2 (some FieldType.boolean) :: th_tb) ({ frames := 1, cells := 0, slots := 0, locals := 22 } : Room) (th_P [.ref a0, .int p1] G H0) (th_Q (fun (v : Option Value) (H1 : Heap) => ∃ r : Int32, v = some (.int r) ∧ 0 ≤ r.toInt ∧ r.toInt ≤ 1 ∧ (r.toInt = 1 → 0 ≤ p1.toInt ∧ p1.toInt ≤ 8 ∧ p1.toInt < mo_v G H0 a0 2 69) ∧ (f_X12_isCarpet (dv G Γ H0) (a0 : Int) p1.toInt = (r.toInt, ())) ∧ H0 = H1) G) 0 0 (fun q => G.2.2 ≤ q) := by
  refine th_met RX12 (by decide) rfl (Nat.le_of_ble_eq_true rfl) ?_
  intro p e s m below meth c hC hH hr hlocks hnm ls hl
  have hx := hC.1
  have hb := hC.2.1
  have hB : th_B G Γ Γ [] H0 H0 [] := ⟨hI, va_S.rf, th_F_rf⟩
  have hl : lv_has ls 2 [(0, .ref a0), (1, .int p1)] := hl
  have lp1 := ti_lo p1; have up1 := ti_hi p1
  obtain ⟨F, hF0⟩ : ∃ F, F = f_X12_isCarpet (dv G Γ H0) ((a0 : Int)) (p1.toInt) := ⟨_, rfl⟩
  have hF := hF0.trans (f_X12_isCarpet.eq_1 (dv G Γ H0) ((a0 : Int)) (p1.toInt))
  refine lv_iload_n hx hb dX12_isCarpet_0 rfl (lv_at hl 1 rfl) ?_
  refine lv_iconst (v := 0) hx hb dX12_isCarpet_1 (by decide) ?_
  refine lv_aload_n hx hb dX12_isCarpet_2 rfl (lv_at hl 0 rfl) ?_
  refine th_call (th_runV (As := []) (rest := [.int 0, .int p1]) hC mf_X12_many km_X12_115 im_X12_many se_X12_many (c_X12_many l G Γ H0 hB.1 hU a0 h0) rfl rfl ⟨Nat.le_of_ble_eq_true rfl, Nat.le_of_ble_eq_true rfl⟩ hB.1 h0 ro_46 rfl rfl hl.1 rfl (Nat.le_of_ble_eq_true rfl) dX12_isCarpet_3 ⟨Nat.le_refl _, Nat.le_refl _⟩) hB.2.1 (fun v3 H3 locs hp hz hS => ?_)
  obtain ⟨x1, rfl, lx1, ux1, q3_0, q3_1, rfl⟩ := hp
  have hB := th_B_s hB hS
  replace hF := hF.trans (dv_bn2 (q3_1))
  refine W.eq (g2 := F0 m 6 ls [.int x1, .int 0, .int p1]) rfl ?_
  refine lv_iconst (v := 1) hx hb dX12_isCarpet_6 (by decide) ?_
  refine tr_isub hx hb dX12_isCarpet_7 (Eq.refl _) tk_1 (by omega) (by omega) (fun x2 ex2 => ?_)
  replace hF := hF.trans (dv_bn (ex2.symm))
  refine th_call (th_runS (As := [.int p1, .int 0, .int x2]) (rest := []) hC mf_X12_lies km_X12_18 st_X12_lies (c_X12_lies l G Γ H0 hB.1 hU p1 0 x2) rfl rfl ⟨Nat.le_of_ble_eq_true rfl, Nat.le_of_ble_eq_true rfl⟩ rfl hl.1 rfl (Nat.le_of_ble_eq_true rfl) dX12_isCarpet_8 ⟨Nat.le_refl _, Nat.le_refl _⟩) hB.2.1 (fun v8 H8 locs hp hz hS => ?_)
  obtain ⟨x3, rfl, lx3, ux3, q8_0, q8_1, q8_2, rfl⟩ := hp
  have hB := th_B_s hB hS
  have w8_1 := tk_0
  have zf8 := q8_2
  rw [tk_0] at zf8
  replace hF := hF.trans (dv_bn2 (zf8))
  refine W.eq (g2 := F0 m 11 ls [.int x3]) rfl ?_
  exact th_iret hC hH hr hlocks (th_nb (by omega) (by omega)) hB.2.1 ⟨_, rfl, by omega, by omega, by intros; omega, (hF0.symm.trans hF), rfl⟩ dX12_isCarpet_11

set_option maxHeartbeats 4000000 in
set_option maxRecDepth 100000 in
theorem c_X12_isLaid (l : Launch) (G : th_G) (Γ : th_Ga) (H0 : Heap) (hI : th_I G Γ H0) (hU : dv_U Γ) (a0 : Nat) (h0 : Γ a0 = (46, 0)) (p1 : Int32) (f1 : 0 ≤ p1.toInt) (g1 : p1.toInt ≤ 8) : Met l yX12_isLaid (.code yX12_isLaid cX12_isLaid 2 (some FieldType.boolean) :: th_tb) ({ frames := 0, cells := 0, slots := 0, locals := 0 } : Room) (th_P [.ref a0, .int p1] G H0) (th_Q (fun (v : Option Value) (H1 : Heap) => ∃ r : Int32, v = some (.int r) ∧ 0 ≤ r.toInt ∧ r.toInt ≤ 1 ∧ (r.toInt = 1 → mo_v G H0 a0 2 (9 + p1.toInt) ≠ -1) ∧ (r.toInt = 0 → mo_v G H0 a0 2 (9 + p1.toInt) = -1) ∧ (f_X12_isLaid (dv G Γ H0) (a0 : Int) p1.toInt = (r.toInt, ())) ∧ H0 = H1) G) 0 0 (fun q => G.2.2 ≤ q) := by
  refine th_met RX12 (by decide) rfl (Nat.le_of_ble_eq_true rfl) ?_
  intro p e s m below meth c hC hH hr hlocks hnm ls hl
  have hx := hC.1
  have hb := hC.2.1
  have hB : th_B G Γ Γ [] H0 H0 [] := ⟨hI, va_S.rf, th_F_rf⟩
  have hl : lv_has ls 2 [(0, .ref a0), (1, .int p1)] := hl
  have lp1 := ti_lo p1; have up1 := ti_hi p1
  obtain ⟨F, hF0⟩ : ∃ F, F = f_X12_isLaid (dv G Γ H0) ((a0 : Int)) (p1.toInt) := ⟨_, rfl⟩
  have hF := hF0.trans (f_X12_isLaid.eq_1 (dv G Γ H0) ((a0 : Int)) (p1.toInt))
  refine lv_aload_n hx hb dX12_isLaid_0 rfl (lv_at hl 0 rfl) ?_
  refine th_getO (j := 2) (r2 := 48) hC cf_X12 hB.1 h0 ro_46 rfl rfl kf_X12_28 dX12_isLaid_1 (fun b1 mb1 hb1 => ?_)
  refine lv_bipush (v := 9) hx hb dX12_isLaid_4 (by decide) ?_
  refine lv_iload_n hx hb dX12_isLaid_6 rfl (lv_at hl 1 rfl) ?_
  refine tr_iadd hx hb dX12_isLaid_7 tk_9 (Eq.refl _) (by omega) (by omega) (fun x2 ex2 => ?_)
  replace hF := hF.trans (dv_bn (ex2.symm))
  refine th_ialdF hC hB.1 hb1 ro_48 rfl (Eq.refl _) (by omega) (by omega) (ek_a (by omega) (by omega)) dX12_isLaid_8 (fun x3 mx3 lx3 ux3 => ?_)
  replace hF := hF.trans (dv_bn (dv_aldI hB.1 hU hb1 ow_48 (z := x2.toInt) mx3 (by omega)))
  have vgx3 : mo_v G H0 a0 2 (9 + p1.toInt) = x3.toInt := by rw [show ((9 + p1.toInt) : Int) = x2.toInt by omega]; exact mo_vat mb1 mx3 (by omega)
  refine lv_iconst (v := (-1)) hx hb dX12_isLaid_9 (by decide) ?_
  refine tr_icmp_eq (tgt := 17) hx hb dX12_isLaid_10 (by decide) (Eq.refl _) tk_m1 (fun c10 => ?_) (fun c10 => ?_)
  · replace hF := hF.trans (if_pos c10)
    refine lv_iconst (v := 0) hx hb dX12_isLaid_17 (by decide) ?_
    exact th_iret hC hH hr hlocks narrow_b0 hB.2.1 ⟨_, rfl, by decide, by decide, by first | (intro h9; exact absurd h9 (by decide)) | (have w9 := tk_0; intros; omega), by first | (intro h9; exact absurd h9 (by decide)) | (have w9 := tk_0; intros; omega), (hF0.symm.trans (hF.trans (by rw [tk_0]))), rfl⟩ dX12_isLaid_18
  · replace hF := hF.trans (if_neg c10)
    refine lv_iconst (v := 1) hx hb dX12_isLaid_13 (by decide) ?_
    refine lv_goto (tgt := 18) hx hb dX12_isLaid_14 (by decide) ?_
    exact th_iret hC hH hr hlocks narrow_b1 hB.2.1 ⟨_, rfl, by decide, by decide, by first | (intro h9; exact absurd h9 (by decide)) | (have w9 := tk_1; intros; omega), by first | (intro h9; exact absurd h9 (by decide)) | (have w9 := tk_1; intros; omega), (hF0.symm.trans (hF.trans (by rw [tk_1]))), rfl⟩ dX12_isLaid_18

set_option maxHeartbeats 4000000 in
set_option maxRecDepth 100000 in
theorem c_X12_isWhole (l : Launch) (G : th_G) (Γ : th_Ga) (H0 : Heap) (hI : th_I G Γ H0) (hU : dv_U Γ) (a0 : Nat) (h0 : Γ a0 = (46, 0)) (p1 : Int32) (f1 : 0 ≤ p1.toInt) (g1 : p1.toInt ≤ 8) : Met l yX12_isWhole (.code yX12_isWhole cX12_isWhole 2 (some FieldType.boolean) :: th_tb) ({ frames := 0, cells := 0, slots := 0, locals := 0 } : Room) (th_P [.ref a0, .int p1] G H0) (th_Q (fun (v : Option Value) (H1 : Heap) => ∃ r : Int32, v = some (.int r) ∧ 0 ≤ r.toInt ∧ r.toInt ≤ 1 ∧ (f_X12_isWhole (dv G Γ H0) (a0 : Int) p1.toInt = (r.toInt, ())) ∧ H0 = H1) G) 0 0 (fun q => G.2.2 ≤ q) := by
  refine th_met RX12 (by decide) rfl (Nat.le_of_ble_eq_true rfl) ?_
  intro p e s m below meth c hC hH hr hlocks hnm ls hl
  have hx := hC.1
  have hb := hC.2.1
  have hB : th_B G Γ Γ [] H0 H0 [] := ⟨hI, va_S.rf, th_F_rf⟩
  have hl : lv_has ls 2 [(0, .ref a0), (1, .int p1)] := hl
  have lp1 := ti_lo p1; have up1 := ti_hi p1
  obtain ⟨F, hF0⟩ : ∃ F, F = f_X12_isWhole (dv G Γ H0) ((a0 : Int)) (p1.toInt) := ⟨_, rfl⟩
  have hF := hF0.trans (f_X12_isWhole.eq_1 (dv G Γ H0) ((a0 : Int)) (p1.toInt))
  refine lv_aload_n hx hb dX12_isWhole_0 rfl (lv_at hl 0 rfl) ?_
  refine th_getO (j := 2) (r2 := 48) hC cf_X12 hB.1 h0 ro_46 rfl rfl kf_X12_28 dX12_isWhole_1 (fun b1 mb1 hb1 => ?_)
  refine lv_iconst (v := 0) hx hb dX12_isWhole_4 (by decide) ?_
  refine lv_iload_n hx hb dX12_isWhole_5 rfl (lv_at hl 1 rfl) ?_
  refine tr_iadd hx hb dX12_isWhole_6 tk_0 (Eq.refl _) (by omega) (by omega) (fun x2 ex2 => ?_)
  replace hF := hF.trans (dv_bn (ex2.symm))
  refine th_ialdF hC hB.1 hb1 ro_48 rfl (Eq.refl _) (by omega) (by omega) (ek_a (by omega) (by omega)) dX12_isWhole_7 (fun x3 mx3 lx3 ux3 => ?_)
  replace hF := hF.trans (dv_bn (dv_aldI hB.1 hU hb1 ow_48 (z := x2.toInt) mx3 (by omega)))
  refine tr_if_le (tgt := 15) hx hb dX12_isWhole_8 (by decide) (Eq.refl _) (fun c8 => ?_) (fun c8 => ?_)
  · replace hF := hF.trans (if_pos c8)
    refine lv_iconst (v := 0) hx hb dX12_isWhole_15 (by decide) ?_
    exact th_iret hC hH hr hlocks narrow_b0 hB.2.1 ⟨_, rfl, by decide, by decide, (hF0.symm.trans (hF.trans (by rw [tk_0]))), rfl⟩ dX12_isWhole_16
  · replace hF := hF.trans (if_neg (Int.not_le.mpr c8))
    refine lv_iconst (v := 1) hx hb dX12_isWhole_11 (by decide) ?_
    refine lv_goto (tgt := 16) hx hb dX12_isWhole_12 (by decide) ?_
    exact th_iret hC hH hr hlocks narrow_b1 hB.2.1 ⟨_, rfl, by decide, by decide, (hF0.symm.trans (hF.trans (by rw [tk_1]))), rfl⟩ dX12_isWhole_16

set_option maxHeartbeats 4000000 in
set_option maxRecDepth 100000 in
theorem c_X12_laidMany (l : Launch) (G : th_G) (Γ : th_Ga) (H0 : Heap) (hI : th_I G Γ H0) (hU : dv_U Γ) (a0 : Nat) (h0 : Γ a0 = (46, 0)) : Met l yX12_laidMany (.code yX12_laidMany cX12_laidMany 3 (some FieldType.int) :: th_tb) ({ frames := 1, cells := 0, slots := 0, locals := 21 } : Room) (th_P [.ref a0] G H0) (th_Q (fun (v : Option Value) (H1 : Heap) => ∃ r : Int32, v = some (.int r) ∧ 0 ≤ r.toInt ∧ r.toInt ≤ 9 ∧ (r.toInt = 0 → ∀ c : Int, 0 ≤ c → c < mo_v G H0 a0 2 69 → mo_v G H0 a0 2 (9 + c) = -1) ∧ (f_X12_laidMany (dv G Γ H0) (a0 : Int) = (r.toInt, ())) ∧ H0 = H1) G) 0 0 (fun q => G.2.2 ≤ q) := by
  refine th_met RX12 (by decide) rfl (Nat.le_of_ble_eq_true rfl) ?_
  intro p e s m below meth c hC hH hr hlocks hnm ls hl
  have hx := hC.1
  have hb := hC.2.1
  have hB : th_B G Γ Γ [] H0 H0 [] := ⟨hI, va_S.rf, th_F_rf⟩
  have hl : lv_has ls 3 [(0, .ref a0)] := hl
  obtain ⟨F, hF0⟩ : ∃ F, F = f_X12_laidMany (dv G Γ H0) ((a0 : Int)) := ⟨_, rfl⟩
  have hF := hF0.trans (f_X12_laidMany.eq_1 (dv G Γ H0) ((a0 : Int)))
  refine lv_iconst (v := 0) hx hb dX12_laidMany_0 (by decide) ?_
  refine lv_istore_n (lv' := [(1, .int 0), (0, .ref a0)]) hx hb dX12_laidMany_1 rfl hl (by decide) rfl (fun ls hl => ?_)
  refine lv_iconst (v := 0) hx hb dX12_laidMany_2 (by decide) ?_
  refine lv_istore_n (lv' := [(2, .int 0), (1, .int 0), (0, .ref a0)]) hx hb dX12_laidMany_3 rfl hl (by decide) rfl (fun ls hl => ?_)
  have lp4 : ∀ (n4 : Nat) (locs : List Loc) (ls : Array Slot) (j4_1 : Int32) (j4_2 : Int32), th_B G Γ Γ [] H0 H0 locs → lv_has ls 3 [(0, .ref a0), (1, .int j4_1), (2, .int j4_2)] → F = dv_lp f_X12_laidMany_4b (dv G Γ H0, (a0 : Int), j4_1.toInt, j4_2.toInt) → 0 ≤ j4_1.toInt → j4_1.toInt ≤ 9 → 0 ≤ j4_2.toInt → j4_2.toInt ≤ 9 → j4_1.toInt ≤ j4_2.toInt → (j4_1.toInt = 0 → ∀ c : Int, 0 ≤ c → c < j4_2.toInt → mo_v G H0 a0 2 (9 + c) = -1) → (2147483648 : Int) - j4_2.toInt ≤ (n4 : Int) → W p l e ({ frames := 1, cells := 0, slots := 0, locals := 21 } : Room) s m ([.ref a0] : List Value).toArray below meth c H0 locs 0 0 (MQ below (th_Q (fun (v : Option Value) (H1 : Heap) => ∃ r : Int32, v = some (.int r) ∧ 0 ≤ r.toInt ∧ r.toInt ≤ 9 ∧ (r.toInt = 0 → ∀ c : Int, 0 ≤ c → c < mo_v G H0 a0 2 69 → mo_v G H0 a0 2 (9 + c) = -1) ∧ (f_X12_laidMany (dv G Γ H0) (a0 : Int) = (r.toInt, ())) ∧ H0 = H1) G) ([.ref a0] : List Value).toArray s 0 0 (fun q => G.2.2 ≤ q)) (F0 m 4 ls []) := by
    intro n4
    induction n4 with
    | zero => intro locs ls j4_1 j4_2 hB hl hF g4_0 g4_1 g4_2 g4_3 g4_4 g4_5 hm4; exact absurd hm4 (by have := ti_hi j4_2; omega)
    | succ n4 ih4 =>
      intro locs ls j4_1 j4_2 hB hl hF g4_0 g4_1 g4_2 g4_3 g4_4 g4_5 hm4
      have lj4_1 := ti_lo j4_1; have uj4_1 := ti_hi j4_1
      have lj4_2 := ti_lo j4_2; have uj4_2 := ti_hi j4_2
      have hm4 : (2147483648 : Int) - j4_2.toInt ≤ (n4 : Int) + 1 := by omega
      replace hF := hF.trans (dv_lp_eq)
      replace hF := hF.trans (congrArg (dv_k f_X12_laidMany_4b) (f_X12_laidMany_4c.eq_1 (dv G Γ H0) ((a0 : Int)) (j4_1.toInt) (j4_2.toInt)))
      refine lv_iload_n hx hb dX12_laidMany_4 rfl (lv_at hl 2 rfl) ?_
      refine lv_aload_n hx hb dX12_laidMany_5 rfl (lv_at hl 0 rfl) ?_
      refine th_call (th_runV (As := []) (rest := [.int j4_2]) hC mf_X12_many km_X12_115 im_X12_many se_X12_many (c_X12_many l G Γ H0 hB.1 hU a0 h0) rfl rfl ⟨Nat.le_of_ble_eq_true rfl, Nat.le_of_ble_eq_true rfl⟩ hB.1 h0 ro_46 rfl rfl hl.1 rfl (Nat.le_of_ble_eq_true rfl) dX12_laidMany_6 ⟨Nat.le_refl _, Nat.le_refl _⟩) hB.2.1 (fun v6 H6 locs hp hz hS => ?_)
      obtain ⟨x1, rfl, lx1, ux1, q6_0, q6_1, rfl⟩ := hp
      have hB := th_B_s hB hS
      replace hF := hF.trans (congrArg (dv_k f_X12_laidMany_4b) (dv_bn2 (q6_1)))
      refine W.eq (g2 := F0 m 9 ls [.int x1, .int j4_2]) rfl ?_
      refine tr_icmp_ge (tgt := 34) hx hb dX12_laidMany_9 (by decide) (Eq.refl _) (Eq.refl _) (fun c9 => ?_) (fun c9 => ?_)
      · replace hF := hF.trans (congrArg (dv_k f_X12_laidMany_4b) (if_pos c9))
        refine lv_iload_n hx hb dX12_laidMany_34 rfl (lv_at hl 1 rfl) ?_
        replace hF := hF.trans (dv_kr)
        exact th_iret hC hH hr hlocks rfl hB.2.1 ⟨_, rfl, by omega, by omega, fun h9 c9 a9 b9 => g4_5 h9 c9 a9 (by omega), (hF0.symm.trans hF), rfl⟩ dX12_laidMany_35
      · replace hF := hF.trans (congrArg (dv_k f_X12_laidMany_4b) (if_neg (Int.not_le.mpr c9)))
        refine lv_iload_n hx hb dX12_laidMany_12 rfl (lv_at hl 1 rfl) ?_
        refine lv_aload_n hx hb dX12_laidMany_13 rfl (lv_at hl 0 rfl) ?_
        refine lv_iload_n hx hb dX12_laidMany_14 rfl (lv_at hl 2 rfl) ?_
        refine th_call (th_runV (As := [.int j4_2]) (rest := [.int j4_1]) hC mf_X12_isLaid km_X12_137 im_X12_isLaid se_X12_isLaid (c_X12_isLaid l G Γ H0 hB.1 hU a0 h0 j4_2 (by omega) (by omega)) rfl rfl ⟨Nat.le_of_ble_eq_true rfl, Nat.le_of_ble_eq_true rfl⟩ hB.1 h0 ro_46 rfl rfl hl.1 rfl (Nat.le_of_ble_eq_true rfl) dX12_laidMany_15 ⟨Nat.le_refl _, Nat.le_refl _⟩) hB.2.1 (fun v15 H15 locs hp hz hS => ?_)
        obtain ⟨x2, rfl, lx2, ux2, q15_0, q15_1, q15_2, rfl⟩ := hp
        have hB := th_B_s hB hS
        replace hF := hF.trans (congrArg (dv_k f_X12_laidMany_4b) (dv_bn2 (q15_2)))
        refine W.eq (g2 := F0 m 18 ls [.int x2, .int j4_1]) rfl ?_
        refine tr_if_eq (tgt := 25) hx hb dX12_laidMany_18 (by decide) (Eq.refl _) (fun c18 => ?_) (fun c18 => ?_)
        · replace hF := hF.trans (congrArg (dv_k f_X12_laidMany_4b) (if_pos c18))
          refine lv_iconst (v := 0) hx hb dX12_laidMany_25 (by decide) ?_
          refine tr_iadd hx hb dX12_laidMany_26 (Eq.refl _) tk_0 (by omega) (by omega) (fun x3 ex3 => ?_)
          replace hF := hF.trans (congrArg (dv_k f_X12_laidMany_4b) (dv_bn (ex3.symm)))
          refine lv_istore_n (lv' := [(1, .int x3), (0, .ref a0), (2, .int j4_2)]) hx hb dX12_laidMany_27 rfl hl (by decide) rfl (fun ls hl => ?_)
          refine tr_iinc (fun x4 => [(2, .int x4), (1, .int x3), (0, .ref a0)]) hx hb dX12_laidMany_28 hl (k := 2) rfl (Eq.refl _) tk_1 (by omega) (by omega) (by decide) (fun _ => rfl) (fun x4 ls ex4 hl => ?_)
          replace hF := hF.trans (congrArg (dv_k f_X12_laidMany_4b) (dv_bn (ex4.symm)))
          refine lv_goto (tgt := 4) hx hb dX12_laidMany_31 (by decide) ?_
          replace hF := hF.trans (dv_kl)
          exact ih4 locs ls x3 x4 hB (lv_sub hl [2, 1, 0] rfl) hF (by omega) (by omega) (by omega) (by omega) (by omega) (fun h9 c9 a9 b9 => (Int.lt_or_le c9 j4_2.toInt).elim (fun q9 => g4_5 (by omega) c9 a9 q9) (fun q9 => by rw [show c9 = j4_2.toInt by omega]; exact q15_1 (by omega))) (by omega)
        · replace hF := hF.trans (congrArg (dv_k f_X12_laidMany_4b) (if_neg c18))
          refine lv_iconst (v := 1) hx hb dX12_laidMany_21 (by decide) ?_
          refine lv_goto (tgt := 26) hx hb dX12_laidMany_22 (by decide) ?_
          refine tr_iadd hx hb dX12_laidMany_26 (Eq.refl _) tk_1 (by omega) (by omega) (fun x5 ex5 => ?_)
          replace hF := hF.trans (congrArg (dv_k f_X12_laidMany_4b) (dv_bn (ex5.symm)))
          refine lv_istore_n (lv' := [(1, .int x5), (0, .ref a0), (2, .int j4_2)]) hx hb dX12_laidMany_27 rfl hl (by decide) rfl (fun ls hl => ?_)
          refine tr_iinc (fun x6 => [(2, .int x6), (1, .int x5), (0, .ref a0)]) hx hb dX12_laidMany_28 hl (k := 2) rfl (Eq.refl _) tk_1 (by omega) (by omega) (by decide) (fun _ => rfl) (fun x6 ls ex6 hl => ?_)
          replace hF := hF.trans (congrArg (dv_k f_X12_laidMany_4b) (dv_bn (ex6.symm)))
          refine lv_goto (tgt := 4) hx hb dX12_laidMany_31 (by decide) ?_
          replace hF := hF.trans (dv_kl)
          exact ih4 locs ls x5 x6 hB (lv_sub hl [2, 1, 0] rfl) hF (by omega) (by omega) (by omega) (by omega) (by omega) (fun h9 c9 a9 b9 => (Int.lt_or_le c9 j4_2.toInt).elim (fun q9 => g4_5 (by omega) c9 a9 q9) (fun q9 => by rw [show c9 = j4_2.toInt by omega]; exact q15_1 (by omega))) (by omega)
  exact lp4 ((2147483648 : Int) - (0)).toNat [] ls 0 0 hB (lv_sub hl [2, 1, 0] rfl) (by rw [tk_0]; exact hF) (by decide) (by decide) (by decide) (by decide) (by have w0 := tk_0; omega) (fun _ c9 a9 b9 => by have w0 := tk_0; omega) (by have w0 := tk_0; omega)

set_option maxHeartbeats 4000000 in
set_option maxRecDepth 100000 in
theorem c_X12_covers (l : Launch) (G : th_G) (Γ : th_Ga) (H0 : Heap) (hI : th_I G Γ H0) (hU : dv_U Γ) (a0 : Nat) (h0 : Γ a0 = (46, 0)) (p1 : Int32) (f1 : 0 ≤ p1.toInt) (g1 : p1.toInt ≤ 8) (p2 : Int32) (p3 : Int32) : Met l yX12_covers (.code yX12_covers cX12_covers 4 (some FieldType.boolean) :: th_tb) ({ frames := 1, cells := 0, slots := 0, locals := 22 } : Room) (th_P [.ref a0, .int p1, .int p2, .int p3] G H0) (th_Q (fun (v : Option Value) (H1 : Heap) => ∃ r : Int32, v = some (.int r) ∧ 0 ≤ r.toInt ∧ r.toInt ≤ 1 ∧ (f_X12_covers (dv G Γ H0) (a0 : Int) p1.toInt p2.toInt p3.toInt = (r.toInt, ())) ∧ H0 = H1) G) 0 0 (fun q => G.2.2 ≤ q) := by
  refine th_met RX12 (by decide) rfl (Nat.le_of_ble_eq_true rfl) ?_
  intro p e s m below meth c hC hH hr hlocks hnm ls hl
  have hx := hC.1
  have hb := hC.2.1
  have hB : th_B G Γ Γ [] H0 H0 [] := ⟨hI, va_S.rf, th_F_rf⟩
  have hl : lv_has ls 4 [(0, .ref a0), (1, .int p1), (2, .int p2), (3, .int p3)] := hl
  have lp1 := ti_lo p1; have up1 := ti_hi p1
  have lp2 := ti_lo p2; have up2 := ti_hi p2
  have lp3 := ti_lo p3; have up3 := ti_hi p3
  obtain ⟨F, hF0⟩ : ∃ F, F = f_X12_covers (dv G Γ H0) ((a0 : Int)) (p1.toInt) (p2.toInt) (p3.toInt) := ⟨_, rfl⟩
  have hF := hF0.trans (f_X12_covers.eq_1 (dv G Γ H0) ((a0 : Int)) (p1.toInt) (p2.toInt) (p3.toInt))
  refine lv_aload_n hx hb dX12_covers_0 rfl (lv_at hl 0 rfl) ?_
  refine lv_iload_n hx hb dX12_covers_1 rfl (lv_at hl 1 rfl) ?_
  refine th_call (th_runV (As := [.int p1]) (rest := []) hC mf_X12_isLaid km_X12_137 im_X12_isLaid se_X12_isLaid (c_X12_isLaid l G Γ H0 hB.1 hU a0 h0 p1 (by omega) (by omega)) rfl rfl ⟨Nat.le_of_ble_eq_true rfl, Nat.le_of_ble_eq_true rfl⟩ hB.1 h0 ro_46 rfl rfl hl.1 rfl (Nat.le_of_ble_eq_true rfl) dX12_covers_2 ⟨Nat.le_refl _, Nat.le_refl _⟩) hB.2.1 (fun v2 H2 locs hp hz hS => ?_)
  obtain ⟨x1, rfl, lx1, ux1, q2_0, q2_1, q2_2, rfl⟩ := hp
  have hB := th_B_s hB hS
  replace hF := hF.trans (dv_bn2 (q2_2))
  refine W.eq (g2 := F0 m 5 ls [.int x1]) rfl ?_
  refine tr_if_eq (tgt := 86) hx hb dX12_covers_5 (by decide) (Eq.refl _) (fun c5 => ?_) (fun c5 => ?_)
  · replace hF := hF.trans (if_pos c5)
    refine lv_iconst (v := 0) hx hb dX12_covers_86 (by decide) ?_
    exact th_iret hC hH hr hlocks narrow_b0 hB.2.1 ⟨_, rfl, by decide, by decide, (hF0.symm.trans (hF.trans (by rw [tk_0]))), rfl⟩ dX12_covers_87
  · replace hF := hF.trans (if_neg c5)
    refine lv_iload_n hx hb dX12_covers_8 rfl (lv_at hl 2 rfl) ?_
    refine lv_aload_n hx hb dX12_covers_9 rfl (lv_at hl 0 rfl) ?_
    refine th_getO (j := 2) (r2 := 48) hC cf_X12 hB.1 h0 ro_46 rfl rfl kf_X12_28 dX12_covers_10 (fun b2 mb2 hb2 => ?_)
    refine lv_bipush (v := 9) hx hb dX12_covers_13 (by decide) ?_
    refine lv_iload_n hx hb dX12_covers_15 rfl (lv_at hl 1 rfl) ?_
    refine tr_iadd hx hb dX12_covers_16 tk_9 (Eq.refl _) (by omega) (by omega) (fun x3 ex3 => ?_)
    replace hF := hF.trans (dv_bn (ex3.symm))
    refine th_ialdF hC hB.1 hb2 ro_48 rfl (Eq.refl _) (by omega) (by omega) (ek_a (by omega) (by omega)) dX12_covers_17 (fun x4 mx4 lx4 ux4 => ?_)
    replace hF := hF.trans (dv_bn (dv_aldI hB.1 hU hb2 ow_48 (z := x3.toInt) mx4 (by omega)))
    refine lv_aload_n hx hb dX12_covers_18 rfl (lv_at hl 0 rfl) ?_
    refine th_getK hC cf_X12 hB.1 h0 ro_46 rfl (j := 2) (by decide) mb2 kf_X12_28 dX12_covers_19 ?_
    refine lv_bipush (v := 9) hx hb dX12_covers_22 (by decide) ?_
    refine lv_iload_n hx hb dX12_covers_24 rfl (lv_at hl 1 rfl) ?_
    refine tr_iadd hx hb dX12_covers_25 tk_9 (Eq.refl _) (by omega) (by omega) (fun x5 ex5 => ?_)
    replace hF := hF.trans (dv_bn (ex5.symm))
    refine th_ialdF hC hB.1 hb2 ro_48 rfl (Eq.refl _) (by omega) (by omega) (ek_a (by omega) (by omega)) dX12_covers_26 (fun x6 mx6 lx6 ux6 => ?_)
    replace hF := hF.trans (dv_bn (dv_aldI hB.1 hU hb2 ow_48 (z := x5.toInt) mx6 (by omega)))
    refine lv_aload_n hx hb dX12_covers_27 rfl (lv_at hl 0 rfl) ?_
    refine th_getK hC cf_X12 hB.1 h0 ro_46 rfl (j := 2) (by decide) mb2 kf_X12_28 dX12_covers_28 ?_
    refine lv_bipush (v := 29) hx hb dX12_covers_31 (by decide) ?_
    refine lv_iload_n hx hb dX12_covers_33 rfl (lv_at hl 1 rfl) ?_
    refine tr_iadd hx hb dX12_covers_34 tk_29 (Eq.refl _) (by omega) (by omega) (fun x7 ex7 => ?_)
    replace hF := hF.trans (dv_bn (ex7.symm))
    refine th_ialdF hC hB.1 hb2 ro_48 rfl (Eq.refl _) (by omega) (by omega) (ek_side (by omega) (by omega)) dX12_covers_35 (fun x8 mx8 lx8 ux8 => ?_)
    replace hF := hF.trans (dv_bn (dv_aldI hB.1 hU hb2 ow_48 (z := x7.toInt) mx8 (by omega)))
    refine lv_iadd hx hb dX12_covers_36 ?_
    refine lv_topi (fun x9 ex9 => ?_)
    have lx9 := ti_lo x9; have ux9 := ti_hi x9
    replace hF := hF.trans (dv_bn (dv_add_e (Eq.refl _) (Eq.refl _) ex9))
    refine lv_iconst (v := 1) hx hb dX12_covers_37 (by decide) ?_
    refine lv_isub hx hb dX12_covers_38 ?_
    refine lv_topi (fun x10 ex10 => ?_)
    have lx10 := ti_lo x10; have ux10 := ti_hi x10
    replace hF := hF.trans (dv_bn (dv_sub_e (Eq.refl _) tk_1 ex10))
    refine th_call (th_runS (As := [.int p2, .int x4, .int x10]) (rest := []) hC mf_X12_lies km_X12_18 st_X12_lies (c_X12_lies l G Γ H0 hB.1 hU p2 x4 x10) rfl rfl ⟨Nat.le_of_ble_eq_true rfl, Nat.le_of_ble_eq_true rfl⟩ rfl hl.1 rfl (Nat.le_of_ble_eq_true rfl) dX12_covers_39 ⟨Nat.le_refl _, Nat.le_refl _⟩) hB.2.1 (fun v39 H39 locs hp hz hS => ?_)
    obtain ⟨x11, rfl, lx11, ux11, q39_0, q39_1, q39_2, rfl⟩ := hp
    have hB := th_B_s hB hS
    replace hF := hF.trans (dv_bn2 (q39_2))
    refine W.eq (g2 := F0 m 42 ls [.int x11]) rfl ?_
    refine tr_if_eq (tgt := 86) hx hb dX12_covers_42 (by decide) (Eq.refl _) (fun c42 => ?_) (fun c42 => ?_)
    · replace hF := hF.trans (if_pos c42)
      refine lv_iconst (v := 0) hx hb dX12_covers_86 (by decide) ?_
      exact th_iret hC hH hr hlocks narrow_b0 hB.2.1 ⟨_, rfl, by decide, by decide, (hF0.symm.trans (hF.trans (by rw [tk_0]))), rfl⟩ dX12_covers_87
    · replace hF := hF.trans (if_neg c42)
      refine lv_iload_n hx hb dX12_covers_45 rfl (lv_at hl 3 rfl) ?_
      refine lv_aload_n hx hb dX12_covers_46 rfl (lv_at hl 0 rfl) ?_
      refine th_getK hC cf_X12 hB.1 h0 ro_46 rfl (j := 2) (by decide) mb2 kf_X12_28 dX12_covers_47 ?_
      refine lv_bipush (v := 18) hx hb dX12_covers_50 (by decide) ?_
      refine lv_iload_n hx hb dX12_covers_52 rfl (lv_at hl 1 rfl) ?_
      refine tr_iadd hx hb dX12_covers_53 tk_18 (Eq.refl _) (by omega) (by omega) (fun x12 ex12 => ?_)
      replace hF := hF.trans (dv_bn (ex12.symm))
      refine th_ialdF hC hB.1 hb2 ro_48 rfl (Eq.refl _) (by omega) (by omega) (ek_a (by omega) (by omega)) dX12_covers_54 (fun x13 mx13 lx13 ux13 => ?_)
      replace hF := hF.trans (dv_bn (dv_aldI hB.1 hU hb2 ow_48 (z := x12.toInt) mx13 (by omega)))
      refine lv_aload_n hx hb dX12_covers_55 rfl (lv_at hl 0 rfl) ?_
      refine th_getK hC cf_X12 hB.1 h0 ro_46 rfl (j := 2) (by decide) mb2 kf_X12_28 dX12_covers_56 ?_
      refine lv_bipush (v := 18) hx hb dX12_covers_59 (by decide) ?_
      refine lv_iload_n hx hb dX12_covers_61 rfl (lv_at hl 1 rfl) ?_
      refine tr_iadd hx hb dX12_covers_62 tk_18 (Eq.refl _) (by omega) (by omega) (fun x14 ex14 => ?_)
      replace hF := hF.trans (dv_bn (ex14.symm))
      refine th_ialdF hC hB.1 hb2 ro_48 rfl (Eq.refl _) (by omega) (by omega) (ek_a (by omega) (by omega)) dX12_covers_63 (fun x15 mx15 lx15 ux15 => ?_)
      replace hF := hF.trans (dv_bn (dv_aldI hB.1 hU hb2 ow_48 (z := x14.toInt) mx15 (by omega)))
      refine lv_aload_n hx hb dX12_covers_64 rfl (lv_at hl 0 rfl) ?_
      refine th_getK hC cf_X12 hB.1 h0 ro_46 rfl (j := 2) (by decide) mb2 kf_X12_28 dX12_covers_65 ?_
      refine lv_bipush (v := 29) hx hb dX12_covers_68 (by decide) ?_
      refine lv_iload_n hx hb dX12_covers_70 rfl (lv_at hl 1 rfl) ?_
      refine tr_iadd hx hb dX12_covers_71 tk_29 (Eq.refl _) (by omega) (by omega) (fun x16 ex16 => ?_)
      replace hF := hF.trans (dv_bn (ex16.symm))
      refine th_ialdF hC hB.1 hb2 ro_48 rfl (Eq.refl _) (by omega) (by omega) (ek_side (by omega) (by omega)) dX12_covers_72 (fun x17 mx17 lx17 ux17 => ?_)
      replace hF := hF.trans (dv_bn (dv_aldI hB.1 hU hb2 ow_48 (z := x16.toInt) mx17 (by omega)))
      refine lv_iadd hx hb dX12_covers_73 ?_
      refine lv_topi (fun x18 ex18 => ?_)
      have lx18 := ti_lo x18; have ux18 := ti_hi x18
      replace hF := hF.trans (dv_bn (dv_add_e (Eq.refl _) (Eq.refl _) ex18))
      refine lv_iconst (v := 1) hx hb dX12_covers_74 (by decide) ?_
      refine lv_isub hx hb dX12_covers_75 ?_
      refine lv_topi (fun x19 ex19 => ?_)
      have lx19 := ti_lo x19; have ux19 := ti_hi x19
      replace hF := hF.trans (dv_bn (dv_sub_e (Eq.refl _) tk_1 ex19))
      refine th_call (th_runS (As := [.int p3, .int x13, .int x19]) (rest := []) hC mf_X12_lies km_X12_18 st_X12_lies (c_X12_lies l G Γ H0 hB.1 hU p3 x13 x19) rfl rfl ⟨Nat.le_of_ble_eq_true rfl, Nat.le_of_ble_eq_true rfl⟩ rfl hl.1 rfl (Nat.le_of_ble_eq_true rfl) dX12_covers_76 ⟨Nat.le_refl _, Nat.le_refl _⟩) hB.2.1 (fun v76 H76 locs hp hz hS => ?_)
      obtain ⟨x20, rfl, lx20, ux20, q76_0, q76_1, q76_2, rfl⟩ := hp
      have hB := th_B_s hB hS
      replace hF := hF.trans (dv_bn2 (q76_2))
      refine W.eq (g2 := F0 m 79 ls [.int x20]) rfl ?_
      refine tr_if_eq (tgt := 86) hx hb dX12_covers_79 (by decide) (Eq.refl _) (fun c79 => ?_) (fun c79 => ?_)
      · replace hF := hF.trans (if_pos c79)
        refine lv_iconst (v := 0) hx hb dX12_covers_86 (by decide) ?_
        exact th_iret hC hH hr hlocks narrow_b0 hB.2.1 ⟨_, rfl, by decide, by decide, (hF0.symm.trans (hF.trans (by rw [tk_0]))), rfl⟩ dX12_covers_87
      · replace hF := hF.trans (if_neg c79)
        refine lv_iconst (v := 1) hx hb dX12_covers_82 (by decide) ?_
        refine lv_goto (tgt := 87) hx hb dX12_covers_83 (by decide) ?_
        exact th_iret hC hH hr hlocks narrow_b1 hB.2.1 ⟨_, rfl, by decide, by decide, (hF0.symm.trans (hF.trans (by rw [tk_1]))), rfl⟩ dX12_covers_87

set_option maxHeartbeats 4000000 in
set_option maxRecDepth 100000 in
theorem c_X12_at (l : Launch) (G : th_G) (Γ : th_Ga) (H0 : Heap) (hI : th_I G Γ H0) (hU : dv_U Γ) (a0 : Nat) (h0 : Γ a0 = (46, 0)) (p1 : Int32) (p2 : Int32) : Met l yX12_at (.code yX12_at cX12_at 5 (some FieldType.int) :: th_tb) ({ frames := 2, cells := 0, slots := 0, locals := 45 } : Room) (th_P [.ref a0, .int p1, .int p2] G H0) (th_Q (fun (v : Option Value) (H1 : Heap) => ∃ r : Int32, v = some (.int r) ∧ (-1) ≤ r.toInt ∧ r.toInt ≤ 8 ∧ (f_X12_at (dv G Γ H0) (a0 : Int) p1.toInt p2.toInt = (r.toInt, ())) ∧ H0 = H1) G) 0 0 (fun q => G.2.2 ≤ q) := by
  refine th_met RX12 (by decide) rfl (Nat.le_of_ble_eq_true rfl) ?_
  intro p e s m below meth c hC hH hr hlocks hnm ls hl
  have hx := hC.1
  have hb := hC.2.1
  have hB : th_B G Γ Γ [] H0 H0 [] := ⟨hI, va_S.rf, th_F_rf⟩
  have hl : lv_has ls 5 [(0, .ref a0), (1, .int p1), (2, .int p2)] := hl
  have lp1 := ti_lo p1; have up1 := ti_hi p1
  have lp2 := ti_lo p2; have up2 := ti_hi p2
  obtain ⟨F, hF0⟩ : ∃ F, F = f_X12_at (dv G Γ H0) ((a0 : Int)) (p1.toInt) (p2.toInt) := ⟨_, rfl⟩
  have hF := hF0.trans (f_X12_at.eq_1 (dv G Γ H0) ((a0 : Int)) (p1.toInt) (p2.toInt))
  refine lv_iconst (v := (-1)) hx hb dX12_at_0 (by decide) ?_
  refine lv_istore_n (lv' := [(3, .int (-1)), (0, .ref a0), (1, .int p1), (2, .int p2)]) hx hb dX12_at_1 rfl hl (by decide) rfl (fun ls hl => ?_)
  refine lv_iconst (v := 0) hx hb dX12_at_2 (by decide) ?_
  refine lv_istore (lv' := [(4, .int 0), (3, .int (-1)), (0, .ref a0), (1, .int p1), (2, .int p2)]) hx hb dX12_at_3 hl (by decide) rfl (fun ls hl => ?_)
  have lp5 : ∀ (n5 : Nat) (locs : List Loc) (ls : Array Slot) (j5_3 : Int32) (j5_4 : Int32), th_B G Γ Γ [] H0 H0 locs → lv_has ls 5 [(0, .ref a0), (1, .int p1), (2, .int p2), (3, .int j5_3), (4, .int j5_4)] → F = dv_lp f_X12_at_5b (dv G Γ H0, (a0 : Int), p1.toInt, p2.toInt, j5_3.toInt, j5_4.toInt) → (-1) ≤ j5_3.toInt → j5_3.toInt ≤ 8 → 0 ≤ j5_4.toInt → j5_4.toInt ≤ 9 → (2147483648 : Int) - j5_4.toInt ≤ (n5 : Int) → W p l e ({ frames := 2, cells := 0, slots := 0, locals := 45 } : Room) s m ([.ref a0, .int p1, .int p2] : List Value).toArray below meth c H0 locs 0 0 (MQ below (th_Q (fun (v : Option Value) (H1 : Heap) => ∃ r : Int32, v = some (.int r) ∧ (-1) ≤ r.toInt ∧ r.toInt ≤ 8 ∧ (f_X12_at (dv G Γ H0) (a0 : Int) p1.toInt p2.toInt = (r.toInt, ())) ∧ H0 = H1) G) ([.ref a0, .int p1, .int p2] : List Value).toArray s 0 0 (fun q => G.2.2 ≤ q)) (F0 m 5 ls []) := by
    intro n5
    induction n5 with
    | zero => intro locs ls j5_3 j5_4 hB hl hF g5_0 g5_1 g5_2 g5_3 hm5; exact absurd hm5 (by have := ti_hi j5_4; omega)
    | succ n5 ih5 =>
      intro locs ls j5_3 j5_4 hB hl hF g5_0 g5_1 g5_2 g5_3 hm5
      have lj5_3 := ti_lo j5_3; have uj5_3 := ti_hi j5_3
      have lj5_4 := ti_lo j5_4; have uj5_4 := ti_hi j5_4
      have hm5 : (2147483648 : Int) - j5_4.toInt ≤ (n5 : Int) + 1 := by omega
      replace hF := hF.trans (dv_lp_eq)
      replace hF := hF.trans (congrArg (dv_k f_X12_at_5b) (f_X12_at_5c.eq_1 (dv G Γ H0) ((a0 : Int)) (p1.toInt) (p2.toInt) (j5_3.toInt) (j5_4.toInt)))
      refine lv_iload hx hb dX12_at_5 (lv_at hl 4 rfl) ?_
      refine lv_aload_n hx hb dX12_at_7 rfl (lv_at hl 0 rfl) ?_
      refine th_call (th_runV (As := []) (rest := [.int j5_4]) hC mf_X12_many km_X12_115 im_X12_many se_X12_many (c_X12_many l G Γ H0 hB.1 hU a0 h0) rfl rfl ⟨Nat.le_of_ble_eq_true rfl, Nat.le_of_ble_eq_true rfl⟩ hB.1 h0 ro_46 rfl rfl hl.1 rfl (Nat.le_of_ble_eq_true rfl) dX12_at_8 ⟨Nat.le_refl _, Nat.le_refl _⟩) hB.2.1 (fun v8 H8 locs hp hz hS => ?_)
      obtain ⟨x1, rfl, lx1, ux1, q8_0, q8_1, rfl⟩ := hp
      have hB := th_B_s hB hS
      replace hF := hF.trans (congrArg (dv_k f_X12_at_5b) (dv_bn2 (q8_1)))
      refine W.eq (g2 := F0 m 11 ls [.int x1, .int j5_4]) rfl ?_
      refine tr_icmp_ge (tgt := 38) hx hb dX12_at_11 (by decide) (Eq.refl _) (Eq.refl _) (fun c11 => ?_) (fun c11 => ?_)
      · replace hF := hF.trans (congrArg (dv_k f_X12_at_5b) (if_pos c11))
        refine lv_iload_n hx hb dX12_at_38 rfl (lv_at hl 3 rfl) ?_
        replace hF := hF.trans (dv_kr)
        exact th_iret hC hH hr hlocks rfl hB.2.1 ⟨_, rfl, by omega, by omega, (hF0.symm.trans hF), rfl⟩ dX12_at_39
      · replace hF := hF.trans (congrArg (dv_k f_X12_at_5b) (if_neg (Int.not_le.mpr c11)))
        refine lv_aload_n hx hb dX12_at_14 rfl (lv_at hl 0 rfl) ?_
        refine lv_iload hx hb dX12_at_15 (lv_at hl 4 rfl) ?_
        refine lv_iload_n hx hb dX12_at_17 rfl (lv_at hl 1 rfl) ?_
        refine lv_iload_n hx hb dX12_at_18 rfl (lv_at hl 2 rfl) ?_
        refine th_call (th_runV (As := [.int j5_4, .int p1, .int p2]) (rest := []) hC mf_X12_covers km_X12_146 im_X12_covers se_X12_covers (c_X12_covers l G Γ H0 hB.1 hU a0 h0 j5_4 (by omega) (by omega) p1 p2) rfl rfl ⟨Nat.le_of_ble_eq_true rfl, Nat.le_of_ble_eq_true rfl⟩ hB.1 h0 ro_46 rfl rfl hl.1 rfl (Nat.le_of_ble_eq_true rfl) dX12_at_19 ⟨Nat.le_refl _, Nat.le_refl _⟩) hB.2.1 (fun v19 H19 locs hp hz hS => ?_)
        obtain ⟨x2, rfl, lx2, ux2, q19_0, rfl⟩ := hp
        have hB := th_B_s hB hS
        replace hF := hF.trans (congrArg (dv_k f_X12_at_5b) (dv_bn2 (q19_0)))
        refine W.eq (g2 := F0 m 22 ls [.int x2]) rfl ?_
        have jn31 : ∀ (locs : List Loc) (ls : Array Slot) (s31_0 : Int32), th_B G Γ Γ [] H0 H0 locs → lv_has ls 5 [(0, .ref a0), (1, .int p1), (2, .int p2), (4, .int j5_4)] → F = dv_k f_X12_at_5b (f_X12_at_31 (dv G Γ H0) ((a0 : Int)) (p1.toInt) (p2.toInt) (j5_4.toInt) (s31_0.toInt)) → (-1) ≤ s31_0.toInt → s31_0.toInt ≤ 8 → W p l e ({ frames := 2, cells := 0, slots := 0, locals := 45 } : Room) s m ([.ref a0, .int p1, .int p2] : List Value).toArray below meth c H0 locs 0 0 (MQ below (th_Q (fun (v : Option Value) (H1 : Heap) => ∃ r : Int32, v = some (.int r) ∧ (-1) ≤ r.toInt ∧ r.toInt ≤ 8 ∧ (f_X12_at (dv G Γ H0) (a0 : Int) p1.toInt p2.toInt = (r.toInt, ())) ∧ H0 = H1) G) ([.ref a0, .int p1, .int p2] : List Value).toArray s 0 0 (fun q => G.2.2 ≤ q)) (F0 m 31 ls [.int s31_0]) := by
          intro locs ls s31_0 hB hl hF g31_0 g31_1
          have ls31_0 := ti_lo s31_0; have us31_0 := ti_hi s31_0
          replace hF := hF.trans (congrArg (dv_k f_X12_at_5b) (f_X12_at_31.eq_1 (dv G Γ H0) ((a0 : Int)) (p1.toInt) (p2.toInt) (j5_4.toInt) (s31_0.toInt)))
          refine lv_istore_n (lv' := [(3, .int s31_0), (0, .ref a0), (1, .int p1), (2, .int p2), (4, .int j5_4)]) hx hb dX12_at_31 rfl hl (by decide) rfl (fun ls hl => ?_)
          refine tr_iinc (fun x3 => [(4, .int x3), (3, .int s31_0), (0, .ref a0), (1, .int p1), (2, .int p2)]) hx hb dX12_at_32 hl (k := 4) rfl (Eq.refl _) tk_1 (by omega) (by omega) (by decide) (fun _ => rfl) (fun x3 ls ex3 hl => ?_)
          replace hF := hF.trans (congrArg (dv_k f_X12_at_5b) (dv_bn (ex3.symm)))
          refine lv_goto (tgt := 5) hx hb dX12_at_35 (by decide) ?_
          replace hF := hF.trans (dv_kl)
          exact ih5 locs ls s31_0 x3 hB (lv_sub hl [2, 3, 4, 1, 0] rfl) hF (by omega) (by omega) (by omega) (by omega) (by omega)
        refine tr_if_eq (tgt := 30) hx hb dX12_at_22 (by decide) (Eq.refl _) (fun c22 => ?_) (fun c22 => ?_)
        · replace hF := hF.trans (congrArg (dv_k f_X12_at_5b) (if_pos c22))
          refine lv_iload_n hx hb dX12_at_30 rfl (lv_at hl 3 rfl) ?_
          exact jn31 locs ls j5_3 hB (lv_sub hl [0, 1, 2, 4] rfl) hF (by omega) (by omega)
        · replace hF := hF.trans (congrArg (dv_k f_X12_at_5b) (if_neg c22))
          refine lv_iload hx hb dX12_at_25 (lv_at hl 4 rfl) ?_
          refine lv_goto (tgt := 31) hx hb dX12_at_27 (by decide) ?_
          exact jn31 locs ls j5_4 hB (lv_sub hl [0, 1, 2, 4] rfl) hF (by omega) (by omega)
  exact lp5 ((2147483648 : Int) - (0)).toNat [] ls (-1) 0 hB (lv_sub hl [2, 3, 4, 1, 0] rfl) (by rw [tk_m1, tk_0]; exact hF) (by decide) (by decide) (by decide) (by decide) (by have w0 := tk_0; have w1 := tk_m1; omega)

set_option maxHeartbeats 4000000 in
set_option maxRecDepth 100000 in
theorem c_X12_isLaw (l : Launch) (G : th_G) (Γ : th_Ga) (H0 : Heap) (hI : th_I G Γ H0) (hU : dv_U Γ) (a0 : Nat) (h0 : Γ a0 = (46, 0)) (p1 : Int32) : Met l yX12_isLaw (.code yX12_isLaw cX12_isLaw 2 (some FieldType.boolean) :: th_tb) ({ frames := 1, cells := 0, slots := 0, locals := 22 } : Room) (th_P [.ref a0, .int p1] G H0) (th_Q (fun (v : Option Value) (H1 : Heap) => ∃ r : Int32, v = some (.int r) ∧ 0 ≤ r.toInt ∧ r.toInt ≤ 1 ∧ (r.toInt = 1 → -1 ≤ p1.toInt ∧ p1.toInt ≤ 5 ∧ p1.toInt < mo_v G H0 a0 2 71) ∧ (f_X12_isLaw (dv G Γ H0) (a0 : Int) p1.toInt = (r.toInt, ())) ∧ H0 = H1) G) 0 0 (fun q => G.2.2 ≤ q) := by
  refine th_met RX12 (by decide) rfl (Nat.le_of_ble_eq_true rfl) ?_
  intro p e s m below meth c hC hH hr hlocks hnm ls hl
  have hx := hC.1
  have hb := hC.2.1
  have hB : th_B G Γ Γ [] H0 H0 [] := ⟨hI, va_S.rf, th_F_rf⟩
  have hl : lv_has ls 2 [(0, .ref a0), (1, .int p1)] := hl
  have lp1 := ti_lo p1; have up1 := ti_hi p1
  obtain ⟨F, hF0⟩ : ∃ F, F = f_X12_isLaw (dv G Γ H0) ((a0 : Int)) (p1.toInt) := ⟨_, rfl⟩
  have hF := hF0.trans (f_X12_isLaw.eq_1 (dv G Γ H0) ((a0 : Int)) (p1.toInt))
  refine lv_iload_n hx hb dX12_isLaw_0 rfl (lv_at hl 1 rfl) ?_
  refine lv_iconst (v := (-1)) hx hb dX12_isLaw_1 (by decide) ?_
  refine lv_aload_n hx hb dX12_isLaw_2 rfl (lv_at hl 0 rfl) ?_
  refine th_getO (j := 2) (r2 := 48) hC cf_X12 hB.1 h0 ro_46 rfl rfl kf_X12_28 dX12_isLaw_3 (fun b1 mb1 hb1 => ?_)
  refine lv_bipush (v := 71) hx hb dX12_isLaw_6 (by decide) ?_
  refine th_ialdF hC hB.1 hb1 ro_48 rfl tk_71 (by omega) (by omega) (ek_told (by omega) (by omega)) dX12_isLaw_8 (fun x2 mx2 lx2 ux2 => ?_)
  replace hF := hF.trans (dv_bn (dv_aldI hB.1 hU hb1 ow_48 (z := 71) mx2 (by omega)))
  have vgx2 : mo_v G H0 a0 2 71 = x2.toInt := by rw [show (71 : Int) = 71 by omega]; exact mo_vat mb1 mx2 (by omega)
  refine lv_iconst (v := 1) hx hb dX12_isLaw_9 (by decide) ?_
  refine tr_isub hx hb dX12_isLaw_10 (Eq.refl _) tk_1 (by omega) (by omega) (fun x3 ex3 => ?_)
  replace hF := hF.trans (dv_bn (ex3.symm))
  refine th_call (th_runS (As := [.int p1, .int (-1), .int x3]) (rest := []) hC mf_X12_lies km_X12_18 st_X12_lies (c_X12_lies l G Γ H0 hB.1 hU p1 (-1) x3) rfl rfl ⟨Nat.le_of_ble_eq_true rfl, Nat.le_of_ble_eq_true rfl⟩ rfl hl.1 rfl (Nat.le_of_ble_eq_true rfl) dX12_isLaw_11 ⟨Nat.le_refl _, Nat.le_refl _⟩) hB.2.1 (fun v11 H11 locs hp hz hS => ?_)
  obtain ⟨x4, rfl, lx4, ux4, q11_0, q11_1, q11_2, rfl⟩ := hp
  have hB := th_B_s hB hS
  have w11_1 := tk_m1
  have zf11 := q11_2
  rw [tk_m1] at zf11
  replace hF := hF.trans (dv_bn2 (zf11))
  refine W.eq (g2 := F0 m 14 ls [.int x4]) rfl ?_
  exact th_iret hC hH hr hlocks (th_nb (by omega) (by omega)) hB.2.1 ⟨_, rfl, by omega, by omega, by intros; omega, (hF0.symm.trans hF), rfl⟩ dX12_isLaw_14

set_option maxHeartbeats 4000000 in
set_option maxRecDepth 100000 in
theorem c_X12_rolledWhole (l : Launch) (G : th_G) (Γ : th_Ga) (H0 : Heap) (hI : th_I G Γ H0) (hU : dv_U Γ) (a0 : Nat) (h0 : Γ a0 = (46, 0)) : Met l yX12_rolledWhole (.code yX12_rolledWhole cX12_rolledWhole 3 (some FieldType.int) :: th_tb) ({ frames := 1, cells := 0, slots := 0, locals := 21 } : Room) (th_P [.ref a0] G H0) (th_Q (fun (v : Option Value) (H1 : Heap) => ∃ r : Int32, v = some (.int r) ∧ (f_X12_rolledWhole (dv G Γ H0) (a0 : Int) = (r.toInt, ())) ∧ H0 = H1) G) 0 0 (fun q => G.2.2 ≤ q) := by
  refine th_met RX12 (by decide) rfl (Nat.le_of_ble_eq_true rfl) ?_
  intro p e s m below meth c hC hH hr hlocks hnm ls hl
  have hx := hC.1
  have hb := hC.2.1
  have hB : th_B G Γ Γ [] H0 H0 [] := ⟨hI, va_S.rf, th_F_rf⟩
  have hl : lv_has ls 3 [(0, .ref a0)] := hl
  obtain ⟨F, hF0⟩ : ∃ F, F = f_X12_rolledWhole (dv G Γ H0) ((a0 : Int)) := ⟨_, rfl⟩
  have hF := hF0.trans (f_X12_rolledWhole.eq_1 (dv G Γ H0) ((a0 : Int)))
  refine lv_iconst (v := 0) hx hb dX12_rolledWhole_0 (by decide) ?_
  refine lv_istore_n (lv' := [(1, .int 0), (0, .ref a0)]) hx hb dX12_rolledWhole_1 rfl hl (by decide) rfl (fun ls hl => ?_)
  refine lv_iconst (v := 0) hx hb dX12_rolledWhole_2 (by decide) ?_
  refine lv_istore_n (lv' := [(2, .int 0), (1, .int 0), (0, .ref a0)]) hx hb dX12_rolledWhole_3 rfl hl (by decide) rfl (fun ls hl => ?_)
  have lp4 : ∀ (n4 : Nat) (locs : List Loc) (ls : Array Slot) (j4_1 : Int32) (j4_2 : Int32), th_B G Γ Γ [] H0 H0 locs → lv_has ls 3 [(0, .ref a0), (1, .int j4_1), (2, .int j4_2)] → F = dv_lp f_X12_rolledWhole_4b (dv G Γ H0, (a0 : Int), j4_1.toInt, j4_2.toInt) → 0 ≤ j4_2.toInt → j4_2.toInt ≤ 9 → (2147483648 : Int) - j4_2.toInt ≤ (n4 : Int) → W p l e ({ frames := 1, cells := 0, slots := 0, locals := 21 } : Room) s m ([.ref a0] : List Value).toArray below meth c H0 locs 0 0 (MQ below (th_Q (fun (v : Option Value) (H1 : Heap) => ∃ r : Int32, v = some (.int r) ∧ (f_X12_rolledWhole (dv G Γ H0) (a0 : Int) = (r.toInt, ())) ∧ H0 = H1) G) ([.ref a0] : List Value).toArray s 0 0 (fun q => G.2.2 ≤ q)) (F0 m 4 ls []) := by
    intro n4
    induction n4 with
    | zero => intro locs ls j4_1 j4_2 hB hl hF g4_0 g4_1 hm4; exact absurd hm4 (by have := ti_hi j4_2; omega)
    | succ n4 ih4 =>
      intro locs ls j4_1 j4_2 hB hl hF g4_0 g4_1 hm4
      have lj4_1 := ti_lo j4_1; have uj4_1 := ti_hi j4_1
      have lj4_2 := ti_lo j4_2; have uj4_2 := ti_hi j4_2
      have hm4 : (2147483648 : Int) - j4_2.toInt ≤ (n4 : Int) + 1 := by omega
      replace hF := hF.trans (dv_lp_eq)
      replace hF := hF.trans (congrArg (dv_k f_X12_rolledWhole_4b) (f_X12_rolledWhole_4c.eq_1 (dv G Γ H0) ((a0 : Int)) (j4_1.toInt) (j4_2.toInt)))
      refine lv_iload_n hx hb dX12_rolledWhole_4 rfl (lv_at hl 2 rfl) ?_
      refine lv_aload_n hx hb dX12_rolledWhole_5 rfl (lv_at hl 0 rfl) ?_
      refine th_call (th_runV (As := []) (rest := [.int j4_2]) hC mf_X12_many km_X12_115 im_X12_many se_X12_many (c_X12_many l G Γ H0 hB.1 hU a0 h0) rfl rfl ⟨Nat.le_of_ble_eq_true rfl, Nat.le_of_ble_eq_true rfl⟩ hB.1 h0 ro_46 rfl rfl hl.1 rfl (Nat.le_of_ble_eq_true rfl) dX12_rolledWhole_6 ⟨Nat.le_refl _, Nat.le_refl _⟩) hB.2.1 (fun v6 H6 locs hp hz hS => ?_)
      obtain ⟨x1, rfl, lx1, ux1, q6_0, q6_1, rfl⟩ := hp
      have hB := th_B_s hB hS
      replace hF := hF.trans (congrArg (dv_k f_X12_rolledWhole_4b) (dv_bn2 (q6_1)))
      refine W.eq (g2 := F0 m 9 ls [.int x1, .int j4_2]) rfl ?_
      refine tr_icmp_ge (tgt := 44) hx hb dX12_rolledWhole_9 (by decide) (Eq.refl _) (Eq.refl _) (fun c9 => ?_) (fun c9 => ?_)
      · replace hF := hF.trans (congrArg (dv_k f_X12_rolledWhole_4b) (if_pos c9))
        refine lv_iload_n hx hb dX12_rolledWhole_44 rfl (lv_at hl 1 rfl) ?_
        replace hF := hF.trans (dv_kr)
        exact th_iret hC hH hr hlocks rfl hB.2.1 ⟨_, rfl, (hF0.symm.trans hF), rfl⟩ dX12_rolledWhole_45
      · replace hF := hF.trans (congrArg (dv_k f_X12_rolledWhole_4b) (if_neg (Int.not_le.mpr c9)))
        refine lv_iload_n hx hb dX12_rolledWhole_12 rfl (lv_at hl 1 rfl) ?_
        refine lv_aload_n hx hb dX12_rolledWhole_13 rfl (lv_at hl 0 rfl) ?_
        refine lv_iload_n hx hb dX12_rolledWhole_14 rfl (lv_at hl 2 rfl) ?_
        refine th_call (th_runV (As := [.int j4_2]) (rest := [.int j4_1]) hC mf_X12_isLaid km_X12_137 im_X12_isLaid se_X12_isLaid (c_X12_isLaid l G Γ H0 hB.1 hU a0 h0 j4_2 (by omega) (by omega)) rfl rfl ⟨Nat.le_of_ble_eq_true rfl, Nat.le_of_ble_eq_true rfl⟩ hB.1 h0 ro_46 rfl rfl hl.1 rfl (Nat.le_of_ble_eq_true rfl) dX12_rolledWhole_15 ⟨Nat.le_refl _, Nat.le_refl _⟩) hB.2.1 (fun v15 H15 locs hp hz hS => ?_)
        obtain ⟨x2, rfl, lx2, ux2, q15_0, q15_1, q15_2, rfl⟩ := hp
        have hB := th_B_s hB hS
        replace hF := hF.trans (congrArg (dv_k f_X12_rolledWhole_4b) (dv_bn2 (q15_2)))
        refine W.eq (g2 := F0 m 18 ls [.int x2, .int j4_1]) rfl ?_
        have jn36 : ∀ (locs : List Loc) (ls : Array Slot) (s36_1 : Int32), th_B G Γ Γ [] H0 H0 locs → lv_has ls 3 [(0, .ref a0), (2, .int j4_2)] → F = dv_k f_X12_rolledWhole_4b (f_X12_rolledWhole_36 (dv G Γ H0) ((a0 : Int)) (j4_2.toInt) (j4_1.toInt) (s36_1.toInt)) → W p l e ({ frames := 1, cells := 0, slots := 0, locals := 21 } : Room) s m ([.ref a0] : List Value).toArray below meth c H0 locs 0 0 (MQ below (th_Q (fun (v : Option Value) (H1 : Heap) => ∃ r : Int32, v = some (.int r) ∧ (f_X12_rolledWhole (dv G Γ H0) (a0 : Int) = (r.toInt, ())) ∧ H0 = H1) G) ([.ref a0] : List Value).toArray s 0 0 (fun q => G.2.2 ≤ q)) (F0 m 36 ls [.int s36_1, .int j4_1]) := by
          intro locs ls s36_1 hB hl hF
          have ls36_1 := ti_lo s36_1; have us36_1 := ti_hi s36_1
          replace hF := hF.trans (congrArg (dv_k f_X12_rolledWhole_4b) (f_X12_rolledWhole_36.eq_1 (dv G Γ H0) ((a0 : Int)) (j4_2.toInt) (j4_1.toInt) (s36_1.toInt)))
          refine lv_ior hx hb dX12_rolledWhole_36 ?_
          refine lv_topi (fun x3 ex3 => ?_)
          have lx3 := ti_lo x3; have ux3 := ti_hi x3
          replace hF := hF.trans (congrArg (dv_k f_X12_rolledWhole_4b) (dv_bn (dv_or_e (Eq.refl _) (Eq.refl _) ex3)))
          refine lv_istore_n (lv' := [(1, .int x3), (0, .ref a0), (2, .int j4_2)]) hx hb dX12_rolledWhole_37 rfl hl (by decide) rfl (fun ls hl => ?_)
          refine tr_iinc (fun x4 => [(2, .int x4), (1, .int x3), (0, .ref a0)]) hx hb dX12_rolledWhole_38 hl (k := 2) rfl (Eq.refl _) tk_1 (by omega) (by omega) (by decide) (fun _ => rfl) (fun x4 ls ex4 hl => ?_)
          replace hF := hF.trans (congrArg (dv_k f_X12_rolledWhole_4b) (dv_bn (ex4.symm)))
          refine lv_goto (tgt := 4) hx hb dX12_rolledWhole_41 (by decide) ?_
          replace hF := hF.trans (dv_kl)
          exact ih4 locs ls x3 x4 hB (lv_sub hl [2, 1, 0] rfl) hF (by omega) (by omega) (by omega)
        have jn35 : ∀ (locs : List Loc) (ls : Array Slot) , th_B G Γ Γ [] H0 H0 locs → lv_has ls 3 [(0, .ref a0), (2, .int j4_2)] → F = dv_k f_X12_rolledWhole_4b (f_X12_rolledWhole_35 (dv G Γ H0) ((a0 : Int)) (j4_2.toInt) (j4_1.toInt)) → W p l e ({ frames := 1, cells := 0, slots := 0, locals := 21 } : Room) s m ([.ref a0] : List Value).toArray below meth c H0 locs 0 0 (MQ below (th_Q (fun (v : Option Value) (H1 : Heap) => ∃ r : Int32, v = some (.int r) ∧ (f_X12_rolledWhole (dv G Γ H0) (a0 : Int) = (r.toInt, ())) ∧ H0 = H1) G) ([.ref a0] : List Value).toArray s 0 0 (fun q => G.2.2 ≤ q)) (F0 m 35 ls [.int j4_1]) := by
          intro locs ls hB hl hF
          replace hF := hF.trans (congrArg (dv_k f_X12_rolledWhole_4b) (f_X12_rolledWhole_35.eq_1 (dv G Γ H0) ((a0 : Int)) (j4_2.toInt) (j4_1.toInt)))
          refine lv_iconst (v := 0) hx hb dX12_rolledWhole_35 (by decide) ?_
          exact jn36 locs ls 0 hB (lv_sub hl [0, 1] rfl) (by rw [tk_0]; exact hF)
        refine tr_if_ne (tgt := 35) hx hb dX12_rolledWhole_18 (by decide) (Eq.refl _) (fun c18 => ?_) (fun c18 => ?_)
        · replace hF := hF.trans (congrArg (dv_k f_X12_rolledWhole_4b) (if_pos c18))
          exact jn35 locs ls hB (lv_sub hl [0, 2] rfl) hF
        · replace hF := hF.trans (congrArg (dv_k f_X12_rolledWhole_4b) (if_neg (not_not_intro c18)))
          refine lv_aload_n hx hb dX12_rolledWhole_21 rfl (lv_at hl 0 rfl) ?_
          refine lv_iload_n hx hb dX12_rolledWhole_22 rfl (lv_at hl 2 rfl) ?_
          refine th_call (th_runV (As := [.int j4_2]) (rest := [.int j4_1]) hC mf_X12_isWhole km_X12_357 im_X12_isWhole se_X12_isWhole (c_X12_isWhole l G Γ H0 hB.1 hU a0 h0 j4_2 (by omega) (by omega)) rfl rfl ⟨Nat.le_of_ble_eq_true rfl, Nat.le_of_ble_eq_true rfl⟩ hB.1 h0 ro_46 rfl rfl hl.1 rfl (Nat.le_of_ble_eq_true rfl) dX12_rolledWhole_23 ⟨Nat.le_refl _, Nat.le_refl _⟩) hB.2.1 (fun v23 H23 locs hp hz hS => ?_)
          obtain ⟨x5, rfl, lx5, ux5, q23_0, rfl⟩ := hp
          have hB := th_B_s hB hS
          replace hF := hF.trans (congrArg (dv_k f_X12_rolledWhole_4b) (dv_bn2 (q23_0)))
          refine W.eq (g2 := F0 m 26 ls [.int x5, .int j4_1]) rfl ?_
          refine tr_if_eq (tgt := 35) hx hb dX12_rolledWhole_26 (by decide) (Eq.refl _) (fun c26 => ?_) (fun c26 => ?_)
          · replace hF := hF.trans (congrArg (dv_k f_X12_rolledWhole_4b) (if_pos c26))
            exact jn35 locs ls hB (lv_sub hl [0, 2] rfl) hF
          · replace hF := hF.trans (congrArg (dv_k f_X12_rolledWhole_4b) (if_neg c26))
            refine lv_iconst (v := 1) hx hb dX12_rolledWhole_29 (by decide) ?_
            refine lv_iload_n hx hb dX12_rolledWhole_30 rfl (lv_at hl 2 rfl) ?_
            refine lv_ishl hx hb dX12_rolledWhole_31 ?_
            refine lv_topi (fun x6 ex6 => ?_)
            have lx6 := ti_lo x6; have ux6 := ti_hi x6
            replace hF := hF.trans (congrArg (dv_k f_X12_rolledWhole_4b) (dv_bn (dv_shl_e tk_1 (Eq.refl _) ex6)))
            refine lv_goto (tgt := 36) hx hb dX12_rolledWhole_32 (by decide) ?_
            exact jn36 locs ls x6 hB (lv_sub hl [0, 2] rfl) hF
  exact lp4 ((2147483648 : Int) - (0)).toNat [] ls 0 0 hB (lv_sub hl [2, 1, 0] rfl) (by rw [tk_0]; exact hF) (by decide) (by decide) (by have w0 := tk_0; omega)

set_option maxHeartbeats 4000000 in
set_option maxRecDepth 100000 in
theorem c_X12_priceAt (l : Launch) (G : th_G) (Γ : th_Ga) (H0 : Heap) (hI : th_I G Γ H0) (hU : dv_U Γ) (a0 : Nat) (h0 : Γ a0 = (46, 0)) (p1 : Int32) (f1 : 0 ≤ p1.toInt) (g1 : p1.toInt ≤ 8) (p2 : Int32) (f2 : 0 ≤ p2.toInt) (g2 : p2.toInt ≤ 143) : Met l yX12_priceAt (.code yX12_priceAt cX12_priceAt 3 (some FieldType.int) :: th_tb) ({ frames := 0, cells := 0, slots := 0, locals := 0 } : Room) (th_P [.ref a0, .int p1, .int p2] G H0) (th_Q (fun (v : Option Value) (H1 : Heap) => ∃ r : Int32, v = some (.int r) ∧ (f_X12_priceAt (dv G Γ H0) (a0 : Int) p1.toInt p2.toInt = (r.toInt, ())) ∧ H0 = H1) G) 0 0 (fun q => G.2.2 ≤ q) := by
  refine th_met RX12 (by decide) rfl (Nat.le_of_ble_eq_true rfl) ?_
  intro p e s m below meth c hC hH hr hlocks hnm ls hl
  have hx := hC.1
  have hb := hC.2.1
  have hB : th_B G Γ Γ [] H0 H0 [] := ⟨hI, va_S.rf, th_F_rf⟩
  have hl : lv_has ls 3 [(0, .ref a0), (1, .int p1), (2, .int p2)] := hl
  have lp1 := ti_lo p1; have up1 := ti_hi p1
  have lp2 := ti_lo p2; have up2 := ti_hi p2
  obtain ⟨F, hF0⟩ : ∃ F, F = f_X12_priceAt (dv G Γ H0) ((a0 : Int)) (p1.toInt) (p2.toInt) := ⟨_, rfl⟩
  have hF := hF0.trans (f_X12_priceAt.eq_1 (dv G Γ H0) ((a0 : Int)) (p1.toInt) (p2.toInt))
  refine lv_aload_n hx hb dX12_priceAt_0 rfl (lv_at hl 0 rfl) ?_
  refine th_getO (j := 34) (r2 := 63) hC cf_X12 hB.1 h0 ro_46 rfl rfl kf_X12_78 dX12_priceAt_1 (fun b1 mb1 hb1 => ?_)
  refine lv_sipush (v := 144) hx hb dX12_priceAt_4 (by decide) ?_
  refine lv_iload_n hx hb dX12_priceAt_7 rfl (lv_at hl 1 rfl) ?_
  refine tr_imul hx hb dX12_priceAt_8 tk_144 (Eq.refl _) (by omega) (by omega) (fun x2 ex2 => ?_)
  replace hF := hF.trans (dv_bn (ex2.symm))
  refine lv_iload_n hx hb dX12_priceAt_9 rfl (lv_at hl 2 rfl) ?_
  refine tr_iadd hx hb dX12_priceAt_10 (Eq.refl _) (Eq.refl _) (by omega) (by omega) (fun x3 ex3 => ?_)
  replace hF := hF.trans (dv_bn (ex3.symm))
  refine th_ialdF hC hB.1 hb1 ro_63 rfl (Eq.refl _) (by omega) (by omega) rfl dX12_priceAt_11 (fun x4 mx4 lx4 ux4 => ?_)
  replace hF := hF.trans (dv_bn (dv_aldI hB.1 hU hb1 ow_63 (z := x3.toInt) mx4 (by omega)))
  exact th_iret hC hH hr hlocks rfl hB.2.1 ⟨_, rfl, (hF0.symm.trans hF), rfl⟩ dX12_priceAt_12

set_option maxHeartbeats 4000000 in
set_option maxRecDepth 100000 in
theorem c_X12_mostAt (l : Launch) (G : th_G) (Γ : th_Ga) (H0 : Heap) (hI : th_I G Γ H0) (hU : dv_U Γ) (a0 : Nat) (h0 : Γ a0 = (46, 0)) (p1 : Int32) (f1 : 0 ≤ p1.toInt) (g1 : p1.toInt ≤ 143) : Met l yX12_mostAt (.code yX12_mostAt cX12_mostAt 4 (some FieldType.int) :: th_tb) ({ frames := 1, cells := 0, slots := 0, locals := 21 } : Room) (th_P [.ref a0, .int p1] G H0) (th_Q (fun (v : Option Value) (H1 : Heap) => ∃ r : Int32, v = some (.int r) ∧ (f_X12_mostAt (dv G Γ H0) (a0 : Int) p1.toInt = (r.toInt, ())) ∧ H0 = H1) G) 0 0 (fun q => G.2.2 ≤ q) := by
  refine th_met RX12 (by decide) rfl (Nat.le_of_ble_eq_true rfl) ?_
  intro p e s m below meth c hC hH hr hlocks hnm ls hl
  have hx := hC.1
  have hb := hC.2.1
  have hB : th_B G Γ Γ [] H0 H0 [] := ⟨hI, va_S.rf, th_F_rf⟩
  have hl : lv_has ls 4 [(0, .ref a0), (1, .int p1)] := hl
  have lp1 := ti_lo p1; have up1 := ti_hi p1
  obtain ⟨F, hF0⟩ : ∃ F, F = f_X12_mostAt (dv G Γ H0) ((a0 : Int)) (p1.toInt) := ⟨_, rfl⟩
  have hF := hF0.trans (f_X12_mostAt.eq_1 (dv G Γ H0) ((a0 : Int)) (p1.toInt))
  refine lv_iconst (v := 0) hx hb dX12_mostAt_0 (by decide) ?_
  refine lv_istore_n (lv' := [(2, .int 0), (0, .ref a0), (1, .int p1)]) hx hb dX12_mostAt_1 rfl hl (by decide) rfl (fun ls hl => ?_)
  refine lv_iconst (v := 0) hx hb dX12_mostAt_2 (by decide) ?_
  refine lv_istore_n (lv' := [(3, .int 0), (2, .int 0), (0, .ref a0), (1, .int p1)]) hx hb dX12_mostAt_3 rfl hl (by decide) rfl (fun ls hl => ?_)
  have lp4 : ∀ (n4 : Nat) (locs : List Loc) (ls : Array Slot) (j4_2 : Int32) (j4_3 : Int32), th_B G Γ Γ [] H0 H0 locs → lv_has ls 4 [(0, .ref a0), (1, .int p1), (2, .int j4_2), (3, .int j4_3)] → F = dv_lp f_X12_mostAt_4b (dv G Γ H0, (a0 : Int), p1.toInt, j4_2.toInt, j4_3.toInt) → 0 ≤ j4_3.toInt → j4_3.toInt ≤ 9 → (2147483648 : Int) - j4_3.toInt ≤ (n4 : Int) → W p l e ({ frames := 1, cells := 0, slots := 0, locals := 21 } : Room) s m ([.ref a0, .int p1] : List Value).toArray below meth c H0 locs 0 0 (MQ below (th_Q (fun (v : Option Value) (H1 : Heap) => ∃ r : Int32, v = some (.int r) ∧ (f_X12_mostAt (dv G Γ H0) (a0 : Int) p1.toInt = (r.toInt, ())) ∧ H0 = H1) G) ([.ref a0, .int p1] : List Value).toArray s 0 0 (fun q => G.2.2 ≤ q)) (F0 m 4 ls []) := by
    intro n4
    induction n4 with
    | zero => intro locs ls j4_2 j4_3 hB hl hF g4_0 g4_1 hm4; exact absurd hm4 (by have := ti_hi j4_3; omega)
    | succ n4 ih4 =>
      intro locs ls j4_2 j4_3 hB hl hF g4_0 g4_1 hm4
      have lj4_2 := ti_lo j4_2; have uj4_2 := ti_hi j4_2
      have lj4_3 := ti_lo j4_3; have uj4_3 := ti_hi j4_3
      have hm4 : (2147483648 : Int) - j4_3.toInt ≤ (n4 : Int) + 1 := by omega
      replace hF := hF.trans (dv_lp_eq)
      replace hF := hF.trans (congrArg (dv_k f_X12_mostAt_4b) (f_X12_mostAt_4c.eq_1 (dv G Γ H0) ((a0 : Int)) (p1.toInt) (j4_2.toInt) (j4_3.toInt)))
      refine lv_iload_n hx hb dX12_mostAt_4 rfl (lv_at hl 3 rfl) ?_
      refine lv_aload_n hx hb dX12_mostAt_5 rfl (lv_at hl 0 rfl) ?_
      refine th_call (th_runV (As := []) (rest := [.int j4_3]) hC mf_X12_many km_X12_115 im_X12_many se_X12_many (c_X12_many l G Γ H0 hB.1 hU a0 h0) rfl rfl ⟨Nat.le_of_ble_eq_true rfl, Nat.le_of_ble_eq_true rfl⟩ hB.1 h0 ro_46 rfl rfl hl.1 rfl (Nat.le_of_ble_eq_true rfl) dX12_mostAt_6 ⟨Nat.le_refl _, Nat.le_refl _⟩) hB.2.1 (fun v6 H6 locs hp hz hS => ?_)
      obtain ⟨x1, rfl, lx1, ux1, q6_0, q6_1, rfl⟩ := hp
      have hB := th_B_s hB hS
      replace hF := hF.trans (congrArg (dv_k f_X12_mostAt_4b) (dv_bn2 (q6_1)))
      refine W.eq (g2 := F0 m 9 ls [.int x1, .int j4_3]) rfl ?_
      refine tr_icmp_ge (tgt := 34) hx hb dX12_mostAt_9 (by decide) (Eq.refl _) (Eq.refl _) (fun c9 => ?_) (fun c9 => ?_)
      · replace hF := hF.trans (congrArg (dv_k f_X12_mostAt_4b) (if_pos c9))
        refine lv_iload_n hx hb dX12_mostAt_34 rfl (lv_at hl 2 rfl) ?_
        replace hF := hF.trans (dv_kr)
        exact th_iret hC hH hr hlocks rfl hB.2.1 ⟨_, rfl, (hF0.symm.trans hF), rfl⟩ dX12_mostAt_35
      · replace hF := hF.trans (congrArg (dv_k f_X12_mostAt_4b) (if_neg (Int.not_le.mpr c9)))
        refine lv_iload_n hx hb dX12_mostAt_12 rfl (lv_at hl 2 rfl) ?_
        refine lv_aload_n hx hb dX12_mostAt_13 rfl (lv_at hl 0 rfl) ?_
        refine th_getO (j := 38) (r2 := 67) hC cf_X12 hB.1 h0 ro_46 rfl rfl kf_X12_90 dX12_mostAt_14 (fun b2 mb2 hb2 => ?_)
        refine lv_bipush (v := 9) hx hb dX12_mostAt_17 (by decide) ?_
        refine lv_iload_n hx hb dX12_mostAt_19 rfl (lv_at hl 1 rfl) ?_
        refine tr_imul hx hb dX12_mostAt_20 tk_9 (Eq.refl _) (by omega) (by omega) (fun x3 ex3 => ?_)
        replace hF := hF.trans (congrArg (dv_k f_X12_mostAt_4b) (dv_bn (ex3.symm)))
        refine lv_iload_n hx hb dX12_mostAt_21 rfl (lv_at hl 3 rfl) ?_
        refine tr_iadd hx hb dX12_mostAt_22 (Eq.refl _) (Eq.refl _) (by omega) (by omega) (fun x4 ex4 => ?_)
        replace hF := hF.trans (congrArg (dv_k f_X12_mostAt_4b) (dv_bn (ex4.symm)))
        refine th_ialdF hC hB.1 hb2 ro_67 rfl (Eq.refl _) (by omega) (by omega) rfl dX12_mostAt_23 (fun x5 mx5 lx5 ux5 => ?_)
        replace hF := hF.trans (congrArg (dv_k f_X12_mostAt_4b) (dv_bn (dv_aldI hB.1 hU hb2 ow_67 (z := x4.toInt) mx5 (by omega))))
        refine th_call (th_runS (As := [.int j4_2, .int x5]) (rest := []) hC mf_X12_greater km_X12_367 st_X12_greater (c_X12_greater l G Γ H0 hB.1 hU j4_2 x5) rfl rfl ⟨Nat.le_of_ble_eq_true rfl, Nat.le_of_ble_eq_true rfl⟩ rfl hl.1 rfl (Nat.le_of_ble_eq_true rfl) dX12_mostAt_24 ⟨Nat.le_refl _, Nat.le_refl _⟩) hB.2.1 (fun v24 H24 locs hp hz hS => ?_)
        obtain ⟨x6, rfl, q24_0, q24_1, rfl⟩ := hp
        have hB := th_B_s hB hS
        replace hF := hF.trans (congrArg (dv_k f_X12_mostAt_4b) (dv_bn2 (q24_1)))
        refine W.eq (g2 := F0 m 27 ls [.int x6]) rfl ?_
        refine lv_istore_n (lv' := [(2, .int x6), (0, .ref a0), (1, .int p1), (3, .int j4_3)]) hx hb dX12_mostAt_27 rfl hl (by decide) rfl (fun ls hl => ?_)
        refine tr_iinc (fun x7 => [(3, .int x7), (2, .int x6), (0, .ref a0), (1, .int p1)]) hx hb dX12_mostAt_28 hl (k := 3) rfl (Eq.refl _) tk_1 (by omega) (by omega) (by decide) (fun _ => rfl) (fun x7 ls ex7 hl => ?_)
        replace hF := hF.trans (congrArg (dv_k f_X12_mostAt_4b) (dv_bn (ex7.symm)))
        refine lv_goto (tgt := 4) hx hb dX12_mostAt_31 (by decide) ?_
        replace hF := hF.trans (dv_kl)
        exact ih4 locs ls x6 x7 hB (lv_sub hl [2, 3, 1, 0] rfl) hF (by omega) (by omega) (by omega)
  exact lp4 ((2147483648 : Int) - (0)).toNat [] ls 0 0 hB (lv_sub hl [2, 3, 1, 0] rfl) (by rw [tk_0]; exact hF) (by decide) (by decide) (by have w0 := tk_0; omega)

set_option maxHeartbeats 4000000 in
set_option maxRecDepth 100000 in
theorem c_X12_ragMany (l : Launch) (G : th_G) (Γ : th_Ga) (H0 : Heap) (hI : th_I G Γ H0) (hU : dv_U Γ) (a0 : Nat) (h0 : Γ a0 = (46, 0)) : Met l yX12_ragMany (.code yX12_ragMany cX12_ragMany 3 (some FieldType.int) :: th_tb) ({ frames := 1, cells := 0, slots := 0, locals := 21 } : Room) (th_P [.ref a0] G H0) (th_Q (fun (v : Option Value) (H1 : Heap) => ∃ r : Int32, v = some (.int r) ∧ (f_X12_ragMany (dv G Γ H0) (a0 : Int) = (r.toInt, ())) ∧ H0 = H1) G) 0 0 (fun q => G.2.2 ≤ q) := by
  refine th_met RX12 (by decide) rfl (Nat.le_of_ble_eq_true rfl) ?_
  intro p e s m below meth c hC hH hr hlocks hnm ls hl
  have hx := hC.1
  have hb := hC.2.1
  have hB : th_B G Γ Γ [] H0 H0 [] := ⟨hI, va_S.rf, th_F_rf⟩
  have hl : lv_has ls 3 [(0, .ref a0)] := hl
  obtain ⟨F, hF0⟩ : ∃ F, F = f_X12_ragMany (dv G Γ H0) ((a0 : Int)) := ⟨_, rfl⟩
  have hF := hF0.trans (f_X12_ragMany.eq_1 (dv G Γ H0) ((a0 : Int)))
  refine lv_iconst (v := 0) hx hb dX12_ragMany_0 (by decide) ?_
  refine lv_istore_n (lv' := [(1, .int 0), (0, .ref a0)]) hx hb dX12_ragMany_1 rfl hl (by decide) rfl (fun ls hl => ?_)
  refine lv_iconst (v := 0) hx hb dX12_ragMany_2 (by decide) ?_
  refine lv_istore_n (lv' := [(2, .int 0), (1, .int 0), (0, .ref a0)]) hx hb dX12_ragMany_3 rfl hl (by decide) rfl (fun ls hl => ?_)
  have lp4 : ∀ (n4 : Nat) (locs : List Loc) (ls : Array Slot) (j4_1 : Int32) (j4_2 : Int32), th_B G Γ Γ [] H0 H0 locs → lv_has ls 3 [(0, .ref a0), (1, .int j4_1), (2, .int j4_2)] → F = dv_lp f_X12_ragMany_4b (dv G Γ H0, (a0 : Int), j4_1.toInt, j4_2.toInt) → 0 ≤ j4_2.toInt → j4_2.toInt ≤ 9 → (2147483648 : Int) - j4_2.toInt ≤ (n4 : Int) → W p l e ({ frames := 1, cells := 0, slots := 0, locals := 21 } : Room) s m ([.ref a0] : List Value).toArray below meth c H0 locs 0 0 (MQ below (th_Q (fun (v : Option Value) (H1 : Heap) => ∃ r : Int32, v = some (.int r) ∧ (f_X12_ragMany (dv G Γ H0) (a0 : Int) = (r.toInt, ())) ∧ H0 = H1) G) ([.ref a0] : List Value).toArray s 0 0 (fun q => G.2.2 ≤ q)) (F0 m 4 ls []) := by
    intro n4
    induction n4 with
    | zero => intro locs ls j4_1 j4_2 hB hl hF g4_0 g4_1 hm4; exact absurd hm4 (by have := ti_hi j4_2; omega)
    | succ n4 ih4 =>
      intro locs ls j4_1 j4_2 hB hl hF g4_0 g4_1 hm4
      have lj4_1 := ti_lo j4_1; have uj4_1 := ti_hi j4_1
      have lj4_2 := ti_lo j4_2; have uj4_2 := ti_hi j4_2
      have hm4 : (2147483648 : Int) - j4_2.toInt ≤ (n4 : Int) + 1 := by omega
      replace hF := hF.trans (dv_lp_eq)
      replace hF := hF.trans (congrArg (dv_k f_X12_ragMany_4b) (f_X12_ragMany_4c.eq_1 (dv G Γ H0) ((a0 : Int)) (j4_1.toInt) (j4_2.toInt)))
      refine lv_iload_n hx hb dX12_ragMany_4 rfl (lv_at hl 2 rfl) ?_
      refine lv_aload_n hx hb dX12_ragMany_5 rfl (lv_at hl 0 rfl) ?_
      refine th_call (th_runV (As := []) (rest := [.int j4_2]) hC mf_X12_many km_X12_115 im_X12_many se_X12_many (c_X12_many l G Γ H0 hB.1 hU a0 h0) rfl rfl ⟨Nat.le_of_ble_eq_true rfl, Nat.le_of_ble_eq_true rfl⟩ hB.1 h0 ro_46 rfl rfl hl.1 rfl (Nat.le_of_ble_eq_true rfl) dX12_ragMany_6 ⟨Nat.le_refl _, Nat.le_refl _⟩) hB.2.1 (fun v6 H6 locs hp hz hS => ?_)
      obtain ⟨x1, rfl, lx1, ux1, q6_0, q6_1, rfl⟩ := hp
      have hB := th_B_s hB hS
      replace hF := hF.trans (congrArg (dv_k f_X12_ragMany_4b) (dv_bn2 (q6_1)))
      refine W.eq (g2 := F0 m 9 ls [.int x1, .int j4_2]) rfl ?_
      refine tr_icmp_ge (tgt := 34) hx hb dX12_ragMany_9 (by decide) (Eq.refl _) (Eq.refl _) (fun c9 => ?_) (fun c9 => ?_)
      · replace hF := hF.trans (congrArg (dv_k f_X12_ragMany_4b) (if_pos c9))
        refine lv_iload_n hx hb dX12_ragMany_34 rfl (lv_at hl 1 rfl) ?_
        replace hF := hF.trans (dv_kr)
        exact th_iret hC hH hr hlocks rfl hB.2.1 ⟨_, rfl, (hF0.symm.trans hF), rfl⟩ dX12_ragMany_35
      · replace hF := hF.trans (congrArg (dv_k f_X12_ragMany_4b) (if_neg (Int.not_le.mpr c9)))
        refine lv_iload_n hx hb dX12_ragMany_12 rfl (lv_at hl 1 rfl) ?_
        refine lv_aload_n hx hb dX12_ragMany_13 rfl (lv_at hl 0 rfl) ?_
        refine lv_iload_n hx hb dX12_ragMany_14 rfl (lv_at hl 2 rfl) ?_
        refine th_call (th_runV (As := [.int j4_2]) (rest := [.int j4_1]) hC mf_X12_isWhole km_X12_357 im_X12_isWhole se_X12_isWhole (c_X12_isWhole l G Γ H0 hB.1 hU a0 h0 j4_2 (by omega) (by omega)) rfl rfl ⟨Nat.le_of_ble_eq_true rfl, Nat.le_of_ble_eq_true rfl⟩ hB.1 h0 ro_46 rfl rfl hl.1 rfl (Nat.le_of_ble_eq_true rfl) dX12_ragMany_15 ⟨Nat.le_refl _, Nat.le_refl _⟩) hB.2.1 (fun v15 H15 locs hp hz hS => ?_)
        obtain ⟨x2, rfl, lx2, ux2, q15_0, rfl⟩ := hp
        have hB := th_B_s hB hS
        replace hF := hF.trans (congrArg (dv_k f_X12_ragMany_4b) (dv_bn2 (q15_0)))
        refine W.eq (g2 := F0 m 18 ls [.int x2, .int j4_1]) rfl ?_
        have jn26 : ∀ (locs : List Loc) (ls : Array Slot) (s26_1 : Int32), th_B G Γ Γ [] H0 H0 locs → lv_has ls 3 [(0, .ref a0), (2, .int j4_2)] → F = dv_k f_X12_ragMany_4b (f_X12_ragMany_26 (dv G Γ H0) ((a0 : Int)) (j4_2.toInt) (j4_1.toInt) (s26_1.toInt)) → 0 ≤ s26_1.toInt → s26_1.toInt ≤ 1 → W p l e ({ frames := 1, cells := 0, slots := 0, locals := 21 } : Room) s m ([.ref a0] : List Value).toArray below meth c H0 locs 0 0 (MQ below (th_Q (fun (v : Option Value) (H1 : Heap) => ∃ r : Int32, v = some (.int r) ∧ (f_X12_ragMany (dv G Γ H0) (a0 : Int) = (r.toInt, ())) ∧ H0 = H1) G) ([.ref a0] : List Value).toArray s 0 0 (fun q => G.2.2 ≤ q)) (F0 m 26 ls [.int s26_1, .int j4_1]) := by
          intro locs ls s26_1 hB hl hF g26_0 g26_1
          have ls26_1 := ti_lo s26_1; have us26_1 := ti_hi s26_1
          replace hF := hF.trans (congrArg (dv_k f_X12_ragMany_4b) (f_X12_ragMany_26.eq_1 (dv G Γ H0) ((a0 : Int)) (j4_2.toInt) (j4_1.toInt) (s26_1.toInt)))
          refine lv_iadd hx hb dX12_ragMany_26 ?_
          refine lv_topi (fun x3 ex3 => ?_)
          have lx3 := ti_lo x3; have ux3 := ti_hi x3
          replace hF := hF.trans (congrArg (dv_k f_X12_ragMany_4b) (dv_bn (dv_add_e (Eq.refl _) (Eq.refl _) ex3)))
          refine lv_istore_n (lv' := [(1, .int x3), (0, .ref a0), (2, .int j4_2)]) hx hb dX12_ragMany_27 rfl hl (by decide) rfl (fun ls hl => ?_)
          refine tr_iinc (fun x4 => [(2, .int x4), (1, .int x3), (0, .ref a0)]) hx hb dX12_ragMany_28 hl (k := 2) rfl (Eq.refl _) tk_1 (by omega) (by omega) (by decide) (fun _ => rfl) (fun x4 ls ex4 hl => ?_)
          replace hF := hF.trans (congrArg (dv_k f_X12_ragMany_4b) (dv_bn (ex4.symm)))
          refine lv_goto (tgt := 4) hx hb dX12_ragMany_31 (by decide) ?_
          replace hF := hF.trans (dv_kl)
          exact ih4 locs ls x3 x4 hB (lv_sub hl [2, 1, 0] rfl) hF (by omega) (by omega) (by omega)
        refine tr_if_eq (tgt := 25) hx hb dX12_ragMany_18 (by decide) (Eq.refl _) (fun c18 => ?_) (fun c18 => ?_)
        · replace hF := hF.trans (congrArg (dv_k f_X12_ragMany_4b) (if_pos c18))
          refine lv_iconst (v := 1) hx hb dX12_ragMany_25 (by decide) ?_
          exact jn26 locs ls 1 hB (lv_sub hl [0, 2] rfl) (by rw [tk_1]; exact hF) (by decide) (by decide)
        · replace hF := hF.trans (congrArg (dv_k f_X12_ragMany_4b) (if_neg c18))
          refine lv_iconst (v := 0) hx hb dX12_ragMany_21 (by decide) ?_
          refine lv_goto (tgt := 26) hx hb dX12_ragMany_22 (by decide) ?_
          exact jn26 locs ls 0 hB (lv_sub hl [0, 2] rfl) (by rw [tk_0]; exact hF) (by decide) (by decide)
  exact lp4 ((2147483648 : Int) - (0)).toNat [] ls 0 0 hB (lv_sub hl [2, 1, 0] rfl) (by rw [tk_0]; exact hF) (by decide) (by decide) (by have w0 := tk_0; omega)

set_option maxHeartbeats 4000000 in
set_option maxRecDepth 100000 in
theorem c_X12_fluff (l : Launch) (G : th_G) (Γ : th_Ga) (H0 : Heap) (hI : th_I G Γ H0) (hU : dv_U Γ) (a0 : Nat) (h0 : Γ a0 = (46, 0)) : Met l yX12_fluff (.code yX12_fluff cX12_fluff 1 (some FieldType.int) :: th_tb) ({ frames := 0, cells := 0, slots := 0, locals := 0 } : Room) (th_P [.ref a0] G H0) (th_Q (fun (v : Option Value) (H1 : Heap) => ∃ r : Int32, v = some (.int r) ∧ (f_X12_fluff (dv G Γ H0) (a0 : Int) = (r.toInt, ())) ∧ H0 = H1) G) 0 0 (fun q => G.2.2 ≤ q) := by
  refine th_met RX12 (by decide) rfl (Nat.le_of_ble_eq_true rfl) ?_
  intro p e s m below meth c hC hH hr hlocks hnm ls hl
  have hx := hC.1
  have hb := hC.2.1
  have hB : th_B G Γ Γ [] H0 H0 [] := ⟨hI, va_S.rf, th_F_rf⟩
  have hl : lv_has ls 1 [(0, .ref a0)] := hl
  obtain ⟨F, hF0⟩ : ∃ F, F = f_X12_fluff (dv G Γ H0) ((a0 : Int)) := ⟨_, rfl⟩
  have hF := hF0.trans (f_X12_fluff.eq_1 (dv G Γ H0) ((a0 : Int)))
  refine lv_aload_n hx hb dX12_fluff_0 rfl (lv_at hl 0 rfl) ?_
  refine th_getI (j := 6) hC cf_X12 hB.1 h0 ro_46 rfl rfl kf_X12_172 dX12_fluff_1 (fun x1 mx1 lx1 ux1 => ?_)
  replace hF := hF.trans (dv_bn (dv_getI h0 ro_46 (j := 6) rfl mx1 (by decide)))
  exact th_iret hC hH hr hlocks rfl hB.2.1 ⟨_, rfl, (hF0.symm.trans hF), rfl⟩ dX12_fluff_4

set_option maxHeartbeats 4000000 in
set_option maxRecDepth 100000 in
theorem c_X12_fault (l : Launch) (G : th_G) (Γ : th_Ga) (H0 : Heap) (hI : th_I G Γ H0) (hU : dv_U Γ) (a0 : Nat) (h0 : Γ a0 = (46, 0)) : Met l yX12_fault (.code yX12_fault cX12_fault 1 (some FieldType.int) :: th_tb) ({ frames := 0, cells := 0, slots := 0, locals := 0 } : Room) (th_P [.ref a0] G H0) (th_Q (fun (v : Option Value) (H1 : Heap) => ∃ r : Int32, v = some (.int r) ∧ (f_X12_fault (dv G Γ H0) (a0 : Int) = (r.toInt, ())) ∧ H0 = H1) G) 0 0 (fun q => G.2.2 ≤ q) := by
  refine th_met RX12 (by decide) rfl (Nat.le_of_ble_eq_true rfl) ?_
  intro p e s m below meth c hC hH hr hlocks hnm ls hl
  have hx := hC.1
  have hb := hC.2.1
  have hB : th_B G Γ Γ [] H0 H0 [] := ⟨hI, va_S.rf, th_F_rf⟩
  have hl : lv_has ls 1 [(0, .ref a0)] := hl
  obtain ⟨F, hF0⟩ : ∃ F, F = f_X12_fault (dv G Γ H0) ((a0 : Int)) := ⟨_, rfl⟩
  have hF := hF0.trans (f_X12_fault.eq_1 (dv G Γ H0) ((a0 : Int)))
  refine lv_aload_n hx hb dX12_fault_0 rfl (lv_at hl 0 rfl) ?_
  refine th_getI (j := 14) hC cf_X12 hB.1 h0 ro_46 rfl rfl kf_X12_51 dX12_fault_1 (fun x1 mx1 lx1 ux1 => ?_)
  replace hF := hF.trans (dv_bn (dv_getI h0 ro_46 (j := 14) rfl mx1 (by decide)))
  exact th_iret hC hH hr hlocks rfl hB.2.1 ⟨_, rfl, (hF0.symm.trans hF), rfl⟩ dX12_fault_4

set_option maxHeartbeats 4000000 in
set_option maxRecDepth 100000 in
theorem c_X12_stopped (l : Launch) (G : th_G) (Γ : th_Ga) (H0 : Heap) (hI : th_I G Γ H0) (hU : dv_U Γ) (a0 : Nat) (h0 : Γ a0 = (46, 0)) : Met l yX12_stopped (.code yX12_stopped cX12_stopped 1 (some FieldType.int) :: th_tb) ({ frames := 0, cells := 0, slots := 0, locals := 0 } : Room) (th_P [.ref a0] G H0) (th_Q (fun (v : Option Value) (H1 : Heap) => ∃ r : Int32, v = some (.int r) ∧ (f_X12_stopped (dv G Γ H0) (a0 : Int) = (r.toInt, ())) ∧ H0 = H1) G) 0 0 (fun q => G.2.2 ≤ q) := by
  refine th_met RX12 (by decide) rfl (Nat.le_of_ble_eq_true rfl) ?_
  intro p e s m below meth c hC hH hr hlocks hnm ls hl
  have hx := hC.1
  have hb := hC.2.1
  have hB : th_B G Γ Γ [] H0 H0 [] := ⟨hI, va_S.rf, th_F_rf⟩
  have hl : lv_has ls 1 [(0, .ref a0)] := hl
  obtain ⟨F, hF0⟩ : ∃ F, F = f_X12_stopped (dv G Γ H0) ((a0 : Int)) := ⟨_, rfl⟩
  have hF := hF0.trans (f_X12_stopped.eq_1 (dv G Γ H0) ((a0 : Int)))
  refine lv_aload_n hx hb dX12_stopped_0 rfl (lv_at hl 0 rfl) ?_
  refine th_getI (j := 47) hC cf_X12 hB.1 h0 ro_46 rfl rfl kf_X12_97 dX12_stopped_1 (fun x1 mx1 lx1 ux1 => ?_)
  replace hF := hF.trans (dv_bn (dv_getI h0 ro_46 (j := 47) rfl mx1 (by decide)))
  exact th_iret hC hH hr hlocks rfl hB.2.1 ⟨_, rfl, (hF0.symm.trans hF), rfl⟩ dX12_stopped_4

set_option maxHeartbeats 4000000 in
set_option maxRecDepth 100000 in
theorem c_X12_status (l : Launch) (G : th_G) (Γ : th_Ga) (H0 : Heap) (hI : th_I G Γ H0) (hU : dv_U Γ) (a0 : Nat) (h0 : Γ a0 = (46, 0)) : Met l yX12_status (.code yX12_status cX12_status 1 (some FieldType.int) :: th_tb) ({ frames := 0, cells := 0, slots := 0, locals := 0 } : Room) (th_P [.ref a0] G H0) (th_Q (fun (v : Option Value) (H1 : Heap) => ∃ r : Int32, v = some (.int r) ∧ (f_X12_status (dv G Γ H0) (a0 : Int) = (r.toInt, ())) ∧ H0 = H1) G) 0 0 (fun q => G.2.2 ≤ q) := by
  refine th_met RX12 (by decide) rfl (Nat.le_of_ble_eq_true rfl) ?_
  intro p e s m below meth c hC hH hr hlocks hnm ls hl
  have hx := hC.1
  have hb := hC.2.1
  have hB : th_B G Γ Γ [] H0 H0 [] := ⟨hI, va_S.rf, th_F_rf⟩
  have hl : lv_has ls 1 [(0, .ref a0)] := hl
  obtain ⟨F, hF0⟩ : ∃ F, F = f_X12_status (dv G Γ H0) ((a0 : Int)) := ⟨_, rfl⟩
  have hF := hF0.trans (f_X12_status.eq_1 (dv G Γ H0) ((a0 : Int)))
  refine lv_aload_n hx hb dX12_status_0 rfl (lv_at hl 0 rfl) ?_
  refine th_getI (j := 0) hC cf_X12 hB.1 h0 ro_46 rfl rfl kf_X12_3 dX12_status_1 (fun x1 mx1 lx1 ux1 => ?_)
  replace hF := hF.trans (dv_bn (dv_getI h0 ro_46 (j := 0) rfl mx1 (by decide)))
  exact th_iret hC hH hr hlocks rfl hB.2.1 ⟨_, rfl, (hF0.symm.trans hF), rfl⟩ dX12_status_4

set_option maxHeartbeats 4000000 in
set_option maxRecDepth 100000 in
theorem c_X12_fine (l : Launch) (G : th_G) (Γ : th_Ga) (H0 : Heap) (hI : th_I G Γ H0) (hU : dv_U Γ) (a0 : Nat) (h0 : Γ a0 = (46, 0)) : Met l yX12_fine (.code yX12_fine cX12_fine 1 (some FieldType.boolean) :: th_tb) ({ frames := 0, cells := 0, slots := 0, locals := 0 } : Room) (th_P [.ref a0] G H0) (th_Q (fun (v : Option Value) (H1 : Heap) => ∃ r : Int32, v = some (.int r) ∧ 0 ≤ r.toInt ∧ r.toInt ≤ 1 ∧ (r.toInt = 1 → mo_f G H0 a0 21 = -1) ∧ (r.toInt = 0 → mo_f G H0 a0 21 ≠ -1) ∧ (f_X12_fine (dv G Γ H0) (a0 : Int) = (r.toInt, ())) ∧ H0 = H1) G) 0 0 (fun q => G.2.2 ≤ q) := by
  refine th_met RX12 (by decide) rfl (Nat.le_of_ble_eq_true rfl) ?_
  intro p e s m below meth c hC hH hr hlocks hnm ls hl
  have hx := hC.1
  have hb := hC.2.1
  have hB : th_B G Γ Γ [] H0 H0 [] := ⟨hI, va_S.rf, th_F_rf⟩
  have hl : lv_has ls 1 [(0, .ref a0)] := hl
  obtain ⟨F, hF0⟩ : ∃ F, F = f_X12_fine (dv G Γ H0) ((a0 : Int)) := ⟨_, rfl⟩
  have hF := hF0.trans (f_X12_fine.eq_1 (dv G Γ H0) ((a0 : Int)))
  refine lv_aload_n hx hb dX12_fine_0 rfl (lv_at hl 0 rfl) ?_
  refine th_getI (j := 21) hC cf_X12 hB.1 h0 ro_46 rfl rfl kf_X12_189 dX12_fine_1 (fun x1 mx1 lx1 ux1 => ?_)
  replace hF := hF.trans (dv_bn (dv_getI h0 ro_46 (j := 21) rfl mx1 (by decide)))
  have fg2 : mo_f G H0 a0 21 = x1.toInt := mo_fat mx1
  refine lv_iconst (v := (-1)) hx hb dX12_fine_4 (by decide) ?_
  refine tr_icmp_ne (tgt := 12) hx hb dX12_fine_5 (by decide) (Eq.refl _) tk_m1 (fun c5 => ?_) (fun c5 => ?_)
  · replace hF := hF.trans (if_pos c5)
    refine lv_iconst (v := 0) hx hb dX12_fine_12 (by decide) ?_
    exact th_iret hC hH hr hlocks narrow_b0 hB.2.1 ⟨_, rfl, by decide, by decide, by first | (intro h9; exact absurd h9 (by decide)) | (have w9 := tk_0; intros; omega), by first | (intro h9; exact absurd h9 (by decide)) | (have w9 := tk_0; intros; omega), (hF0.symm.trans (hF.trans (by rw [tk_0]))), rfl⟩ dX12_fine_13
  · replace hF := hF.trans (if_neg (not_not_intro c5))
    refine lv_iconst (v := 1) hx hb dX12_fine_8 (by decide) ?_
    refine lv_goto (tgt := 13) hx hb dX12_fine_9 (by decide) ?_
    exact th_iret hC hH hr hlocks narrow_b1 hB.2.1 ⟨_, rfl, by decide, by decide, by first | (intro h9; exact absurd h9 (by decide)) | (have w9 := tk_1; intros; omega), by first | (intro h9; exact absurd h9 (by decide)) | (have w9 := tk_1; intros; omega), (hF0.symm.trans (hF.trans (by rw [tk_1]))), rfl⟩ dX12_fine_13

set_option maxHeartbeats 4000000 in
set_option maxRecDepth 100000 in
theorem c_X12_drawn (l : Launch) (G : th_G) (Γ : th_Ga) (H0 : Heap) (hI : th_I G Γ H0) (hU : dv_U Γ) (a0 : Nat) (h0 : Γ a0 = (46, 0)) (p1 : Int32) (p2 : Int32) : Met l yX12_drawn (.code yX12_drawn cX12_drawn 3 (some FieldType.int) :: th_tb) ({ frames := 1, cells := 0, slots := 0, locals := 22 } : Room) (th_P [.ref a0, .int p1, .int p2] G H0) (th_Q (fun (v : Option Value) (H1 : Heap) => ∃ r : Int32, v = some (.int r) ∧ (f_X12_drawn (dv G Γ H0) (a0 : Int) p1.toInt p2.toInt = (r.toInt, ())) ∧ H0 = H1) G) 0 0 (fun q => G.2.2 ≤ q) := by
  refine th_met RX12 (by decide) rfl (Nat.le_of_ble_eq_true rfl) ?_
  intro p e s m below meth c hC hH hr hlocks hnm ls hl
  have hx := hC.1
  have hb := hC.2.1
  have hB : th_B G Γ Γ [] H0 H0 [] := ⟨hI, va_S.rf, th_F_rf⟩
  have hl : lv_has ls 3 [(0, .ref a0), (1, .int p1), (2, .int p2)] := hl
  have lp1 := ti_lo p1; have up1 := ti_hi p1
  have lp2 := ti_lo p2; have up2 := ti_hi p2
  obtain ⟨F, hF0⟩ : ∃ F, F = f_X12_drawn (dv G Γ H0) ((a0 : Int)) (p1.toInt) (p2.toInt) := ⟨_, rfl⟩
  have hF := hF0.trans (f_X12_drawn.eq_1 (dv G Γ H0) ((a0 : Int)) (p1.toInt) (p2.toInt))
  refine lv_iload_n hx hb dX12_drawn_0 rfl (lv_at hl 1 rfl) ?_
  refine lv_iconst (v := 0) hx hb dX12_drawn_1 (by decide) ?_
  refine lv_aload_n hx hb dX12_drawn_2 rfl (lv_at hl 0 rfl) ?_
  refine th_getI (j := 55) hC cf_X12 hB.1 h0 ro_46 rfl rfl kf_X12_106 dX12_drawn_3 (fun x1 mx1 lx1 ux1 => ?_)
  replace hF := hF.trans (dv_bn (dv_getI h0 ro_46 (j := 55) rfl mx1 (by decide)))
  refine lv_iconst (v := 1) hx hb dX12_drawn_6 (by decide) ?_
  refine tr_isub hx hb dX12_drawn_7 (Eq.refl _) tk_1 (by omega) (by omega) (fun x2 ex2 => ?_)
  replace hF := hF.trans (dv_bn (ex2.symm))
  refine th_call (th_runS (As := [.int p1, .int 0, .int x2]) (rest := []) hC mf_X12_lies km_X12_18 st_X12_lies (c_X12_lies l G Γ H0 hB.1 hU p1 0 x2) rfl rfl ⟨Nat.le_of_ble_eq_true rfl, Nat.le_of_ble_eq_true rfl⟩ rfl hl.1 rfl (Nat.le_of_ble_eq_true rfl) dX12_drawn_8 ⟨Nat.le_refl _, Nat.le_refl _⟩) hB.2.1 (fun v8 H8 locs hp hz hS => ?_)
  obtain ⟨x3, rfl, lx3, ux3, q8_0, q8_1, q8_2, rfl⟩ := hp
  have hB := th_B_s hB hS
  have w8_1 := tk_0
  have zf8 := q8_2
  rw [tk_0] at zf8
  replace hF := hF.trans (dv_bn2 (zf8))
  refine W.eq (g2 := F0 m 11 ls [.int x3]) rfl ?_
  refine tr_if_eq (tgt := 23) hx hb dX12_drawn_11 (by decide) (Eq.refl _) (fun c11 => ?_) (fun c11 => ?_)
  · replace hF := hF.trans (if_pos c11)
    refine lv_iconst (v := (-1)) hx hb dX12_drawn_23 (by decide) ?_
    exact th_iret hC hH hr hlocks rfl hB.2.1 ⟨_, rfl, (hF0.symm.trans (hF.trans (by rw [tk_m1]))), rfl⟩ dX12_drawn_24
  · replace hF := hF.trans (if_neg c11)
    refine lv_iload_n hx hb dX12_drawn_14 rfl (lv_at hl 2 rfl) ?_
    refine lv_iconst (v := 0) hx hb dX12_drawn_15 (by decide) ?_
    refine lv_iconst (v := 2) hx hb dX12_drawn_16 (by decide) ?_
    refine th_call (th_runS (As := [.int p2, .int 0, .int 2]) (rest := []) hC mf_X12_lies km_X12_18 st_X12_lies (c_X12_lies l G Γ H0 hB.1 hU p2 0 2) rfl rfl ⟨Nat.le_of_ble_eq_true rfl, Nat.le_of_ble_eq_true rfl⟩ rfl hl.1 rfl (Nat.le_of_ble_eq_true rfl) dX12_drawn_17 ⟨Nat.le_refl _, Nat.le_refl _⟩) hB.2.1 (fun v17 H17 locs hp hz hS => ?_)
    obtain ⟨x4, rfl, lx4, ux4, q17_0, q17_1, q17_2, rfl⟩ := hp
    have hB := th_B_s hB hS
    have w17_1 := tk_0
    have w17_2 := tk_2
    have zf17 := q17_2
    rw [tk_0, tk_2] at zf17
    replace hF := hF.trans (dv_bn2 (zf17))
    refine W.eq (g2 := F0 m 20 ls [.int x4]) rfl ?_
    refine tr_if_ne (tgt := 25) hx hb dX12_drawn_20 (by decide) (Eq.refl _) (fun c20 => ?_) (fun c20 => ?_)
    · replace hF := hF.trans (if_pos c20)
      refine lv_aload_n hx hb dX12_drawn_25 rfl (lv_at hl 0 rfl) ?_
      refine th_getO (j := 54) (r2 := 70) hC cf_X12 hB.1 h0 ro_46 rfl rfl kf_X12_103 dX12_drawn_26 (fun b5 mb5 hb5 => ?_)
      refine lv_iload_n hx hb dX12_drawn_29 rfl (lv_at hl 2 rfl) ?_
      refine tr_if_ne (tgt := 37) hx hb dX12_drawn_30 (by decide) (Eq.refl _) (fun c30 => ?_) (fun c30 => ?_)
      · replace hF := hF.trans (if_pos c30)
        refine lv_iload_n hx hb dX12_drawn_37 rfl (lv_at hl 2 rfl) ?_
        refine lv_iconst (v := 1) hx hb dX12_drawn_38 (by decide) ?_
        refine tr_icmp_ne (tgt := 47) hx hb dX12_drawn_39 (by decide) (Eq.refl _) tk_1 (fun c39 => ?_) (fun c39 => ?_)
        · replace hF := hF.trans (if_pos c39)
          refine lv_bipush (v := 18) hx hb dX12_drawn_47 (by decide) ?_
          refine lv_iload_n hx hb dX12_drawn_49 rfl (lv_at hl 1 rfl) ?_
          refine tr_iadd hx hb dX12_drawn_50 tk_18 (Eq.refl _) (by omega) (by omega) (fun x6 ex6 => ?_)
          replace hF := hF.trans (dv_bn (ex6.symm))
          refine th_ialdF hC hB.1 hb5 ro_70 rfl (Eq.refl _) (by omega) (by omega) rfl dX12_drawn_51 (fun x7 mx7 lx7 ux7 => ?_)
          replace hF := hF.trans (dv_bn (dv_aldI hB.1 hU hb5 ow_70 (z := x6.toInt) mx7 (by omega)))
          exact th_iret hC hH hr hlocks rfl hB.2.1 ⟨_, rfl, (hF0.symm.trans hF), rfl⟩ dX12_drawn_52
        · replace hF := hF.trans (if_neg (not_not_intro c39))
          refine lv_bipush (v := 9) hx hb dX12_drawn_42 (by decide) ?_
          refine lv_goto (tgt := 49) hx hb dX12_drawn_44 (by decide) ?_
          refine lv_iload_n hx hb dX12_drawn_49 rfl (lv_at hl 1 rfl) ?_
          refine tr_iadd hx hb dX12_drawn_50 tk_9 (Eq.refl _) (by omega) (by omega) (fun x8 ex8 => ?_)
          replace hF := hF.trans (dv_bn (ex8.symm))
          refine th_ialdF hC hB.1 hb5 ro_70 rfl (Eq.refl _) (by omega) (by omega) rfl dX12_drawn_51 (fun x9 mx9 lx9 ux9 => ?_)
          replace hF := hF.trans (dv_bn (dv_aldI hB.1 hU hb5 ow_70 (z := x8.toInt) mx9 (by omega)))
          exact th_iret hC hH hr hlocks rfl hB.2.1 ⟨_, rfl, (hF0.symm.trans hF), rfl⟩ dX12_drawn_52
      · replace hF := hF.trans (if_neg (not_not_intro c30))
        refine lv_iconst (v := 0) hx hb dX12_drawn_33 (by decide) ?_
        refine lv_goto (tgt := 49) hx hb dX12_drawn_34 (by decide) ?_
        refine lv_iload_n hx hb dX12_drawn_49 rfl (lv_at hl 1 rfl) ?_
        refine tr_iadd hx hb dX12_drawn_50 tk_0 (Eq.refl _) (by omega) (by omega) (fun x10 ex10 => ?_)
        replace hF := hF.trans (dv_bn (ex10.symm))
        refine th_ialdF hC hB.1 hb5 ro_70 rfl (Eq.refl _) (by omega) (by omega) rfl dX12_drawn_51 (fun x11 mx11 lx11 ux11 => ?_)
        replace hF := hF.trans (dv_bn (dv_aldI hB.1 hU hb5 ow_70 (z := x10.toInt) mx11 (by omega)))
        exact th_iret hC hH hr hlocks rfl hB.2.1 ⟨_, rfl, (hF0.symm.trans hF), rfl⟩ dX12_drawn_52
    · replace hF := hF.trans (if_neg (not_not_intro c20))
      refine lv_iconst (v := (-1)) hx hb dX12_drawn_23 (by decide) ?_
      exact th_iret hC hH hr hlocks rfl hB.2.1 ⟨_, rfl, (hF0.symm.trans (hF.trans (by rw [tk_m1]))), rfl⟩ dX12_drawn_24

set_option maxHeartbeats 4000000 in
set_option maxRecDepth 100000 in
theorem c_X12_bareMany (l : Launch) (G : th_G) (Γ : th_Ga) (H0 : Heap) (hI : th_I G Γ H0) (hU : dv_U Γ) (a0 : Nat) (h0 : Γ a0 = (46, 0)) : Met l yX12_bareMany (.code yX12_bareMany cX12_bareMany 3 (some FieldType.int) :: th_tb) ({ frames := 1, cells := 0, slots := 0, locals := 21 } : Room) (th_P [.ref a0] G H0) (th_Q (fun (v : Option Value) (H1 : Heap) => ∃ r : Int32, v = some (.int r) ∧ (-1296) ≤ r.toInt ∧ r.toInt ≤ 144 ∧ (r.toInt = mo_v G H0 a0 2 67 * mo_v G H0 a0 2 68 - mo_ss (mo_v G H0 a0 2) (mo_v G H0 a0 2 69).toNat) ∧ (f_X12_bareMany (dv G Γ H0) (a0 : Int) = (r.toInt, ())) ∧ H0 = H1) G) 0 0 (fun q => G.2.2 ≤ q) := by
  refine th_met RX12 (by decide) rfl (Nat.le_of_ble_eq_true rfl) ?_
  intro p e s m below meth c hC hH hr hlocks hnm ls hl
  have hx := hC.1
  have hb := hC.2.1
  have hB : th_B G Γ Γ [] H0 H0 [] := ⟨hI, va_S.rf, th_F_rf⟩
  have hl : lv_has ls 3 [(0, .ref a0)] := hl
  obtain ⟨F, hF0⟩ : ∃ F, F = f_X12_bareMany (dv G Γ H0) ((a0 : Int)) := ⟨_, rfl⟩
  have hF := hF0.trans (f_X12_bareMany.eq_1 (dv G Γ H0) ((a0 : Int)))
  refine lv_aload_n hx hb dX12_bareMany_0 rfl (lv_at hl 0 rfl) ?_
  refine th_getO (j := 2) (r2 := 48) hC cf_X12 hB.1 h0 ro_46 rfl rfl kf_X12_28 dX12_bareMany_1 (fun b1 mb1 hb1 => ?_)
  refine lv_bipush (v := 67) hx hb dX12_bareMany_4 (by decide) ?_
  refine th_ialdF hC hB.1 hb1 ro_48 rfl tk_67 (by omega) (by omega) (ek_hall (by omega) (by omega)) dX12_bareMany_6 (fun x2 mx2 lx2 ux2 => ?_)
  replace hF := hF.trans (dv_bn (dv_aldI hB.1 hU hb1 ow_48 (z := 67) mx2 (by omega)))
  have vgx2 : mo_v G H0 a0 2 67 = x2.toInt := by rw [show (67 : Int) = 67 by omega]; exact mo_vat mb1 mx2 (by omega)
  refine lv_aload_n hx hb dX12_bareMany_7 rfl (lv_at hl 0 rfl) ?_
  refine th_getK hC cf_X12 hB.1 h0 ro_46 rfl (j := 2) (by decide) mb1 kf_X12_28 dX12_bareMany_8 ?_
  refine lv_bipush (v := 68) hx hb dX12_bareMany_11 (by decide) ?_
  refine th_ialdF hC hB.1 hb1 ro_48 rfl tk_68 (by omega) (by omega) (ek_hall (by omega) (by omega)) dX12_bareMany_13 (fun x3 mx3 lx3 ux3 => ?_)
  replace hF := hF.trans (dv_bn (dv_aldI hB.1 hU hb1 ow_48 (z := 68) mx3 (by omega)))
  have vgx3 : mo_v G H0 a0 2 68 = x3.toInt := by rw [show (68 : Int) = 68 by omega]; exact mo_vat mb1 mx3 (by omega)
  have q5 := ti_mulr (a := x2.toInt) (b := x3.toInt) (A := 12) (B := 12) (by omega) (by omega) (by omega) (by omega)
  generalize hex4 : x2.toInt * x3.toInt = wx4 at q5
  refine tr_imul hx hb dX12_bareMany_14 (Eq.refl _) (Eq.refl _) (by rw [hex4]; omega) (by rw [hex4]; omega) (fun x4 ex4 => ?_)
  rw [hex4] at ex4
  replace hF := hF.trans (dv_bn (hex4.trans ex4.symm))
  have eWH : mo_v G H0 a0 2 67 * mo_v G H0 a0 2 68 = wx4 := by rw [vgx2, vgx3]; exact hex4
  refine lv_istore_n (lv' := [(1, .int x4), (0, .ref a0)]) hx hb dX12_bareMany_15 rfl hl (by decide) rfl (fun ls hl => ?_)
  refine lv_iconst (v := 0) hx hb dX12_bareMany_16 (by decide) ?_
  refine lv_istore_n (lv' := [(2, .int 0), (1, .int x4), (0, .ref a0)]) hx hb dX12_bareMany_17 rfl hl (by decide) rfl (fun ls hl => ?_)
  have r69 := mo_many hI h0
  have lp18 : ∀ (n18 : Nat) (locs : List Loc) (ls : Array Slot) (j18_1 : Int32) (j18_2 : Int32), th_B G Γ Γ [] H0 H0 locs → lv_has ls 3 [(0, .ref a0), (1, .int j18_1), (2, .int j18_2)] → F = dv_lp f_X12_bareMany_18b (dv G Γ H0, (a0 : Int), j18_1.toInt, j18_2.toInt) → (-1296) ≤ j18_1.toInt → j18_1.toInt ≤ 144 → 0 ≤ j18_2.toInt → j18_2.toInt ≤ 9 → j18_1.toInt = mo_v G H0 a0 2 67 * mo_v G H0 a0 2 68 - mo_ss (mo_v G H0 a0 2) (j18_2.toInt).toNat → j18_2.toInt ≤ mo_v G H0 a0 2 69 → (2147483648 : Int) - j18_2.toInt ≤ (n18 : Int) → W p l e ({ frames := 1, cells := 0, slots := 0, locals := 21 } : Room) s m ([.ref a0] : List Value).toArray below meth c H0 locs 0 0 (MQ below (th_Q (fun (v : Option Value) (H1 : Heap) => ∃ r : Int32, v = some (.int r) ∧ (-1296) ≤ r.toInt ∧ r.toInt ≤ 144 ∧ (r.toInt = mo_v G H0 a0 2 67 * mo_v G H0 a0 2 68 - mo_ss (mo_v G H0 a0 2) (mo_v G H0 a0 2 69).toNat) ∧ (f_X12_bareMany (dv G Γ H0) (a0 : Int) = (r.toInt, ())) ∧ H0 = H1) G) ([.ref a0] : List Value).toArray s 0 0 (fun q => G.2.2 ≤ q)) (F0 m 18 ls []) := by
    intro n18
    induction n18 with
    | zero => intro locs ls j18_1 j18_2 hB hl hF g18_0 g18_1 g18_2 g18_3 g18_4 g18_5 hm18; exact absurd hm18 (by have := ti_hi j18_2; omega)
    | succ n18 ih18 =>
      intro locs ls j18_1 j18_2 hB hl hF g18_0 g18_1 g18_2 g18_3 g18_4 g18_5 hm18
      have lj18_1 := ti_lo j18_1; have uj18_1 := ti_hi j18_1
      have lj18_2 := ti_lo j18_2; have uj18_2 := ti_hi j18_2
      have hm18 : (2147483648 : Int) - j18_2.toInt ≤ (n18 : Int) + 1 := by omega
      replace hF := hF.trans (dv_lp_eq)
      replace hF := hF.trans (congrArg (dv_k f_X12_bareMany_18b) (f_X12_bareMany_18c.eq_1 (dv G Γ H0) ((a0 : Int)) (j18_1.toInt) (j18_2.toInt)))
      refine lv_iload_n hx hb dX12_bareMany_18 rfl (lv_at hl 2 rfl) ?_
      refine lv_aload_n hx hb dX12_bareMany_19 rfl (lv_at hl 0 rfl) ?_
      refine th_call (th_runV (As := []) (rest := [.int j18_2]) hC mf_X12_many km_X12_115 im_X12_many se_X12_many (c_X12_many l G Γ H0 hB.1 hU a0 h0) rfl rfl ⟨Nat.le_of_ble_eq_true rfl, Nat.le_of_ble_eq_true rfl⟩ hB.1 h0 ro_46 rfl rfl hl.1 rfl (Nat.le_of_ble_eq_true rfl) dX12_bareMany_20 ⟨Nat.le_refl _, Nat.le_refl _⟩) hB.2.1 (fun v20 H20 locs hp hz hS => ?_)
      obtain ⟨x6, rfl, lx6, ux6, q20_0, q20_1, rfl⟩ := hp
      have hB := th_B_s hB hS
      replace hF := hF.trans (congrArg (dv_k f_X12_bareMany_18b) (dv_bn2 (q20_1)))
      refine W.eq (g2 := F0 m 23 ls [.int x6, .int j18_2]) rfl ?_
      refine tr_icmp_ge (tgt := 66) hx hb dX12_bareMany_23 (by decide) (Eq.refl _) (Eq.refl _) (fun c23 => ?_) (fun c23 => ?_)
      · replace hF := hF.trans (congrArg (dv_k f_X12_bareMany_18b) (if_pos c23))
        refine lv_iload_n hx hb dX12_bareMany_66 rfl (lv_at hl 1 rfl) ?_
        replace hF := hF.trans (dv_kr)
        exact th_iret hC hH hr hlocks rfl hB.2.1 ⟨_, rfl, by omega, by omega, by rw [show mo_v G H0 a0 2 69 = j18_2.toInt by omega]; exact g18_4, (hF0.symm.trans hF), rfl⟩ dX12_bareMany_67
      · replace hF := hF.trans (congrArg (dv_k f_X12_bareMany_18b) (if_neg (Int.not_le.mpr c23)))
        refine lv_iload_n hx hb dX12_bareMany_26 rfl (lv_at hl 1 rfl) ?_
        refine lv_aload_n hx hb dX12_bareMany_27 rfl (lv_at hl 0 rfl) ?_
        refine lv_iload_n hx hb dX12_bareMany_28 rfl (lv_at hl 2 rfl) ?_
        refine th_call (th_runV (As := [.int j18_2]) (rest := [.int j18_1]) hC mf_X12_isLaid km_X12_137 im_X12_isLaid se_X12_isLaid (c_X12_isLaid l G Γ H0 hB.1 hU a0 h0 j18_2 (by omega) (by omega)) rfl rfl ⟨Nat.le_of_ble_eq_true rfl, Nat.le_of_ble_eq_true rfl⟩ hB.1 h0 ro_46 rfl rfl hl.1 rfl (Nat.le_of_ble_eq_true rfl) dX12_bareMany_29 ⟨Nat.le_refl _, Nat.le_refl _⟩) hB.2.1 (fun v29 H29 locs hp hz hS => ?_)
        obtain ⟨x7, rfl, lx7, ux7, q29_0, q29_1, q29_2, rfl⟩ := hp
        have hB := th_B_s hB hS
        replace hF := hF.trans (congrArg (dv_k f_X12_bareMany_18b) (dv_bn2 (q29_2)))
        refine W.eq (g2 := F0 m 32 ls [.int x7, .int j18_1]) rfl ?_
        refine tr_if_eq (tgt := 57) hx hb dX12_bareMany_32 (by decide) (Eq.refl _) (fun c32 => ?_) (fun c32 => ?_)
        · replace hF := hF.trans (congrArg (dv_k f_X12_bareMany_18b) (if_pos c32))
          refine lv_iconst (v := 0) hx hb dX12_bareMany_57 (by decide) ?_
          refine tr_isub hx hb dX12_bareMany_58 (Eq.refl _) tk_0 (by omega) (by omega) (fun x8 ex8 => ?_)
          replace hF := hF.trans (congrArg (dv_k f_X12_bareMany_18b) (dv_bn (ex8.symm)))
          refine lv_istore_n (lv' := [(1, .int x8), (0, .ref a0), (2, .int j18_2)]) hx hb dX12_bareMany_59 rfl hl (by decide) rfl (fun ls hl => ?_)
          refine tr_iinc (fun x9 => [(2, .int x9), (1, .int x8), (0, .ref a0)]) hx hb dX12_bareMany_60 hl (k := 2) rfl (Eq.refl _) tk_1 (by omega) (by omega) (by decide) (fun _ => rfl) (fun x9 ls ex9 hl => ?_)
          replace hF := hF.trans (congrArg (dv_k f_X12_bareMany_18b) (dv_bn (ex9.symm)))
          have sb9 := mo_ss_b hI h0 (n := (j18_2.toInt + 1).toNat) (by omega)
          have s09 := mo_ss_0 (k := mo_v G H0 a0 2) (j18_2.toInt + 1).toNat
          have ss9 := mo_ss_n (k := mo_v G H0 a0 2) (c := j18_2.toInt) (by omega) (q29_1 (by omega))
          refine lv_goto (tgt := 18) hx hb dX12_bareMany_63 (by decide) ?_
          replace hF := hF.trans (dv_kl)
          exact ih18 locs ls x8 x9 hB (lv_sub hl [2, 1, 0] rfl) hF (by omega) (by omega) (by omega) (by omega) (by rw [show x9.toInt = j18_2.toInt + 1 by omega]; omega) (by omega) (by omega)
        · replace hF := hF.trans (congrArg (dv_k f_X12_bareMany_18b) (if_neg c32))
          refine lv_aload_n hx hb dX12_bareMany_35 rfl (lv_at hl 0 rfl) ?_
          refine th_getK hC cf_X12 hB.1 h0 ro_46 rfl (j := 2) (by decide) mb1 kf_X12_28 dX12_bareMany_36 ?_
          refine lv_bipush (v := 29) hx hb dX12_bareMany_39 (by decide) ?_
          refine lv_iload_n hx hb dX12_bareMany_41 rfl (lv_at hl 2 rfl) ?_
          refine tr_iadd hx hb dX12_bareMany_42 tk_29 (Eq.refl _) (by omega) (by omega) (fun x10 ex10 => ?_)
          replace hF := hF.trans (congrArg (dv_k f_X12_bareMany_18b) (dv_bn (ex10.symm)))
          refine th_ialdF hC hB.1 hb1 ro_48 rfl (Eq.refl _) (by omega) (by omega) (ek_side (by omega) (by omega)) dX12_bareMany_43 (fun x11 mx11 lx11 ux11 => ?_)
          replace hF := hF.trans (congrArg (dv_k f_X12_bareMany_18b) (dv_bn (dv_aldI hB.1 hU hb1 ow_48 (z := x10.toInt) mx11 (by omega))))
          have vgx11 : mo_v G H0 a0 2 (29 + j18_2.toInt) = x11.toInt := by rw [show ((29 + j18_2.toInt) : Int) = x10.toInt by omega]; exact mo_vat mb1 mx11 (by omega)
          refine lv_aload_n hx hb dX12_bareMany_44 rfl (lv_at hl 0 rfl) ?_
          refine th_getK hC cf_X12 hB.1 h0 ro_46 rfl (j := 2) (by decide) mb1 kf_X12_28 dX12_bareMany_45 ?_
          refine lv_bipush (v := 29) hx hb dX12_bareMany_48 (by decide) ?_
          refine lv_iload_n hx hb dX12_bareMany_50 rfl (lv_at hl 2 rfl) ?_
          refine tr_iadd hx hb dX12_bareMany_51 tk_29 (Eq.refl _) (by omega) (by omega) (fun x12 ex12 => ?_)
          replace hF := hF.trans (congrArg (dv_k f_X12_bareMany_18b) (dv_bn (ex12.symm)))
          refine th_ialdF hC hB.1 hb1 ro_48 rfl (Eq.refl _) (by omega) (by omega) (ek_side (by omega) (by omega)) dX12_bareMany_52 (fun x13 mx13 lx13 ux13 => ?_)
          replace hF := hF.trans (congrArg (dv_k f_X12_bareMany_18b) (dv_bn (dv_aldI hB.1 hU hb1 ow_48 (z := x12.toInt) mx13 (by omega))))
          have vgx13 : mo_v G H0 a0 2 (29 + j18_2.toInt) = x13.toInt := by rw [show ((29 + j18_2.toInt) : Int) = x12.toInt by omega]; exact mo_vat mb1 mx13 (by omega)
          have q15 := ti_mulr (a := x11.toInt) (b := x13.toInt) (A := 12) (B := 12) (by omega) (by omega) (by omega) (by omega)
          generalize hex14 : x11.toInt * x13.toInt = wx14 at q15
          refine tr_imul hx hb dX12_bareMany_53 (Eq.refl _) (Eq.refl _) (by rw [hex14]; omega) (by rw [hex14]; omega) (fun x14 ex14 => ?_)
          rw [hex14] at ex14
          replace hF := hF.trans (congrArg (dv_k f_X12_bareMany_18b) (dv_bn (hex14.trans ex14.symm)))
          refine lv_goto (tgt := 58) hx hb dX12_bareMany_54 (by decide) ?_
          refine tr_isub hx hb dX12_bareMany_58 (Eq.refl _) (Eq.refl _) (by omega) (by omega) (fun x16 ex16 => ?_)
          replace hF := hF.trans (congrArg (dv_k f_X12_bareMany_18b) (dv_bn (ex16.symm)))
          refine lv_istore_n (lv' := [(1, .int x16), (0, .ref a0), (2, .int j18_2)]) hx hb dX12_bareMany_59 rfl hl (by decide) rfl (fun ls hl => ?_)
          refine tr_iinc (fun x17 => [(2, .int x17), (1, .int x16), (0, .ref a0)]) hx hb dX12_bareMany_60 hl (k := 2) rfl (Eq.refl _) tk_1 (by omega) (by omega) (by decide) (fun _ => rfl) (fun x17 ls ex17 hl => ?_)
          replace hF := hF.trans (congrArg (dv_k f_X12_bareMany_18b) (dv_bn (ex17.symm)))
          have sb9 := mo_ss_b hI h0 (n := (j18_2.toInt + 1).toNat) (by omega)
          have s09 := mo_ss_0 (k := mo_v G H0 a0 2) (j18_2.toInt + 1).toNat
          have ss9 := mo_ss_l (k := mo_v G H0 a0 2) (c := j18_2.toInt) (by omega) (q29_0 (by omega))
          have e9 : mo_v G H0 a0 2 (29 + j18_2.toInt) * mo_v G H0 a0 2 (29 + j18_2.toInt) = wx14 := by rw [← hex14, ← vgx11, ← vgx13]
          refine lv_goto (tgt := 18) hx hb dX12_bareMany_63 (by decide) ?_
          replace hF := hF.trans (dv_kl)
          exact ih18 locs ls x16 x17 hB (lv_sub hl [2, 1, 0] rfl) hF (by omega) (by omega) (by omega) (by omega) (by rw [show x17.toInt = j18_2.toInt + 1 by omega]; omega) (by omega) (by omega)
  exact lp18 ((2147483648 : Int) - (0)).toNat [] ls x4 0 hB (lv_sub hl [2, 1, 0] rfl) (by rw [tk_0]; exact hF) (by omega) (by omega) (by decide) (by decide) (by rw [eWH, show (0 : Int32).toInt.toNat = 0 from rfl]; show x4.toInt = wx4 - 0; omega) (by have w0 := tk_0; omega) (by have w0 := tk_0; omega)

set_option maxHeartbeats 4000000 in
set_option maxRecDepth 100000 in
theorem c_X12_within (l : Launch) (G : th_G) (Γ : th_Ga) (H0 : Heap) (hI : th_I G Γ H0) (hU : dv_U Γ) (a0 : Nat) (h0 : Γ a0 = (46, 0)) (p1 : Int32) (p2 : Int32) (p3 : Int32) (p4 : Int32) : Met l yX12_within (.code yX12_within cX12_within 9 (some FieldType.int) :: th_tb) ({ frames := 1, cells := 0, slots := 0, locals := 21 } : Room) (th_P [.ref a0, .int p1, .int p2, .int p3, .int p4] G H0) (th_Q (fun (v : Option Value) (H1 : Heap) => ∃ r : Int32, v = some (.int r) ∧ (f_X12_within (dv G Γ H0) (a0 : Int) p1.toInt p2.toInt p3.toInt p4.toInt = (r.toInt, ())) ∧ H0 = H1) G) 0 0 (fun q => G.2.2 ≤ q) := by
  refine th_met RX12 (by decide) rfl (Nat.le_of_ble_eq_true rfl) ?_
  intro p e s m below meth c hC hH hr hlocks hnm ls hl
  have hx := hC.1
  have hb := hC.2.1
  have hB : th_B G Γ Γ [] H0 H0 [] := ⟨hI, va_S.rf, th_F_rf⟩
  have hl : lv_has ls 9 [(0, .ref a0), (1, .int p1), (2, .int p2), (3, .int p3), (4, .int p4)] := hl
  have lp1 := ti_lo p1; have up1 := ti_hi p1
  have lp2 := ti_lo p2; have up2 := ti_hi p2
  have lp3 := ti_lo p3; have up3 := ti_hi p3
  have lp4 := ti_lo p4; have up4 := ti_hi p4
  obtain ⟨F, hF0⟩ : ∃ F, F = f_X12_within (dv G Γ H0) ((a0 : Int)) (p1.toInt) (p2.toInt) (p3.toInt) (p4.toInt) := ⟨_, rfl⟩
  have hF := hF0.trans (f_X12_within.eq_1 (dv G Γ H0) ((a0 : Int)) (p1.toInt) (p2.toInt) (p3.toInt) (p4.toInt))
  refine lv_iconst (v := 0) hx hb dX12_within_0 (by decide) ?_
  refine lv_istore (lv' := [(5, .int 0), (0, .ref a0), (1, .int p1), (2, .int p2), (3, .int p3), (4, .int p4)]) hx hb dX12_within_1 hl (by decide) rfl (fun ls hl => ?_)
  refine lv_iconst (v := 0) hx hb dX12_within_3 (by decide) ?_
  refine lv_istore (lv' := [(6, .int 0), (5, .int 0), (0, .ref a0), (1, .int p1), (2, .int p2), (3, .int p3), (4, .int p4)]) hx hb dX12_within_4 hl (by decide) rfl (fun ls hl => ?_)
  refine lv_iconst (v := 0) hx hb dX12_within_6 (by decide) ?_
  refine lv_istore (lv' := [(7, .int 0), (6, .int 0), (5, .int 0), (0, .ref a0), (1, .int p1), (2, .int p2), (3, .int p3), (4, .int p4)]) hx hb dX12_within_7 hl (by decide) rfl (fun ls hl => ?_)
  have lp9 : ∀ (n9 : Nat) (locs : List Loc) (ls : Array Slot) (j9_5 : Int32) (j9_6 : Int32) (j9_7 : Int32), th_B G Γ Γ [] H0 H0 locs → lv_has ls 9 [(0, .ref a0), (1, .int p1), (2, .int p2), (3, .int p3), (4, .int p4), (5, .int j9_5), (6, .int j9_6), (7, .int j9_7)] → F = dv_lp f_X12_within_9b (dv G Γ H0, (a0 : Int), p1.toInt, p2.toInt, p3.toInt, p4.toInt, j9_5.toInt, j9_6.toInt, j9_7.toInt) → 0 ≤ j9_7.toInt → j9_7.toInt ≤ 9 → (2147483648 : Int) - j9_7.toInt ≤ (n9 : Int) → W p l e ({ frames := 1, cells := 0, slots := 0, locals := 21 } : Room) s m ([.ref a0, .int p1, .int p2, .int p3, .int p4] : List Value).toArray below meth c H0 locs 0 0 (MQ below (th_Q (fun (v : Option Value) (H1 : Heap) => ∃ r : Int32, v = some (.int r) ∧ (f_X12_within (dv G Γ H0) (a0 : Int) p1.toInt p2.toInt p3.toInt p4.toInt = (r.toInt, ())) ∧ H0 = H1) G) ([.ref a0, .int p1, .int p2, .int p3, .int p4] : List Value).toArray s 0 0 (fun q => G.2.2 ≤ q)) (F0 m 9 ls []) := by
    intro n9
    induction n9 with
    | zero => intro locs ls j9_5 j9_6 j9_7 hB hl hF g9_0 g9_1 hm9; exact absurd hm9 (by have := ti_hi j9_7; omega)
    | succ n9 ih9 =>
      intro locs ls j9_5 j9_6 j9_7 hB hl hF g9_0 g9_1 hm9
      have lj9_5 := ti_lo j9_5; have uj9_5 := ti_hi j9_5
      have lj9_6 := ti_lo j9_6; have uj9_6 := ti_hi j9_6
      have lj9_7 := ti_lo j9_7; have uj9_7 := ti_hi j9_7
      have hm9 : (2147483648 : Int) - j9_7.toInt ≤ (n9 : Int) + 1 := by omega
      replace hF := hF.trans (dv_lp_eq)
      replace hF := hF.trans (congrArg (dv_k f_X12_within_9b) (f_X12_within_9c.eq_1 (dv G Γ H0) ((a0 : Int)) (p1.toInt) (p2.toInt) (p3.toInt) (p4.toInt) (j9_5.toInt) (j9_6.toInt) (j9_7.toInt)))
      refine lv_iload hx hb dX12_within_9 (lv_at hl 7 rfl) ?_
      refine lv_aload_n hx hb dX12_within_11 rfl (lv_at hl 0 rfl) ?_
      refine th_call (th_runV (As := []) (rest := [.int j9_7]) hC mf_X12_many km_X12_115 im_X12_many se_X12_many (c_X12_many l G Γ H0 hB.1 hU a0 h0) rfl rfl ⟨Nat.le_of_ble_eq_true rfl, Nat.le_of_ble_eq_true rfl⟩ hB.1 h0 ro_46 rfl rfl hl.1 rfl (Nat.le_of_ble_eq_true rfl) dX12_within_12 ⟨Nat.le_refl _, Nat.le_refl _⟩) hB.2.1 (fun v12 H12 locs hp hz hS => ?_)
      obtain ⟨x1, rfl, lx1, ux1, q12_0, q12_1, rfl⟩ := hp
      have hB := th_B_s hB hS
      replace hF := hF.trans (congrArg (dv_k f_X12_within_9b) (dv_bn2 (q12_1)))
      refine W.eq (g2 := F0 m 15 ls [.int x1, .int j9_7]) rfl ?_
      refine tr_icmp_ge (tgt := 124) hx hb dX12_within_15 (by decide) (Eq.refl _) (Eq.refl _) (fun c15 => ?_) (fun c15 => ?_)
      · replace hF := hF.trans (congrArg (dv_k f_X12_within_9b) (if_pos c15))
        refine lv_iload hx hb dX12_within_124 (lv_at hl 5 rfl) ?_
        refine lv_iconst (v := 2) hx hb dX12_within_126 (by decide) ?_
        refine tr_icmp_ge (tgt := 134) hx hb dX12_within_127 (by decide) (Eq.refl _) tk_2 (fun c127 => ?_) (fun c127 => ?_)
        · replace hF := hF.trans (congrArg (dv_k f_X12_within_9b) (if_pos c127))
          refine lv_iload hx hb dX12_within_134 (lv_at hl 6 rfl) ?_
          replace hF := hF.trans (dv_kr)
          exact th_iret hC hH hr hlocks rfl hB.2.1 ⟨_, rfl, (hF0.symm.trans hF), rfl⟩ dX12_within_136
        · replace hF := hF.trans (congrArg (dv_k f_X12_within_9b) (if_neg (Int.not_le.mpr c127)))
          refine lv_iconst (v := (-1)) hx hb dX12_within_130 (by decide) ?_
          refine lv_goto (tgt := 136) hx hb dX12_within_131 (by decide) ?_
          replace hF := hF.trans (dv_kr)
          exact th_iret hC hH hr hlocks rfl hB.2.1 ⟨_, rfl, (hF0.symm.trans (hF.trans (by rw [tk_m1]))), rfl⟩ dX12_within_136
      · replace hF := hF.trans (congrArg (dv_k f_X12_within_9b) (if_neg (Int.not_le.mpr c15)))
        refine lv_aload_n hx hb dX12_within_18 rfl (lv_at hl 0 rfl) ?_
        refine th_getO (j := 2) (r2 := 48) hC cf_X12 hB.1 h0 ro_46 rfl rfl kf_X12_28 dX12_within_19 (fun b2 mb2 hb2 => ?_)
        refine lv_bipush (v := 29) hx hb dX12_within_22 (by decide) ?_
        refine lv_iload hx hb dX12_within_24 (lv_at hl 7 rfl) ?_
        refine tr_iadd hx hb dX12_within_26 tk_29 (Eq.refl _) (by omega) (by omega) (fun x3 ex3 => ?_)
        replace hF := hF.trans (congrArg (dv_k f_X12_within_9b) (dv_bn (ex3.symm)))
        refine th_ialdF hC hB.1 hb2 ro_48 rfl (Eq.refl _) (by omega) (by omega) (ek_side (by omega) (by omega)) dX12_within_27 (fun x4 mx4 lx4 ux4 => ?_)
        replace hF := hF.trans (congrArg (dv_k f_X12_within_9b) (dv_bn (dv_aldI hB.1 hU hb2 ow_48 (z := x3.toInt) mx4 (by omega))))
        refine lv_istore (lv' := [(8, .int x4), (0, .ref a0), (1, .int p1), (2, .int p2), (3, .int p3), (4, .int p4), (5, .int j9_5), (6, .int j9_6), (7, .int j9_7)]) hx hb dX12_within_28 hl (by decide) rfl (fun ls hl => ?_)
        refine lv_aload_n hx hb dX12_within_30 rfl (lv_at hl 1 rfl) ?_
        refine lv_iload hx hb dX12_within_31 (lv_at hl 8 rfl) ?_
        refine th_call (th_runV (As := [.int j9_7]) (rest := []) hC mf_X12_isLaid km_X12_137 im_X12_isLaid se_X12_isLaid (c_X12_isLaid l G Γ H0 hB.1 hU a0 h0 j9_7 (by omega) (by omega)) rfl rfl ⟨Nat.le_of_ble_eq_true rfl, Nat.le_of_ble_eq_true rfl⟩ hB.1 h0 ro_46 rfl rfl hl.1 rfl (Nat.le_of_ble_eq_true rfl) dX12_within_33 ⟨Nat.le_refl _, Nat.le_refl _⟩) hB.2.1 (fun v33 H33 locs hp hz hS => ?_)
        obtain ⟨x5, rfl, lx5, ux5, q33_0, q33_1, q33_2, rfl⟩ := hp
        have hB := th_B_s hB hS
        replace hF := hF.trans (congrArg (dv_k f_X12_within_9b) (dv_bn2 (q33_2)))
        refine W.eq (g2 := F0 m 36 ls [.int x5]) rfl ?_
        have jn118 : ∀ (locs : List Loc) (ls : Array Slot) (j118_5 : Int32) (j118_6 : Int32), th_B G Γ Γ [] H0 H0 locs → lv_has ls 9 [(0, .ref a0), (1, .int p1), (2, .int p2), (3, .int p3), (4, .int p4), (7, .int j9_7), (5, .int j118_5), (6, .int j118_6)] → F = dv_k f_X12_within_9b (f_X12_within_118 (dv G Γ H0) ((a0 : Int)) (p1.toInt) (p2.toInt) (p3.toInt) (p4.toInt) (j9_7.toInt) (j118_5.toInt) (j118_6.toInt)) → W p l e ({ frames := 1, cells := 0, slots := 0, locals := 21 } : Room) s m ([.ref a0, .int p1, .int p2, .int p3, .int p4] : List Value).toArray below meth c H0 locs 0 0 (MQ below (th_Q (fun (v : Option Value) (H1 : Heap) => ∃ r : Int32, v = some (.int r) ∧ (f_X12_within (dv G Γ H0) (a0 : Int) p1.toInt p2.toInt p3.toInt p4.toInt = (r.toInt, ())) ∧ H0 = H1) G) ([.ref a0, .int p1, .int p2, .int p3, .int p4] : List Value).toArray s 0 0 (fun q => G.2.2 ≤ q)) (F0 m 118 ls []) := by
          intro locs ls j118_5 j118_6 hB hl hF
          have lj118_5 := ti_lo j118_5; have uj118_5 := ti_hi j118_5
          have lj118_6 := ti_lo j118_6; have uj118_6 := ti_hi j118_6
          replace hF := hF.trans (congrArg (dv_k f_X12_within_9b) (f_X12_within_118.eq_1 (dv G Γ H0) ((a0 : Int)) (p1.toInt) (p2.toInt) (p3.toInt) (p4.toInt) (j9_7.toInt) (j118_5.toInt) (j118_6.toInt)))
          refine tr_iinc (fun x6 => [(7, .int x6), (0, .ref a0), (1, .int p1), (2, .int p2), (3, .int p3), (4, .int p4), (5, .int j118_5), (6, .int j118_6)]) hx hb dX12_within_118 hl (k := 5) rfl (Eq.refl _) tk_1 (by omega) (by omega) (by decide) (fun _ => rfl) (fun x6 ls ex6 hl => ?_)
          replace hF := hF.trans (congrArg (dv_k f_X12_within_9b) (dv_bn (ex6.symm)))
          refine lv_goto (tgt := 9) hx hb dX12_within_121 (by decide) ?_
          replace hF := hF.trans (dv_kl)
          exact ih9 locs ls j118_5 j118_6 x6 hB (lv_sub hl [1, 2, 3, 4, 5, 6, 7, 0] rfl) hF (by omega) (by omega) (by omega)
        refine tr_if_eq (tgt := 118) hx hb dX12_within_36 (by decide) (Eq.refl _) (fun c36 => ?_) (fun c36 => ?_)
        · replace hF := hF.trans (congrArg (dv_k f_X12_within_9b) (if_pos c36))
          exact jn118 locs ls j9_5 j9_6 hB (lv_sub hl [1, 2, 3, 4, 5, 8, 6, 7] rfl) hF
        · replace hF := hF.trans (congrArg (dv_k f_X12_within_9b) (if_neg c36))
          refine lv_aload_n hx hb dX12_within_39 rfl (lv_at hl 1 rfl) ?_
          refine th_getK hC cf_X12 hB.1 h0 ro_46 rfl (j := 2) (by decide) mb2 kf_X12_28 dX12_within_40 ?_
          refine lv_bipush (v := 9) hx hb dX12_within_43 (by decide) ?_
          refine lv_iload hx hb dX12_within_45 (lv_at hl 8 rfl) ?_
          refine tr_iadd hx hb dX12_within_47 tk_9 (Eq.refl _) (by omega) (by omega) (fun x7 ex7 => ?_)
          replace hF := hF.trans (congrArg (dv_k f_X12_within_9b) (dv_bn (ex7.symm)))
          refine th_ialdF hC hB.1 hb2 ro_48 rfl (Eq.refl _) (by omega) (by omega) (ek_a (by omega) (by omega)) dX12_within_48 (fun x8 mx8 lx8 ux8 => ?_)
          replace hF := hF.trans (congrArg (dv_k f_X12_within_9b) (dv_bn (dv_aldI hB.1 hU hb2 ow_48 (z := x7.toInt) mx8 (by omega))))
          refine lv_iload_n hx hb dX12_within_49 rfl (lv_at hl 2 rfl) ?_
          refine tr_icmp_lt (tgt := 118) hx hb dX12_within_50 (by decide) (Eq.refl _) (Eq.refl _) (fun c50 => ?_) (fun c50 => ?_)
          · replace hF := hF.trans (congrArg (dv_k f_X12_within_9b) (if_pos c50))
            exact jn118 locs ls j9_5 j9_6 hB (lv_sub hl [1, 2, 3, 4, 5, 8, 6, 7] rfl) hF
          · replace hF := hF.trans (congrArg (dv_k f_X12_within_9b) (if_neg (Int.not_lt.mpr c50)))
            refine lv_aload_n hx hb dX12_within_53 rfl (lv_at hl 1 rfl) ?_
            refine th_getK hC cf_X12 hB.1 h0 ro_46 rfl (j := 2) (by decide) mb2 kf_X12_28 dX12_within_54 ?_
            refine lv_bipush (v := 18) hx hb dX12_within_57 (by decide) ?_
            refine lv_iload hx hb dX12_within_59 (lv_at hl 8 rfl) ?_
            refine tr_iadd hx hb dX12_within_61 tk_18 (Eq.refl _) (by omega) (by omega) (fun x9 ex9 => ?_)
            replace hF := hF.trans (congrArg (dv_k f_X12_within_9b) (dv_bn (ex9.symm)))
            refine th_ialdF hC hB.1 hb2 ro_48 rfl (Eq.refl _) (by omega) (by omega) (ek_a (by omega) (by omega)) dX12_within_62 (fun x10 mx10 lx10 ux10 => ?_)
            replace hF := hF.trans (congrArg (dv_k f_X12_within_9b) (dv_bn (dv_aldI hB.1 hU hb2 ow_48 (z := x9.toInt) mx10 (by omega))))
            refine lv_iload_n hx hb dX12_within_63 rfl (lv_at hl 3 rfl) ?_
            refine tr_icmp_lt (tgt := 118) hx hb dX12_within_64 (by decide) (Eq.refl _) (Eq.refl _) (fun c64 => ?_) (fun c64 => ?_)
            · replace hF := hF.trans (congrArg (dv_k f_X12_within_9b) (if_pos c64))
              exact jn118 locs ls j9_5 j9_6 hB (lv_sub hl [1, 2, 3, 4, 5, 8, 6, 7] rfl) hF
            · replace hF := hF.trans (congrArg (dv_k f_X12_within_9b) (if_neg (Int.not_lt.mpr c64)))
              refine lv_aload_n hx hb dX12_within_67 rfl (lv_at hl 1 rfl) ?_
              refine th_getK hC cf_X12 hB.1 h0 ro_46 rfl (j := 2) (by decide) mb2 kf_X12_28 dX12_within_68 ?_
              refine lv_bipush (v := 9) hx hb dX12_within_71 (by decide) ?_
              refine lv_iload hx hb dX12_within_73 (lv_at hl 8 rfl) ?_
              refine tr_iadd hx hb dX12_within_75 tk_9 (Eq.refl _) (by omega) (by omega) (fun x11 ex11 => ?_)
              replace hF := hF.trans (congrArg (dv_k f_X12_within_9b) (dv_bn (ex11.symm)))
              refine th_ialdF hC hB.1 hb2 ro_48 rfl (Eq.refl _) (by omega) (by omega) (ek_a (by omega) (by omega)) dX12_within_76 (fun x12 mx12 lx12 ux12 => ?_)
              replace hF := hF.trans (congrArg (dv_k f_X12_within_9b) (dv_bn (dv_aldI hB.1 hU hb2 ow_48 (z := x11.toInt) mx12 (by omega))))
              refine lv_iload hx hb dX12_within_77 (lv_at hl 0 rfl) ?_
              refine lv_iadd hx hb dX12_within_79 ?_
              refine lv_topi (fun x13 ex13 => ?_)
              have lx13 := ti_lo x13; have ux13 := ti_hi x13
              replace hF := hF.trans (congrArg (dv_k f_X12_within_9b) (dv_bn (dv_add_e (Eq.refl _) (Eq.refl _) ex13)))
              refine lv_iload_n hx hb dX12_within_80 rfl (lv_at hl 4 rfl) ?_
              refine tr_icmp_gt (tgt := 118) hx hb dX12_within_81 (by decide) (Eq.refl _) (Eq.refl _) (fun c81 => ?_) (fun c81 => ?_)
              · replace hF := hF.trans (congrArg (dv_k f_X12_within_9b) (if_pos c81))
                exact jn118 locs ls j9_5 j9_6 hB (lv_sub hl [1, 2, 3, 4, 5, 8, 6, 7] rfl) hF
              · replace hF := hF.trans (congrArg (dv_k f_X12_within_9b) (if_neg (Int.not_lt.mpr c81)))
                refine lv_aload_n hx hb dX12_within_84 rfl (lv_at hl 1 rfl) ?_
                refine th_getK hC cf_X12 hB.1 h0 ro_46 rfl (j := 2) (by decide) mb2 kf_X12_28 dX12_within_85 ?_
                refine lv_bipush (v := 18) hx hb dX12_within_88 (by decide) ?_
                refine lv_iload hx hb dX12_within_90 (lv_at hl 8 rfl) ?_
                refine tr_iadd hx hb dX12_within_92 tk_18 (Eq.refl _) (by omega) (by omega) (fun x14 ex14 => ?_)
                replace hF := hF.trans (congrArg (dv_k f_X12_within_9b) (dv_bn (ex14.symm)))
                refine th_ialdF hC hB.1 hb2 ro_48 rfl (Eq.refl _) (by omega) (by omega) (ek_a (by omega) (by omega)) dX12_within_93 (fun x15 mx15 lx15 ux15 => ?_)
                replace hF := hF.trans (congrArg (dv_k f_X12_within_9b) (dv_bn (dv_aldI hB.1 hU hb2 ow_48 (z := x14.toInt) mx15 (by omega))))
                refine lv_iload hx hb dX12_within_94 (lv_at hl 0 rfl) ?_
                refine lv_iadd hx hb dX12_within_96 ?_
                refine lv_topi (fun x16 ex16 => ?_)
                have lx16 := ti_lo x16; have ux16 := ti_hi x16
                replace hF := hF.trans (congrArg (dv_k f_X12_within_9b) (dv_bn (dv_add_e (Eq.refl _) (Eq.refl _) ex16)))
                refine lv_iload hx hb dX12_within_97 (lv_at hl 5 rfl) ?_
                refine tr_icmp_le (tgt := 105) hx hb dX12_within_99 (by decide) (Eq.refl _) (Eq.refl _) (fun c99 => ?_) (fun c99 => ?_)
                · replace hF := hF.trans (congrArg (dv_k f_X12_within_9b) (if_pos c99))
                  refine lv_iload hx hb dX12_within_105 (lv_at hl 7 rfl) ?_
                  refine lv_iload hx hb dX12_within_107 (lv_at hl 0 rfl) ?_
                  refine lv_iload hx hb dX12_within_109 (lv_at hl 0 rfl) ?_
                  have q18 := ti_mulr (a := x4.toInt) (b := x4.toInt) (A := 12) (B := 12) (by omega) (by omega) (by omega) (by omega)
                  generalize hex17 : x4.toInt * x4.toInt = wx17 at q18
                  refine tr_imul hx hb dX12_within_111 (Eq.refl _) (Eq.refl _) (by rw [hex17]; omega) (by rw [hex17]; omega) (fun x17 ex17 => ?_)
                  rw [hex17] at ex17
                  replace hF := hF.trans (congrArg (dv_k f_X12_within_9b) (dv_bn (hex17.trans ex17.symm)))
                  refine lv_iadd hx hb dX12_within_112 ?_
                  refine lv_topi (fun x19 ex19 => ?_)
                  have lx19 := ti_lo x19; have ux19 := ti_hi x19
                  replace hF := hF.trans (congrArg (dv_k f_X12_within_9b) (dv_bn (dv_add_e (Eq.refl _) (Eq.refl _) ex19)))
                  refine lv_istore (lv' := [(6, .int x19), (8, .int x4), (0, .ref a0), (1, .int p1), (2, .int p2), (3, .int p3), (4, .int p4), (5, .int j9_5), (7, .int j9_7)]) hx hb dX12_within_113 hl (by decide) rfl (fun ls hl => ?_)
                  refine tr_iincE (fun x20 => [(5, .int x20), (6, .int x19), (8, .int x4), (0, .ref a0), (1, .int p1), (2, .int p2), (3, .int p3), (4, .int p4), (7, .int j9_7)]) hx hb dX12_within_115 hl (k := 7) rfl (Eq.refl _) (by decide) (fun _ => rfl) (fun x20 ls ex20 hl => ?_)
                  have lx20 := ti_lo x20; have ux20 := ti_hi x20
                  replace hF := hF.trans (congrArg (dv_k f_X12_within_9b) (dv_bn (ex20)))
                  exact jn118 locs ls x20 x19 hB (lv_sub hl [3, 4, 5, 6, 7, 8, 0, 1] rfl) hF
                · replace hF := hF.trans (congrArg (dv_k f_X12_within_9b) (if_neg (Int.not_le.mpr c99)))
                  refine lv_goto (tgt := 118) hx hb dX12_within_102 (by decide) ?_
                  exact jn118 locs ls j9_5 j9_6 hB (lv_sub hl [1, 2, 3, 4, 5, 8, 6, 7] rfl) hF
  exact lp9 ((2147483648 : Int) - (0)).toNat [] ls 0 0 0 hB (lv_sub hl [3, 4, 5, 6, 7, 2, 1, 0] rfl) (by rw [tk_0]; exact hF) (by decide) (by decide) (by have w0 := tk_0; omega)

set_option maxHeartbeats 4000000 in
set_option maxRecDepth 100000 in
theorem c_X12_inner (l : Launch) (G : th_G) (Γ : th_Ga) (H0 : Heap) (hI : th_I G Γ H0) (hU : dv_U Γ) (a0 : Nat) (h0 : Γ a0 = (46, 0)) : Met l yX12_inner (.code yX12_inner cX12_inner 8 (some FieldType.int) :: th_tb) ({ frames := 2, cells := 0, slots := 0, locals := 49 } : Room) (th_P [.ref a0] G H0) (th_Q (fun (v : Option Value) (H1 : Heap) => ∃ r : Int32, v = some (.int r) ∧ (f_X12_inner (dv G Γ H0) (a0 : Int) = (r.toInt, ())) ∧ H0 = H1) G) 0 0 (fun q => G.2.2 ≤ q) := by
  refine th_met RX12 (by decide) rfl (Nat.le_of_ble_eq_true rfl) ?_
  intro p e s m below meth c hC hH hr hlocks hnm ls hl
  have hx := hC.1
  have hb := hC.2.1
  have hB : th_B G Γ Γ [] H0 H0 [] := ⟨hI, va_S.rf, th_F_rf⟩
  have hl : lv_has ls 8 [(0, .ref a0)] := hl
  obtain ⟨F, hF0⟩ : ∃ F, F = f_X12_inner (dv G Γ H0) ((a0 : Int)) := ⟨_, rfl⟩
  have hF := hF0.trans (f_X12_inner.eq_1 (dv G Γ H0) ((a0 : Int)))
  refine lv_aload_n hx hb dX12_inner_0 rfl (lv_at hl 0 rfl) ?_
  refine th_getO (j := 2) (r2 := 48) hC cf_X12 hB.1 h0 ro_46 rfl rfl kf_X12_28 dX12_inner_1 (fun b1 mb1 hb1 => ?_)
  refine lv_bipush (v := 67) hx hb dX12_inner_4 (by decide) ?_
  refine th_ialdF hC hB.1 hb1 ro_48 rfl tk_67 (by omega) (by omega) (ek_hall (by omega) (by omega)) dX12_inner_6 (fun x2 mx2 lx2 ux2 => ?_)
  replace hF := hF.trans (dv_bn (dv_aldI hB.1 hU hb1 ow_48 (z := 67) mx2 (by omega)))
  refine lv_istore_n (lv' := [(1, .int x2), (0, .ref a0)]) hx hb dX12_inner_7 rfl hl (by decide) rfl (fun ls hl => ?_)
  refine lv_aload_n hx hb dX12_inner_8 rfl (lv_at hl 1 rfl) ?_
  refine th_getK hC cf_X12 hB.1 h0 ro_46 rfl (j := 2) (by decide) mb1 kf_X12_28 dX12_inner_9 ?_
  refine lv_bipush (v := 68) hx hb dX12_inner_12 (by decide) ?_
  refine th_ialdF hC hB.1 hb1 ro_48 rfl tk_68 (by omega) (by omega) (ek_hall (by omega) (by omega)) dX12_inner_14 (fun x3 mx3 lx3 ux3 => ?_)
  replace hF := hF.trans (dv_bn (dv_aldI hB.1 hU hb1 ow_48 (z := 68) mx3 (by omega)))
  refine lv_istore_n (lv' := [(2, .int x3), (1, .int x2), (0, .ref a0)]) hx hb dX12_inner_15 rfl hl (by decide) rfl (fun ls hl => ?_)
  refine lv_iconst (v := 0) hx hb dX12_inner_16 (by decide) ?_
  refine lv_istore_n (lv' := [(3, .int 0), (2, .int x3), (1, .int x2), (0, .ref a0)]) hx hb dX12_inner_17 rfl hl (by decide) rfl (fun ls hl => ?_)
  refine lv_iconst (v := 0) hx hb dX12_inner_18 (by decide) ?_
  refine lv_istore (lv' := [(4, .int 0), (3, .int 0), (2, .int x3), (1, .int x2), (0, .ref a0)]) hx hb dX12_inner_19 hl (by decide) rfl (fun ls hl => ?_)
  have lp21 : ∀ (n21 : Nat) (locs : List Loc) (ls : Array Slot) (j21_3 : Int32) (j21_4 : Int32), th_B G Γ Γ [] H0 H0 locs → lv_has ls 8 [(2, .int x3), (1, .int x2), (0, .ref a0), (3, .int j21_3), (4, .int j21_4)] → F = dv_lp f_X12_inner_21b (dv G Γ H0, x3.toInt, x2.toInt, (a0 : Int), j21_3.toInt, j21_4.toInt) → 0 ≤ j21_4.toInt → j21_4.toInt ≤ 12 → (2147483648 : Int) - j21_4.toInt ≤ (n21 : Int) → W p l e ({ frames := 2, cells := 0, slots := 0, locals := 49 } : Room) s m ([.ref a0] : List Value).toArray below meth c H0 locs 0 0 (MQ below (th_Q (fun (v : Option Value) (H1 : Heap) => ∃ r : Int32, v = some (.int r) ∧ (f_X12_inner (dv G Γ H0) (a0 : Int) = (r.toInt, ())) ∧ H0 = H1) G) ([.ref a0] : List Value).toArray s 0 0 (fun q => G.2.2 ≤ q)) (F0 m 21 ls []) := by
    intro n21
    induction n21 with
    | zero => intro locs ls j21_3 j21_4 hB hl hF g21_0 g21_1 hm21; exact absurd hm21 (by have := ti_hi j21_4; omega)
    | succ n21 ih21 =>
      intro locs ls j21_3 j21_4 hB hl hF g21_0 g21_1 hm21
      have lj21_3 := ti_lo j21_3; have uj21_3 := ti_hi j21_3
      have lj21_4 := ti_lo j21_4; have uj21_4 := ti_hi j21_4
      have hm21 : (2147483648 : Int) - j21_4.toInt ≤ (n21 : Int) + 1 := by omega
      replace hF := hF.trans (dv_lp_eq)
      replace hF := hF.trans (congrArg (dv_k f_X12_inner_21b) (f_X12_inner_21c.eq_1 (dv G Γ H0) (x3.toInt) (x2.toInt) ((a0 : Int)) (j21_3.toInt) (j21_4.toInt)))
      refine lv_iload hx hb dX12_inner_21 (lv_at hl 4 rfl) ?_
      refine lv_iload_n hx hb dX12_inner_23 rfl (lv_at hl 1 rfl) ?_
      refine tr_icmp_ge (tgt := 118) hx hb dX12_inner_24 (by decide) (Eq.refl _) (Eq.refl _) (fun c24 => ?_) (fun c24 => ?_)
      · replace hF := hF.trans (congrArg (dv_k f_X12_inner_21b) (if_pos c24))
        refine lv_iload_n hx hb dX12_inner_118 rfl (lv_at hl 3 rfl) ?_
        refine lv_aload_n hx hb dX12_inner_119 rfl (lv_at hl 2 rfl) ?_
        refine lv_iconst (v := 0) hx hb dX12_inner_120 (by decide) ?_
        refine lv_iconst (v := 0) hx hb dX12_inner_121 (by decide) ?_
        refine lv_iload_n hx hb dX12_inner_122 rfl (lv_at hl 1 rfl) ?_
        refine lv_iload_n hx hb dX12_inner_123 rfl (lv_at hl 0 rfl) ?_
        refine th_call (th_runV (As := [.int 0, .int 0, .int x2, .int x3]) (rest := [.int j21_3]) hC mf_X12_within km_X12_458 im_X12_within se_X12_within (c_X12_within l G Γ H0 hB.1 hU a0 h0 0 0 x2 x3) rfl rfl ⟨Nat.le_of_ble_eq_true rfl, Nat.le_of_ble_eq_true rfl⟩ hB.1 h0 ro_46 rfl rfl hl.1 rfl (Nat.le_of_ble_eq_true rfl) dX12_inner_124 ⟨Nat.le_refl _, Nat.le_refl _⟩) hB.2.1 (fun v124 H124 locs hp hz hS => ?_)
        obtain ⟨x4, rfl, q124_0, rfl⟩ := hp
        have hB := th_B_s hB hS
        have w124_0 := tk_0
        have w124_1 := tk_0
        have zf124 := q124_0
        rw [tk_0] at zf124
        replace hF := hF.trans (congrArg (dv_k f_X12_inner_21b) (dv_bn2 (zf124)))
        refine W.eq (g2 := F0 m 127 ls [.int x4, .int j21_3]) rfl ?_
        refine lv_iload_n hx hb dX12_inner_127 rfl (lv_at hl 1 rfl) ?_
        refine lv_iload_n hx hb dX12_inner_128 rfl (lv_at hl 0 rfl) ?_
        have q6 := ti_mulr (a := x2.toInt) (b := x3.toInt) (A := 12) (B := 12) (by omega) (by omega) (by omega) (by omega)
        generalize hex5 : x2.toInt * x3.toInt = wx5 at q6
        refine tr_imul hx hb dX12_inner_129 (Eq.refl _) (Eq.refl _) (by rw [hex5]; omega) (by rw [hex5]; omega) (fun x5 ex5 => ?_)
        rw [hex5] at ex5
        replace hF := hF.trans (congrArg (dv_k f_X12_inner_21b) (dv_bn (hex5.trans ex5.symm)))
        refine tr_icmp_ne (tgt := 137) hx hb dX12_inner_130 (by decide) (Eq.refl _) (Eq.refl _) (fun c130 => ?_) (fun c130 => ?_)
        · replace hF := hF.trans (congrArg (dv_k f_X12_inner_21b) (if_pos c130))
          refine lv_iconst (v := 0) hx hb dX12_inner_137 (by decide) ?_
          refine tr_isub hx hb dX12_inner_138 (Eq.refl _) tk_0 (by omega) (by omega) (fun x7 ex7 => ?_)
          replace hF := hF.trans (congrArg (dv_k f_X12_inner_21b) (dv_bn (ex7.symm)))
          replace hF := hF.trans (dv_kr)
          exact th_iret hC hH hr hlocks rfl hB.2.1 ⟨_, rfl, (hF0.symm.trans hF), rfl⟩ dX12_inner_139
        · replace hF := hF.trans (congrArg (dv_k f_X12_inner_21b) (if_neg (not_not_intro c130)))
          refine lv_iconst (v := 1) hx hb dX12_inner_133 (by decide) ?_
          refine lv_goto (tgt := 138) hx hb dX12_inner_134 (by decide) ?_
          refine lv_isub hx hb dX12_inner_138 ?_
          refine lv_topi (fun x8 ex8 => ?_)
          have lx8 := ti_lo x8; have ux8 := ti_hi x8
          replace hF := hF.trans (congrArg (dv_k f_X12_inner_21b) (dv_bn (dv_sub_e (Eq.refl _) tk_1 ex8)))
          replace hF := hF.trans (dv_kr)
          exact th_iret hC hH hr hlocks rfl hB.2.1 ⟨_, rfl, (hF0.symm.trans hF), rfl⟩ dX12_inner_139
      · replace hF := hF.trans (congrArg (dv_k f_X12_inner_21b) (if_neg (Int.not_le.mpr c24)))
        refine lv_iload hx hb dX12_inner_27 (lv_at hl 4 rfl) ?_
        refine lv_iconst (v := 1) hx hb dX12_inner_29 (by decide) ?_
        refine tr_iadd hx hb dX12_inner_30 (Eq.refl _) tk_1 (by omega) (by omega) (fun x9 ex9 => ?_)
        replace hF := hF.trans (congrArg (dv_k f_X12_inner_21b) (dv_bn (ex9.symm)))
        refine lv_istore (lv' := [(5, .int x9), (2, .int x3), (1, .int x2), (0, .ref a0), (3, .int j21_3), (4, .int j21_4)]) hx hb dX12_inner_31 hl (by decide) rfl (fun ls hl => ?_)
        have lp33 : ∀ (n33 : Nat) (locs : List Loc) (ls : Array Slot) (j33_3 : Int32) (j33_5 : Int32), th_B G Γ Γ [] H0 H0 locs → lv_has ls 8 [(2, .int x3), (1, .int x2), (0, .ref a0), (4, .int j21_4), (3, .int j33_3), (5, .int j33_5)] → F = dv_k f_X12_inner_21b (dv_lp f_X12_inner_33b (dv G Γ H0, x3.toInt, x2.toInt, (a0 : Int), j21_4.toInt, j33_3.toInt, j33_5.toInt)) → 1 ≤ j33_5.toInt → j33_5.toInt ≤ 15 → (2147483648 : Int) - j33_5.toInt ≤ (n33 : Int) → W p l e ({ frames := 2, cells := 0, slots := 0, locals := 49 } : Room) s m ([.ref a0] : List Value).toArray below meth c H0 locs 0 0 (MQ below (th_Q (fun (v : Option Value) (H1 : Heap) => ∃ r : Int32, v = some (.int r) ∧ (f_X12_inner (dv G Γ H0) (a0 : Int) = (r.toInt, ())) ∧ H0 = H1) G) ([.ref a0] : List Value).toArray s 0 0 (fun q => G.2.2 ≤ q)) (F0 m 33 ls []) := by
          intro n33
          induction n33 with
          | zero => intro locs ls j33_3 j33_5 hB hl hF g33_0 g33_1 hm33; exact absurd hm33 (by have := ti_hi j33_5; omega)
          | succ n33 ih33 =>
            intro locs ls j33_3 j33_5 hB hl hF g33_0 g33_1 hm33
            have lj33_3 := ti_lo j33_3; have uj33_3 := ti_hi j33_3
            have lj33_5 := ti_lo j33_5; have uj33_5 := ti_hi j33_5
            have hm33 : (2147483648 : Int) - j33_5.toInt ≤ (n33 : Int) + 1 := by omega
            replace hF := hF.trans (congrArg (dv_k f_X12_inner_21b) (dv_lp_eq))
            replace hF := hF.trans (congrArg (dv_k f_X12_inner_21b) (congrArg (dv_k f_X12_inner_33b) (f_X12_inner_33c.eq_1 (dv G Γ H0) (x3.toInt) (x2.toInt) ((a0 : Int)) (j21_4.toInt) (j33_3.toInt) (j33_5.toInt))))
            refine lv_iload hx hb dX12_inner_33 (lv_at hl 5 rfl) ?_
            refine lv_iload_n hx hb dX12_inner_35 rfl (lv_at hl 1 rfl) ?_
            refine tr_icmp_gt (tgt := 112) hx hb dX12_inner_36 (by decide) (Eq.refl _) (Eq.refl _) (fun c36 => ?_) (fun c36 => ?_)
            · replace hF := hF.trans (congrArg (dv_k f_X12_inner_21b) (congrArg (dv_k f_X12_inner_33b) (if_pos c36)))
              refine tr_iinc (fun x10 => [(4, .int x10), (2, .int x3), (1, .int x2), (0, .ref a0), (3, .int j33_3), (5, .int j33_5)]) hx hb dX12_inner_112 hl (k := 3) rfl (Eq.refl _) tk_1 (by omega) (by omega) (by decide) (fun _ => rfl) (fun x10 ls ex10 hl => ?_)
              replace hF := hF.trans (congrArg (dv_k f_X12_inner_21b) (congrArg (dv_k f_X12_inner_33b) (dv_bn (ex10.symm))))
              refine lv_goto (tgt := 21) hx hb dX12_inner_115 (by decide) ?_
              replace hF := hF.trans (congrArg (dv_k f_X12_inner_21b) (dv_kr))
              replace hF := hF.trans (dv_kl)
              exact ih21 locs ls j33_3 x10 hB (lv_sub hl [1, 2, 3, 4, 0] rfl) hF (by omega) (by omega) (by omega)
            · replace hF := hF.trans (congrArg (dv_k f_X12_inner_21b) (congrArg (dv_k f_X12_inner_33b) (if_neg (Int.not_lt.mpr c36))))
              refine lv_iconst (v := 0) hx hb dX12_inner_39 (by decide) ?_
              refine lv_istore (lv' := [(6, .int 0), (2, .int x3), (1, .int x2), (0, .ref a0), (4, .int j21_4), (3, .int j33_3), (5, .int j33_5)]) hx hb dX12_inner_40 hl (by decide) rfl (fun ls hl => ?_)
              have lp42 : ∀ (n42 : Nat) (locs : List Loc) (ls : Array Slot) (j42_3 : Int32) (j42_6 : Int32), th_B G Γ Γ [] H0 H0 locs → lv_has ls 8 [(2, .int x3), (1, .int x2), (0, .ref a0), (4, .int j21_4), (5, .int j33_5), (3, .int j42_3), (6, .int j42_6)] → F = dv_k f_X12_inner_21b (dv_k f_X12_inner_33b (dv_lp f_X12_inner_42b (dv G Γ H0, x3.toInt, x2.toInt, (a0 : Int), j21_4.toInt, j33_5.toInt, j42_3.toInt, j42_6.toInt))) → 0 ≤ j42_6.toInt → j42_6.toInt ≤ 12 → (2147483648 : Int) - j42_6.toInt ≤ (n42 : Int) → W p l e ({ frames := 2, cells := 0, slots := 0, locals := 49 } : Room) s m ([.ref a0] : List Value).toArray below meth c H0 locs 0 0 (MQ below (th_Q (fun (v : Option Value) (H1 : Heap) => ∃ r : Int32, v = some (.int r) ∧ (f_X12_inner (dv G Γ H0) (a0 : Int) = (r.toInt, ())) ∧ H0 = H1) G) ([.ref a0] : List Value).toArray s 0 0 (fun q => G.2.2 ≤ q)) (F0 m 42 ls []) := by
                intro n42
                induction n42 with
                | zero => intro locs ls j42_3 j42_6 hB hl hF g42_0 g42_1 hm42; exact absurd hm42 (by have := ti_hi j42_6; omega)
                | succ n42 ih42 =>
                  intro locs ls j42_3 j42_6 hB hl hF g42_0 g42_1 hm42
                  have lj42_3 := ti_lo j42_3; have uj42_3 := ti_hi j42_3
                  have lj42_6 := ti_lo j42_6; have uj42_6 := ti_hi j42_6
                  have hm42 : (2147483648 : Int) - j42_6.toInt ≤ (n42 : Int) + 1 := by omega
                  replace hF := hF.trans (congrArg (dv_k f_X12_inner_21b) (congrArg (dv_k f_X12_inner_33b) (dv_lp_eq)))
                  replace hF := hF.trans (congrArg (dv_k f_X12_inner_21b) (congrArg (dv_k f_X12_inner_33b) (congrArg (dv_k f_X12_inner_42b) (f_X12_inner_42c.eq_1 (dv G Γ H0) (x3.toInt) (x2.toInt) ((a0 : Int)) (j21_4.toInt) (j33_5.toInt) (j42_3.toInt) (j42_6.toInt)))))
                  refine lv_iload hx hb dX12_inner_42 (lv_at hl 6 rfl) ?_
                  refine lv_iload_n hx hb dX12_inner_44 rfl (lv_at hl 0 rfl) ?_
                  refine tr_icmp_ge (tgt := 106) hx hb dX12_inner_45 (by decide) (Eq.refl _) (Eq.refl _) (fun c45 => ?_) (fun c45 => ?_)
                  · replace hF := hF.trans (congrArg (dv_k f_X12_inner_21b) (congrArg (dv_k f_X12_inner_33b) (congrArg (dv_k f_X12_inner_42b) (if_pos c45))))
                    refine tr_iinc (fun x11 => [(5, .int x11), (2, .int x3), (1, .int x2), (0, .ref a0), (4, .int j21_4), (3, .int j42_3), (6, .int j42_6)]) hx hb dX12_inner_106 hl (k := 4) rfl (Eq.refl _) tk_1 (by omega) (by omega) (by decide) (fun _ => rfl) (fun x11 ls ex11 hl => ?_)
                    replace hF := hF.trans (congrArg (dv_k f_X12_inner_21b) (congrArg (dv_k f_X12_inner_33b) (congrArg (dv_k f_X12_inner_42b) (dv_bn (ex11.symm)))))
                    refine lv_goto (tgt := 33) hx hb dX12_inner_109 (by decide) ?_
                    replace hF := hF.trans (congrArg (dv_k f_X12_inner_21b) (congrArg (dv_k f_X12_inner_33b) (dv_kr)))
                    replace hF := hF.trans (congrArg (dv_k f_X12_inner_21b) (dv_kl))
                    exact ih33 locs ls j42_3 x11 hB (lv_sub hl [1, 2, 3, 4, 5, 0] rfl) hF (by omega) (by omega) (by omega)
                  · replace hF := hF.trans (congrArg (dv_k f_X12_inner_21b) (congrArg (dv_k f_X12_inner_33b) (congrArg (dv_k f_X12_inner_42b) (if_neg (Int.not_le.mpr c45)))))
                    refine lv_iload hx hb dX12_inner_48 (lv_at hl 6 rfl) ?_
                    refine lv_iconst (v := 1) hx hb dX12_inner_50 (by decide) ?_
                    refine tr_iadd hx hb dX12_inner_51 (Eq.refl _) tk_1 (by omega) (by omega) (fun x12 ex12 => ?_)
                    replace hF := hF.trans (congrArg (dv_k f_X12_inner_21b) (congrArg (dv_k f_X12_inner_33b) (congrArg (dv_k f_X12_inner_42b) (dv_bn (ex12.symm)))))
                    refine lv_istore (lv' := [(7, .int x12), (2, .int x3), (1, .int x2), (0, .ref a0), (4, .int j21_4), (5, .int j33_5), (3, .int j42_3), (6, .int j42_6)]) hx hb dX12_inner_52 hl (by decide) rfl (fun ls hl => ?_)
                    have lp54 : ∀ (n54 : Nat) (locs : List Loc) (ls : Array Slot) (j54_3 : Int32) (j54_7 : Int32), th_B G Γ Γ [] H0 H0 locs → lv_has ls 8 [(2, .int x3), (1, .int x2), (0, .ref a0), (4, .int j21_4), (5, .int j33_5), (6, .int j42_6), (3, .int j54_3), (7, .int j54_7)] → F = dv_k f_X12_inner_21b (dv_k f_X12_inner_33b (dv_k f_X12_inner_42b (dv_lp f_X12_inner_54b (dv G Γ H0, x3.toInt, x2.toInt, (a0 : Int), j21_4.toInt, j33_5.toInt, j42_6.toInt, j54_3.toInt, j54_7.toInt)))) → 1 ≤ j54_7.toInt → j54_7.toInt ≤ 15 → (2147483648 : Int) - j54_7.toInt ≤ (n54 : Int) → W p l e ({ frames := 2, cells := 0, slots := 0, locals := 49 } : Room) s m ([.ref a0] : List Value).toArray below meth c H0 locs 0 0 (MQ below (th_Q (fun (v : Option Value) (H1 : Heap) => ∃ r : Int32, v = some (.int r) ∧ (f_X12_inner (dv G Γ H0) (a0 : Int) = (r.toInt, ())) ∧ H0 = H1) G) ([.ref a0] : List Value).toArray s 0 0 (fun q => G.2.2 ≤ q)) (F0 m 54 ls []) := by
                      intro n54
                      induction n54 with
                      | zero => intro locs ls j54_3 j54_7 hB hl hF g54_0 g54_1 hm54; exact absurd hm54 (by have := ti_hi j54_7; omega)
                      | succ n54 ih54 =>
                        intro locs ls j54_3 j54_7 hB hl hF g54_0 g54_1 hm54
                        have lj54_3 := ti_lo j54_3; have uj54_3 := ti_hi j54_3
                        have lj54_7 := ti_lo j54_7; have uj54_7 := ti_hi j54_7
                        have hm54 : (2147483648 : Int) - j54_7.toInt ≤ (n54 : Int) + 1 := by omega
                        replace hF := hF.trans (congrArg (dv_k f_X12_inner_21b) (congrArg (dv_k f_X12_inner_33b) (congrArg (dv_k f_X12_inner_42b) (dv_lp_eq))))
                        replace hF := hF.trans (congrArg (dv_k f_X12_inner_21b) (congrArg (dv_k f_X12_inner_33b) (congrArg (dv_k f_X12_inner_42b) (congrArg (dv_k f_X12_inner_54b) (f_X12_inner_54c.eq_1 (dv G Γ H0) (x3.toInt) (x2.toInt) ((a0 : Int)) (j21_4.toInt) (j33_5.toInt) (j42_6.toInt) (j54_3.toInt) (j54_7.toInt))))))
                        refine lv_iload hx hb dX12_inner_54 (lv_at hl 7 rfl) ?_
                        refine lv_iload_n hx hb dX12_inner_56 rfl (lv_at hl 0 rfl) ?_
                        refine tr_icmp_gt (tgt := 100) hx hb dX12_inner_57 (by decide) (Eq.refl _) (Eq.refl _) (fun c57 => ?_) (fun c57 => ?_)
                        · replace hF := hF.trans (congrArg (dv_k f_X12_inner_21b) (congrArg (dv_k f_X12_inner_33b) (congrArg (dv_k f_X12_inner_42b) (congrArg (dv_k f_X12_inner_54b) (if_pos c57)))))
                          refine tr_iinc (fun x13 => [(6, .int x13), (2, .int x3), (1, .int x2), (0, .ref a0), (4, .int j21_4), (5, .int j33_5), (3, .int j54_3), (7, .int j54_7)]) hx hb dX12_inner_100 hl (k := 5) rfl (Eq.refl _) tk_1 (by omega) (by omega) (by decide) (fun _ => rfl) (fun x13 ls ex13 hl => ?_)
                          replace hF := hF.trans (congrArg (dv_k f_X12_inner_21b) (congrArg (dv_k f_X12_inner_33b) (congrArg (dv_k f_X12_inner_42b) (congrArg (dv_k f_X12_inner_54b) (dv_bn (ex13.symm))))))
                          refine lv_goto (tgt := 42) hx hb dX12_inner_103 (by decide) ?_
                          replace hF := hF.trans (congrArg (dv_k f_X12_inner_21b) (congrArg (dv_k f_X12_inner_33b) (congrArg (dv_k f_X12_inner_42b) (dv_kr))))
                          replace hF := hF.trans (congrArg (dv_k f_X12_inner_21b) (congrArg (dv_k f_X12_inner_33b) (dv_kl)))
                          exact ih42 locs ls j54_3 x13 hB (lv_sub hl [1, 2, 3, 4, 5, 6, 0] rfl) hF (by omega) (by omega) (by omega)
                        · replace hF := hF.trans (congrArg (dv_k f_X12_inner_21b) (congrArg (dv_k f_X12_inner_33b) (congrArg (dv_k f_X12_inner_42b) (congrArg (dv_k f_X12_inner_54b) (if_neg (Int.not_lt.mpr c57))))))
                          refine lv_iload_n hx hb dX12_inner_60 rfl (lv_at hl 6 rfl) ?_
                          refine lv_aload_n hx hb dX12_inner_61 rfl (lv_at hl 2 rfl) ?_
                          refine lv_iload hx hb dX12_inner_62 (lv_at hl 3 rfl) ?_
                          refine lv_iload hx hb dX12_inner_64 (lv_at hl 5 rfl) ?_
                          refine lv_iload hx hb dX12_inner_66 (lv_at hl 4 rfl) ?_
                          refine lv_iload hx hb dX12_inner_68 (lv_at hl 7 rfl) ?_
                          refine th_call (th_runV (As := [.int j21_4, .int j42_6, .int j33_5, .int j54_7]) (rest := [.int j54_3]) hC mf_X12_within km_X12_458 im_X12_within se_X12_within (c_X12_within l G Γ H0 hB.1 hU a0 h0 j21_4 j42_6 j33_5 j54_7) rfl rfl ⟨Nat.le_of_ble_eq_true rfl, Nat.le_of_ble_eq_true rfl⟩ hB.1 h0 ro_46 rfl rfl hl.1 rfl (Nat.le_of_ble_eq_true rfl) dX12_inner_70 ⟨Nat.le_refl _, Nat.le_refl _⟩) hB.2.1 (fun v70 H70 locs hp hz hS => ?_)
                          obtain ⟨x14, rfl, q70_0, rfl⟩ := hp
                          have hB := th_B_s hB hS
                          replace hF := hF.trans (congrArg (dv_k f_X12_inner_21b) (congrArg (dv_k f_X12_inner_33b) (congrArg (dv_k f_X12_inner_42b) (congrArg (dv_k f_X12_inner_54b) (dv_bn2 (q70_0))))))
                          refine W.eq (g2 := F0 m 73 ls [.int x14, .int j54_3]) rfl ?_
                          refine lv_iload hx hb dX12_inner_73 (lv_at hl 4 rfl) ?_
                          refine lv_iload hx hb dX12_inner_75 (lv_at hl 3 rfl) ?_
                          refine tr_isub hx hb dX12_inner_77 (Eq.refl _) (Eq.refl _) (by omega) (by omega) (fun x15 ex15 => ?_)
                          replace hF := hF.trans (congrArg (dv_k f_X12_inner_21b) (congrArg (dv_k f_X12_inner_33b) (congrArg (dv_k f_X12_inner_42b) (congrArg (dv_k f_X12_inner_54b) (dv_bn (ex15.symm))))))
                          refine lv_iload hx hb dX12_inner_78 (lv_at hl 7 rfl) ?_
                          refine lv_iload hx hb dX12_inner_80 (lv_at hl 5 rfl) ?_
                          refine tr_isub hx hb dX12_inner_82 (Eq.refl _) (Eq.refl _) (by omega) (by omega) (fun x16 ex16 => ?_)
                          replace hF := hF.trans (congrArg (dv_k f_X12_inner_21b) (congrArg (dv_k f_X12_inner_33b) (congrArg (dv_k f_X12_inner_42b) (congrArg (dv_k f_X12_inner_54b) (dv_bn (ex16.symm))))))
                          refine lv_imul hx hb dX12_inner_83 ?_
                          refine lv_topi (fun x17 ex17 => ?_)
                          have lx17 := ti_lo x17; have ux17 := ti_hi x17
                          replace hF := hF.trans (congrArg (dv_k f_X12_inner_21b) (congrArg (dv_k f_X12_inner_33b) (congrArg (dv_k f_X12_inner_42b) (congrArg (dv_k f_X12_inner_54b) (dv_bn (dv_mul_e (Eq.refl _) (Eq.refl _) ex17))))))
                          have jn92 : ∀ (locs : List Loc) (ls : Array Slot) (s92_1 : Int32), th_B G Γ Γ [] H0 H0 locs → lv_has ls 8 [(2, .int x3), (1, .int x2), (0, .ref a0), (4, .int j21_4), (5, .int j33_5), (6, .int j42_6), (7, .int j54_7)] → F = dv_k f_X12_inner_21b (dv_k f_X12_inner_33b (dv_k f_X12_inner_42b (dv_k f_X12_inner_54b (f_X12_inner_92 (dv G Γ H0) (x3.toInt) (x2.toInt) ((a0 : Int)) (j21_4.toInt) (j33_5.toInt) (j42_6.toInt) (j54_7.toInt) (j54_3.toInt) (s92_1.toInt))))) → 0 ≤ s92_1.toInt → s92_1.toInt ≤ 1 → W p l e ({ frames := 2, cells := 0, slots := 0, locals := 49 } : Room) s m ([.ref a0] : List Value).toArray below meth c H0 locs 0 0 (MQ below (th_Q (fun (v : Option Value) (H1 : Heap) => ∃ r : Int32, v = some (.int r) ∧ (f_X12_inner (dv G Γ H0) (a0 : Int) = (r.toInt, ())) ∧ H0 = H1) G) ([.ref a0] : List Value).toArray s 0 0 (fun q => G.2.2 ≤ q)) (F0 m 92 ls [.int s92_1, .int j54_3]) := by
                            intro locs ls s92_1 hB hl hF g92_0 g92_1
                            have ls92_1 := ti_lo s92_1; have us92_1 := ti_hi s92_1
                            replace hF := hF.trans (congrArg (dv_k f_X12_inner_21b) (congrArg (dv_k f_X12_inner_33b) (congrArg (dv_k f_X12_inner_42b) (congrArg (dv_k f_X12_inner_54b) (f_X12_inner_92.eq_1 (dv G Γ H0) (x3.toInt) (x2.toInt) ((a0 : Int)) (j21_4.toInt) (j33_5.toInt) (j42_6.toInt) (j54_7.toInt) (j54_3.toInt) (s92_1.toInt))))))
                            refine lv_iadd hx hb dX12_inner_92 ?_
                            refine lv_topi (fun x18 ex18 => ?_)
                            have lx18 := ti_lo x18; have ux18 := ti_hi x18
                            replace hF := hF.trans (congrArg (dv_k f_X12_inner_21b) (congrArg (dv_k f_X12_inner_33b) (congrArg (dv_k f_X12_inner_42b) (congrArg (dv_k f_X12_inner_54b) (dv_bn (dv_add_e (Eq.refl _) (Eq.refl _) ex18))))))
                            refine lv_istore_n (lv' := [(3, .int x18), (2, .int x3), (1, .int x2), (0, .ref a0), (4, .int j21_4), (5, .int j33_5), (6, .int j42_6), (7, .int j54_7)]) hx hb dX12_inner_93 rfl hl (by decide) rfl (fun ls hl => ?_)
                            refine tr_iinc (fun x19 => [(7, .int x19), (3, .int x18), (2, .int x3), (1, .int x2), (0, .ref a0), (4, .int j21_4), (5, .int j33_5), (6, .int j42_6)]) hx hb dX12_inner_94 hl (k := 7) rfl (Eq.refl _) tk_1 (by omega) (by omega) (by decide) (fun _ => rfl) (fun x19 ls ex19 hl => ?_)
                            replace hF := hF.trans (congrArg (dv_k f_X12_inner_21b) (congrArg (dv_k f_X12_inner_33b) (congrArg (dv_k f_X12_inner_42b) (congrArg (dv_k f_X12_inner_54b) (dv_bn (ex19.symm))))))
                            refine lv_goto (tgt := 54) hx hb dX12_inner_97 (by decide) ?_
                            replace hF := hF.trans (congrArg (dv_k f_X12_inner_21b) (congrArg (dv_k f_X12_inner_33b) (congrArg (dv_k f_X12_inner_42b) (dv_kl))))
                            exact ih54 locs ls x18 x19 hB (lv_sub hl [2, 3, 4, 5, 6, 7, 1, 0] rfl) hF (by omega) (by omega) (by omega)
                          refine tr_icmp_ne (tgt := 91) hx hb dX12_inner_84 (by decide) (Eq.refl _) (Eq.refl _) (fun c84 => ?_) (fun c84 => ?_)
                          · replace hF := hF.trans (congrArg (dv_k f_X12_inner_21b) (congrArg (dv_k f_X12_inner_33b) (congrArg (dv_k f_X12_inner_42b) (congrArg (dv_k f_X12_inner_54b) (if_pos c84)))))
                            refine lv_iconst (v := 0) hx hb dX12_inner_91 (by decide) ?_
                            exact jn92 locs ls 0 hB (lv_sub hl [0, 1, 2, 3, 4, 5, 7] rfl) (by rw [tk_0]; exact hF) (by decide) (by decide)
                          · replace hF := hF.trans (congrArg (dv_k f_X12_inner_21b) (congrArg (dv_k f_X12_inner_33b) (congrArg (dv_k f_X12_inner_42b) (congrArg (dv_k f_X12_inner_54b) (if_neg (not_not_intro c84))))))
                            refine lv_iconst (v := 1) hx hb dX12_inner_87 (by decide) ?_
                            refine lv_goto (tgt := 92) hx hb dX12_inner_88 (by decide) ?_
                            exact jn92 locs ls 1 hB (lv_sub hl [0, 1, 2, 3, 4, 5, 7] rfl) (by rw [tk_1]; exact hF) (by decide) (by decide)
                    exact lp54 ((2147483648 : Int) - (x12.toInt)).toNat locs ls j42_3 x12 hB (lv_sub hl [1, 2, 3, 4, 5, 7, 6, 0] rfl) hF (by omega) (by omega) (by omega)
              exact lp42 ((2147483648 : Int) - (0)).toNat locs ls j33_3 0 hB (lv_sub hl [1, 2, 3, 4, 6, 5, 0] rfl) (by rw [tk_0]; exact hF) (by decide) (by decide) (by have w0 := tk_0; omega)
        exact lp33 ((2147483648 : Int) - (x9.toInt)).toNat locs ls j21_3 x9 hB (lv_sub hl [1, 2, 3, 5, 4, 0] rfl) hF (by omega) (by omega) (by omega)
  exact lp21 ((2147483648 : Int) - (0)).toNat [] ls 0 0 hB (lv_sub hl [2, 3, 4, 1, 0] rfl) (by rw [tk_0]; exact hF) (by decide) (by decide) (by have w0 := tk_0; omega)

set_option maxHeartbeats 4000000 in
set_option maxRecDepth 100000 in
theorem c_X12_isCross (l : Launch) (G : th_G) (Γ : th_Ga) (H0 : Heap) (hI : th_I G Γ H0) (hU : dv_U Γ) (a0 : Nat) (h0 : Γ a0 = (46, 0)) (p1 : Int32) (p2 : Int32) : Met l yX12_isCross (.code yX12_isCross cX12_isCross 8 (some FieldType.boolean) :: th_tb) ({ frames := 3, cells := 0, slots := 0, locals := 69 } : Room) (th_P [.ref a0, .int p1, .int p2] G H0) (th_Q (fun (v : Option Value) (H1 : Heap) => ∃ r : Int32, v = some (.int r) ∧ 0 ≤ r.toInt ∧ r.toInt ≤ 1 ∧ (f_X12_isCross (dv G Γ H0) (a0 : Int) p1.toInt p2.toInt = (r.toInt, ())) ∧ H0 = H1) G) 0 0 (fun q => G.2.2 ≤ q) := by
  refine th_met RX12 (by decide) rfl (Nat.le_of_ble_eq_true rfl) ?_
  intro p e s m below meth c hC hH hr hlocks hnm ls hl
  have hx := hC.1
  have hb := hC.2.1
  have hB : th_B G Γ Γ [] H0 H0 [] := ⟨hI, va_S.rf, th_F_rf⟩
  have hl : lv_has ls 8 [(0, .ref a0), (1, .int p1), (2, .int p2)] := hl
  have lp1 := ti_lo p1; have up1 := ti_hi p1
  have lp2 := ti_lo p2; have up2 := ti_hi p2
  obtain ⟨F, hF0⟩ : ∃ F, F = f_X12_isCross (dv G Γ H0) ((a0 : Int)) (p1.toInt) (p2.toInt) := ⟨_, rfl⟩
  have hF := hF0.trans (f_X12_isCross.eq_1 (dv G Γ H0) ((a0 : Int)) (p1.toInt) (p2.toInt))
  refine lv_aload_n hx hb dX12_isCross_0 rfl (lv_at hl 0 rfl) ?_
  refine lv_iload_n hx hb dX12_isCross_1 rfl (lv_at hl 1 rfl) ?_
  refine lv_iconst (v := 1) hx hb dX12_isCross_2 (by decide) ?_
  refine lv_isub hx hb dX12_isCross_3 ?_
  refine lv_topi (fun x1 ex1 => ?_)
  have lx1 := ti_lo x1; have ux1 := ti_hi x1
  replace hF := hF.trans (dv_bn (dv_sub_e (Eq.refl _) tk_1 ex1))
  refine lv_iload_n hx hb dX12_isCross_4 rfl (lv_at hl 2 rfl) ?_
  refine lv_iconst (v := 1) hx hb dX12_isCross_5 (by decide) ?_
  refine lv_isub hx hb dX12_isCross_6 ?_
  refine lv_topi (fun x2 ex2 => ?_)
  have lx2 := ti_lo x2; have ux2 := ti_hi x2
  replace hF := hF.trans (dv_bn (dv_sub_e (Eq.refl _) tk_1 ex2))
  refine th_call (th_runV (As := [.int x1, .int x2]) (rest := []) hC mf_X12_at km_X12_394 im_X12_at se_X12_at (c_X12_at l G Γ H0 hB.1 hU a0 h0 x1 x2) rfl rfl ⟨Nat.le_of_ble_eq_true rfl, Nat.le_of_ble_eq_true rfl⟩ hB.1 h0 ro_46 rfl rfl hl.1 rfl (Nat.le_of_ble_eq_true rfl) dX12_isCross_7 ⟨Nat.le_refl _, Nat.le_refl _⟩) hB.2.1 (fun v7 H7 locs hp hz hS => ?_)
  obtain ⟨x3, rfl, lx3, ux3, q7_0, rfl⟩ := hp
  have hB := th_B_s hB hS
  replace hF := hF.trans (dv_bn2 (q7_0))
  refine W.eq (g2 := F0 m 10 ls [.int x3]) rfl ?_
  refine lv_istore_n (lv' := [(3, .int x3), (0, .ref a0), (1, .int p1), (2, .int p2)]) hx hb dX12_isCross_10 rfl hl (by decide) rfl (fun ls hl => ?_)
  refine lv_aload_n hx hb dX12_isCross_11 rfl (lv_at hl 1 rfl) ?_
  refine lv_iload_n hx hb dX12_isCross_12 rfl (lv_at hl 2 rfl) ?_
  refine lv_iload_n hx hb dX12_isCross_13 rfl (lv_at hl 3 rfl) ?_
  refine lv_iconst (v := 1) hx hb dX12_isCross_14 (by decide) ?_
  refine lv_isub hx hb dX12_isCross_15 ?_
  refine lv_topi (fun x4 ex4 => ?_)
  have lx4 := ti_lo x4; have ux4 := ti_hi x4
  replace hF := hF.trans (dv_bn (dv_sub_e (Eq.refl _) tk_1 ex4))
  refine th_call (th_runV (As := [.int p1, .int x4]) (rest := []) hC mf_X12_at km_X12_394 im_X12_at se_X12_at (c_X12_at l G Γ H0 hB.1 hU a0 h0 p1 x4) rfl rfl ⟨Nat.le_of_ble_eq_true rfl, Nat.le_of_ble_eq_true rfl⟩ hB.1 h0 ro_46 rfl rfl hl.1 rfl (Nat.le_of_ble_eq_true rfl) dX12_isCross_16 ⟨Nat.le_refl _, Nat.le_refl _⟩) hB.2.1 (fun v16 H16 locs hp hz hS => ?_)
  obtain ⟨x5, rfl, lx5, ux5, q16_0, rfl⟩ := hp
  have hB := th_B_s hB hS
  replace hF := hF.trans (dv_bn2 (q16_0))
  refine W.eq (g2 := F0 m 19 ls [.int x5]) rfl ?_
  refine lv_istore (lv' := [(4, .int x5), (3, .int x3), (0, .ref a0), (1, .int p1), (2, .int p2)]) hx hb dX12_isCross_19 hl (by decide) rfl (fun ls hl => ?_)
  refine lv_aload_n hx hb dX12_isCross_21 rfl (lv_at hl 2 rfl) ?_
  refine lv_iload_n hx hb dX12_isCross_22 rfl (lv_at hl 3 rfl) ?_
  refine lv_iconst (v := 1) hx hb dX12_isCross_23 (by decide) ?_
  refine lv_isub hx hb dX12_isCross_24 ?_
  refine lv_topi (fun x6 ex6 => ?_)
  have lx6 := ti_lo x6; have ux6 := ti_hi x6
  replace hF := hF.trans (dv_bn (dv_sub_e (Eq.refl _) tk_1 ex6))
  refine lv_iload_n hx hb dX12_isCross_25 rfl (lv_at hl 4 rfl) ?_
  refine th_call (th_runV (As := [.int x6, .int p2]) (rest := []) hC mf_X12_at km_X12_394 im_X12_at se_X12_at (c_X12_at l G Γ H0 hB.1 hU a0 h0 x6 p2) rfl rfl ⟨Nat.le_of_ble_eq_true rfl, Nat.le_of_ble_eq_true rfl⟩ hB.1 h0 ro_46 rfl rfl hl.1 rfl (Nat.le_of_ble_eq_true rfl) dX12_isCross_26 ⟨Nat.le_refl _, Nat.le_refl _⟩) hB.2.1 (fun v26 H26 locs hp hz hS => ?_)
  obtain ⟨x7, rfl, lx7, ux7, q26_0, rfl⟩ := hp
  have hB := th_B_s hB hS
  replace hF := hF.trans (dv_bn2 (q26_0))
  refine W.eq (g2 := F0 m 29 ls [.int x7]) rfl ?_
  refine lv_istore (lv' := [(5, .int x7), (4, .int x5), (3, .int x3), (0, .ref a0), (1, .int p1), (2, .int p2)]) hx hb dX12_isCross_29 hl (by decide) rfl (fun ls hl => ?_)
  refine lv_aload_n hx hb dX12_isCross_31 rfl (lv_at hl 3 rfl) ?_
  refine lv_iload_n hx hb dX12_isCross_32 rfl (lv_at hl 4 rfl) ?_
  refine lv_iload_n hx hb dX12_isCross_33 rfl (lv_at hl 5 rfl) ?_
  refine th_call (th_runV (As := [.int p1, .int p2]) (rest := []) hC mf_X12_at km_X12_394 im_X12_at se_X12_at (c_X12_at l G Γ H0 hB.1 hU a0 h0 p1 p2) rfl rfl ⟨Nat.le_of_ble_eq_true rfl, Nat.le_of_ble_eq_true rfl⟩ hB.1 h0 ro_46 rfl rfl hl.1 rfl (Nat.le_of_ble_eq_true rfl) dX12_isCross_34 ⟨Nat.le_refl _, Nat.le_refl _⟩) hB.2.1 (fun v34 H34 locs hp hz hS => ?_)
  obtain ⟨x8, rfl, lx8, ux8, q34_0, rfl⟩ := hp
  have hB := th_B_s hB hS
  replace hF := hF.trans (dv_bn2 (q34_0))
  refine W.eq (g2 := F0 m 37 ls [.int x8]) rfl ?_
  refine lv_istore (lv' := [(6, .int x8), (5, .int x7), (4, .int x5), (3, .int x3), (0, .ref a0), (1, .int p1), (2, .int p2)]) hx hb dX12_isCross_37 hl (by decide) rfl (fun ls hl => ?_)
  refine lv_iload_n hx hb dX12_isCross_39 rfl (lv_at hl 3 rfl) ?_
  refine lv_iconst (v := (-1)) hx hb dX12_isCross_40 (by decide) ?_
  have jn67 : ∀ (locs : List Loc) (ls : Array Slot) (s67_0 : Int32), th_B G Γ Γ [] H0 H0 locs → lv_has ls 8 [(6, .int x8), (5, .int x7), (4, .int x5), (3, .int x3)] → F = f_X12_isCross_67 (dv G Γ H0) (x8.toInt) (x7.toInt) (x5.toInt) (x3.toInt) (s67_0.toInt) → 0 ≤ s67_0.toInt → s67_0.toInt ≤ 1 → W p l e ({ frames := 3, cells := 0, slots := 0, locals := 69 } : Room) s m ([.ref a0, .int p1, .int p2] : List Value).toArray below meth c H0 locs 0 0 (MQ below (th_Q (fun (v : Option Value) (H1 : Heap) => ∃ r : Int32, v = some (.int r) ∧ 0 ≤ r.toInt ∧ r.toInt ≤ 1 ∧ (f_X12_isCross (dv G Γ H0) (a0 : Int) p1.toInt p2.toInt = (r.toInt, ())) ∧ H0 = H1) G) ([.ref a0, .int p1, .int p2] : List Value).toArray s 0 0 (fun q => G.2.2 ≤ q)) (F0 m 67 ls [.int s67_0]) := by
    intro locs ls s67_0 hB hl hF g67_0 g67_1
    have ls67_0 := ti_lo s67_0; have us67_0 := ti_hi s67_0
    replace hF := hF.trans (f_X12_isCross_67.eq_1 (dv G Γ H0) (x8.toInt) (x7.toInt) (x5.toInt) (x3.toInt) (s67_0.toInt))
    refine lv_istore (lv' := [(7, .int s67_0), (6, .int x8), (5, .int x7), (4, .int x5), (3, .int x3)]) hx hb dX12_isCross_67 hl (by decide) rfl (fun ls hl => ?_)
    refine lv_iload hx hb dX12_isCross_69 (lv_at hl 0 rfl) ?_
    refine tr_if_eq (tgt := 117) hx hb dX12_isCross_71 (by decide) (Eq.refl _) (fun c71 => ?_) (fun c71 => ?_)
    · replace hF := hF.trans (if_pos c71)
      refine lv_iconst (v := 0) hx hb dX12_isCross_117 (by decide) ?_
      exact th_iret hC hH hr hlocks narrow_b0 hB.2.1 ⟨_, rfl, by decide, by decide, (hF0.symm.trans (hF.trans (by rw [tk_0]))), rfl⟩ dX12_isCross_118
    · replace hF := hF.trans (if_neg c71)
      refine lv_iload_n hx hb dX12_isCross_74 rfl (lv_at hl 4 rfl) ?_
      refine lv_iload hx hb dX12_isCross_75 (lv_at hl 3 rfl) ?_
      refine tr_icmp_eq (tgt := 117) hx hb dX12_isCross_77 (by decide) (Eq.refl _) (Eq.refl _) (fun c77 => ?_) (fun c77 => ?_)
      · replace hF := hF.trans (if_pos c77)
        refine lv_iconst (v := 0) hx hb dX12_isCross_117 (by decide) ?_
        exact th_iret hC hH hr hlocks narrow_b0 hB.2.1 ⟨_, rfl, by decide, by decide, (hF0.symm.trans (hF.trans (by rw [tk_0]))), rfl⟩ dX12_isCross_118
      · replace hF := hF.trans (if_neg c77)
        refine lv_iload_n hx hb dX12_isCross_80 rfl (lv_at hl 4 rfl) ?_
        refine lv_iload hx hb dX12_isCross_81 (lv_at hl 2 rfl) ?_
        refine tr_icmp_eq (tgt := 117) hx hb dX12_isCross_83 (by decide) (Eq.refl _) (Eq.refl _) (fun c83 => ?_) (fun c83 => ?_)
        · replace hF := hF.trans (if_pos c83)
          refine lv_iconst (v := 0) hx hb dX12_isCross_117 (by decide) ?_
          exact th_iret hC hH hr hlocks narrow_b0 hB.2.1 ⟨_, rfl, by decide, by decide, (hF0.symm.trans (hF.trans (by rw [tk_0]))), rfl⟩ dX12_isCross_118
        · replace hF := hF.trans (if_neg c83)
          refine lv_iload_n hx hb dX12_isCross_86 rfl (lv_at hl 4 rfl) ?_
          refine lv_iload hx hb dX12_isCross_87 (lv_at hl 1 rfl) ?_
          refine tr_icmp_eq (tgt := 117) hx hb dX12_isCross_89 (by decide) (Eq.refl _) (Eq.refl _) (fun c89 => ?_) (fun c89 => ?_)
          · replace hF := hF.trans (if_pos c89)
            refine lv_iconst (v := 0) hx hb dX12_isCross_117 (by decide) ?_
            exact th_iret hC hH hr hlocks narrow_b0 hB.2.1 ⟨_, rfl, by decide, by decide, (hF0.symm.trans (hF.trans (by rw [tk_0]))), rfl⟩ dX12_isCross_118
          · replace hF := hF.trans (if_neg c89)
            refine lv_iload hx hb dX12_isCross_92 (lv_at hl 3 rfl) ?_
            refine lv_iload hx hb dX12_isCross_94 (lv_at hl 2 rfl) ?_
            refine tr_icmp_eq (tgt := 117) hx hb dX12_isCross_96 (by decide) (Eq.refl _) (Eq.refl _) (fun c96 => ?_) (fun c96 => ?_)
            · replace hF := hF.trans (if_pos c96)
              refine lv_iconst (v := 0) hx hb dX12_isCross_117 (by decide) ?_
              exact th_iret hC hH hr hlocks narrow_b0 hB.2.1 ⟨_, rfl, by decide, by decide, (hF0.symm.trans (hF.trans (by rw [tk_0]))), rfl⟩ dX12_isCross_118
            · replace hF := hF.trans (if_neg c96)
              refine lv_iload hx hb dX12_isCross_99 (lv_at hl 3 rfl) ?_
              refine lv_iload hx hb dX12_isCross_101 (lv_at hl 1 rfl) ?_
              refine tr_icmp_eq (tgt := 117) hx hb dX12_isCross_103 (by decide) (Eq.refl _) (Eq.refl _) (fun c103 => ?_) (fun c103 => ?_)
              · replace hF := hF.trans (if_pos c103)
                refine lv_iconst (v := 0) hx hb dX12_isCross_117 (by decide) ?_
                exact th_iret hC hH hr hlocks narrow_b0 hB.2.1 ⟨_, rfl, by decide, by decide, (hF0.symm.trans (hF.trans (by rw [tk_0]))), rfl⟩ dX12_isCross_118
              · replace hF := hF.trans (if_neg c103)
                refine lv_iload hx hb dX12_isCross_106 (lv_at hl 2 rfl) ?_
                refine lv_iload hx hb dX12_isCross_108 (lv_at hl 1 rfl) ?_
                refine tr_icmp_eq (tgt := 117) hx hb dX12_isCross_110 (by decide) (Eq.refl _) (Eq.refl _) (fun c110 => ?_) (fun c110 => ?_)
                · replace hF := hF.trans (if_pos c110)
                  refine lv_iconst (v := 0) hx hb dX12_isCross_117 (by decide) ?_
                  exact th_iret hC hH hr hlocks narrow_b0 hB.2.1 ⟨_, rfl, by decide, by decide, (hF0.symm.trans (hF.trans (by rw [tk_0]))), rfl⟩ dX12_isCross_118
                · replace hF := hF.trans (if_neg c110)
                  refine lv_iconst (v := 1) hx hb dX12_isCross_113 (by decide) ?_
                  refine lv_goto (tgt := 118) hx hb dX12_isCross_114 (by decide) ?_
                  exact th_iret hC hH hr hlocks narrow_b1 hB.2.1 ⟨_, rfl, by decide, by decide, (hF0.symm.trans (hF.trans (by rw [tk_1]))), rfl⟩ dX12_isCross_118
  have jn66 : ∀ (locs : List Loc) (ls : Array Slot) , th_B G Γ Γ [] H0 H0 locs → lv_has ls 8 [(6, .int x8), (5, .int x7), (4, .int x5), (3, .int x3)] → F = f_X12_isCross_66 (dv G Γ H0) (x8.toInt) (x7.toInt) (x5.toInt) (x3.toInt) → W p l e ({ frames := 3, cells := 0, slots := 0, locals := 69 } : Room) s m ([.ref a0, .int p1, .int p2] : List Value).toArray below meth c H0 locs 0 0 (MQ below (th_Q (fun (v : Option Value) (H1 : Heap) => ∃ r : Int32, v = some (.int r) ∧ 0 ≤ r.toInt ∧ r.toInt ≤ 1 ∧ (f_X12_isCross (dv G Γ H0) (a0 : Int) p1.toInt p2.toInt = (r.toInt, ())) ∧ H0 = H1) G) ([.ref a0, .int p1, .int p2] : List Value).toArray s 0 0 (fun q => G.2.2 ≤ q)) (F0 m 66 ls []) := by
    intro locs ls hB hl hF
    replace hF := hF.trans (f_X12_isCross_66.eq_1 (dv G Γ H0) (x8.toInt) (x7.toInt) (x5.toInt) (x3.toInt))
    refine lv_iconst (v := 0) hx hb dX12_isCross_66 (by decide) ?_
    exact jn67 locs ls 0 hB (lv_sub hl [0, 1, 2, 3] rfl) (by rw [tk_0]; exact hF) (by decide) (by decide)
  refine tr_icmp_eq (tgt := 66) hx hb dX12_isCross_41 (by decide) (Eq.refl _) tk_m1 (fun c41 => ?_) (fun c41 => ?_)
  · replace hF := hF.trans (if_pos c41)
    exact jn66 locs ls hB (lv_sub hl [0, 1, 2, 3] rfl) hF
  · replace hF := hF.trans (if_neg c41)
    refine lv_iload hx hb dX12_isCross_44 (lv_at hl 2 rfl) ?_
    refine lv_iconst (v := (-1)) hx hb dX12_isCross_46 (by decide) ?_
    refine tr_icmp_eq (tgt := 66) hx hb dX12_isCross_47 (by decide) (Eq.refl _) tk_m1 (fun c47 => ?_) (fun c47 => ?_)
    · replace hF := hF.trans (if_pos c47)
      exact jn66 locs ls hB (lv_sub hl [0, 1, 2, 3] rfl) hF
    · replace hF := hF.trans (if_neg c47)
      refine lv_iload hx hb dX12_isCross_50 (lv_at hl 1 rfl) ?_
      refine lv_iconst (v := (-1)) hx hb dX12_isCross_52 (by decide) ?_
      refine tr_icmp_eq (tgt := 66) hx hb dX12_isCross_53 (by decide) (Eq.refl _) tk_m1 (fun c53 => ?_) (fun c53 => ?_)
      · replace hF := hF.trans (if_pos c53)
        exact jn66 locs ls hB (lv_sub hl [0, 1, 2, 3] rfl) hF
      · replace hF := hF.trans (if_neg c53)
        refine lv_iload hx hb dX12_isCross_56 (lv_at hl 0 rfl) ?_
        refine lv_iconst (v := (-1)) hx hb dX12_isCross_58 (by decide) ?_
        refine tr_icmp_eq (tgt := 66) hx hb dX12_isCross_59 (by decide) (Eq.refl _) tk_m1 (fun c59 => ?_) (fun c59 => ?_)
        · replace hF := hF.trans (if_pos c59)
          exact jn66 locs ls hB (lv_sub hl [0, 1, 2, 3] rfl) hF
        · replace hF := hF.trans (if_neg c59)
          refine lv_iconst (v := 1) hx hb dX12_isCross_62 (by decide) ?_
          refine lv_goto (tgt := 67) hx hb dX12_isCross_63 (by decide) ?_
          exact jn67 locs ls 1 hB (lv_sub hl [0, 1, 2, 3] rfl) (by rw [tk_1]; exact hF) (by decide) (by decide)

set_option maxHeartbeats 4000000 in
set_option maxRecDepth 100000 in
theorem c_X12_crosses (l : Launch) (G : th_G) (Γ : th_Ga) (H0 : Heap) (hI : th_I G Γ H0) (hU : dv_U Γ) (a0 : Nat) (h0 : Γ a0 = (46, 0)) : Met l yX12_crosses (.code yX12_crosses cX12_crosses 4 (some FieldType.int) :: th_tb) ({ frames := 4, cells := 0, slots := 0, locals := 96 } : Room) (th_P [.ref a0] G H0) (th_Q (fun (v : Option Value) (H1 : Heap) => ∃ r : Int32, v = some (.int r) ∧ (f_X12_crosses (dv G Γ H0) (a0 : Int) = (r.toInt, ())) ∧ H0 = H1) G) 0 0 (fun q => G.2.2 ≤ q) := by
  refine th_met RX12 (by decide) rfl (Nat.le_of_ble_eq_true rfl) ?_
  intro p e s m below meth c hC hH hr hlocks hnm ls hl
  have hx := hC.1
  have hb := hC.2.1
  have hB : th_B G Γ Γ [] H0 H0 [] := ⟨hI, va_S.rf, th_F_rf⟩
  have hl : lv_has ls 4 [(0, .ref a0)] := hl
  obtain ⟨F, hF0⟩ : ∃ F, F = f_X12_crosses (dv G Γ H0) ((a0 : Int)) := ⟨_, rfl⟩
  have hF := hF0.trans (f_X12_crosses.eq_1 (dv G Γ H0) ((a0 : Int)))
  refine lv_iconst (v := 0) hx hb dX12_crosses_0 (by decide) ?_
  refine lv_istore_n (lv' := [(1, .int 0), (0, .ref a0)]) hx hb dX12_crosses_1 rfl hl (by decide) rfl (fun ls hl => ?_)
  refine lv_iconst (v := 1) hx hb dX12_crosses_2 (by decide) ?_
  refine lv_istore_n (lv' := [(2, .int 1), (1, .int 0), (0, .ref a0)]) hx hb dX12_crosses_3 rfl hl (by decide) rfl (fun ls hl => ?_)
  have lp4 : ∀ (n4 : Nat) (locs : List Loc) (ls : Array Slot) (j4_1 : Int32) (j4_2 : Int32), th_B G Γ Γ [] H0 H0 locs → lv_has ls 4 [(0, .ref a0), (1, .int j4_1), (2, .int j4_2)] → F = dv_lp f_X12_crosses_4b (dv G Γ H0, (a0 : Int), j4_1.toInt, j4_2.toInt) → 1 ≤ j4_2.toInt → j4_2.toInt ≤ 12 → (2147483648 : Int) - j4_2.toInt ≤ (n4 : Int) → W p l e ({ frames := 4, cells := 0, slots := 0, locals := 96 } : Room) s m ([.ref a0] : List Value).toArray below meth c H0 locs 0 0 (MQ below (th_Q (fun (v : Option Value) (H1 : Heap) => ∃ r : Int32, v = some (.int r) ∧ (f_X12_crosses (dv G Γ H0) (a0 : Int) = (r.toInt, ())) ∧ H0 = H1) G) ([.ref a0] : List Value).toArray s 0 0 (fun q => G.2.2 ≤ q)) (F0 m 4 ls []) := by
    intro n4
    induction n4 with
    | zero => intro locs ls j4_1 j4_2 hB hl hF g4_0 g4_1 hm4; exact absurd hm4 (by have := ti_hi j4_2; omega)
    | succ n4 ih4 =>
      intro locs ls j4_1 j4_2 hB hl hF g4_0 g4_1 hm4
      have lj4_1 := ti_lo j4_1; have uj4_1 := ti_hi j4_1
      have lj4_2 := ti_lo j4_2; have uj4_2 := ti_hi j4_2
      have hm4 : (2147483648 : Int) - j4_2.toInt ≤ (n4 : Int) + 1 := by omega
      replace hF := hF.trans (dv_lp_eq)
      replace hF := hF.trans (congrArg (dv_k f_X12_crosses_4b) (f_X12_crosses_4c.eq_1 (dv G Γ H0) ((a0 : Int)) (j4_1.toInt) (j4_2.toInt)))
      refine lv_iload_n hx hb dX12_crosses_4 rfl (lv_at hl 2 rfl) ?_
      refine lv_aload_n hx hb dX12_crosses_5 rfl (lv_at hl 0 rfl) ?_
      refine th_getO (j := 2) (r2 := 48) hC cf_X12 hB.1 h0 ro_46 rfl rfl kf_X12_28 dX12_crosses_6 (fun b1 mb1 hb1 => ?_)
      refine lv_bipush (v := 67) hx hb dX12_crosses_9 (by decide) ?_
      refine th_ialdF hC hB.1 hb1 ro_48 rfl tk_67 (by omega) (by omega) (ek_hall (by omega) (by omega)) dX12_crosses_11 (fun x2 mx2 lx2 ux2 => ?_)
      replace hF := hF.trans (congrArg (dv_k f_X12_crosses_4b) (dv_bn (dv_aldI hB.1 hU hb1 ow_48 (z := 67) mx2 (by omega))))
      refine tr_icmp_ge (tgt := 57) hx hb dX12_crosses_12 (by decide) (Eq.refl _) (Eq.refl _) (fun c12 => ?_) (fun c12 => ?_)
      · replace hF := hF.trans (congrArg (dv_k f_X12_crosses_4b) (if_pos c12))
        refine lv_iload_n hx hb dX12_crosses_57 rfl (lv_at hl 1 rfl) ?_
        replace hF := hF.trans (dv_kr)
        exact th_iret hC hH hr hlocks rfl hB.2.1 ⟨_, rfl, (hF0.symm.trans hF), rfl⟩ dX12_crosses_58
      · replace hF := hF.trans (congrArg (dv_k f_X12_crosses_4b) (if_neg (Int.not_le.mpr c12)))
        refine lv_iconst (v := 1) hx hb dX12_crosses_15 (by decide) ?_
        refine lv_istore_n (lv' := [(3, .int 1), (0, .ref a0), (1, .int j4_1), (2, .int j4_2)]) hx hb dX12_crosses_16 rfl hl (by decide) rfl (fun ls hl => ?_)
        have lp17 : ∀ (n17 : Nat) (locs : List Loc) (ls : Array Slot) (j17_1 : Int32) (j17_3 : Int32), th_B G Γ Γ [] H0 H0 locs → lv_has ls 4 [(0, .ref a0), (2, .int j4_2), (1, .int j17_1), (3, .int j17_3)] → F = dv_k f_X12_crosses_4b (dv_lp f_X12_crosses_17b (dv G Γ H0, (a0 : Int), j4_2.toInt, j17_1.toInt, j17_3.toInt)) → 1 ≤ j17_3.toInt → j17_3.toInt ≤ 12 → (2147483648 : Int) - j17_3.toInt ≤ (n17 : Int) → W p l e ({ frames := 4, cells := 0, slots := 0, locals := 96 } : Room) s m ([.ref a0] : List Value).toArray below meth c H0 locs 0 0 (MQ below (th_Q (fun (v : Option Value) (H1 : Heap) => ∃ r : Int32, v = some (.int r) ∧ (f_X12_crosses (dv G Γ H0) (a0 : Int) = (r.toInt, ())) ∧ H0 = H1) G) ([.ref a0] : List Value).toArray s 0 0 (fun q => G.2.2 ≤ q)) (F0 m 17 ls []) := by
          intro n17
          induction n17 with
          | zero => intro locs ls j17_1 j17_3 hB hl hF g17_0 g17_1 hm17; exact absurd hm17 (by have := ti_hi j17_3; omega)
          | succ n17 ih17 =>
            intro locs ls j17_1 j17_3 hB hl hF g17_0 g17_1 hm17
            have lj17_1 := ti_lo j17_1; have uj17_1 := ti_hi j17_1
            have lj17_3 := ti_lo j17_3; have uj17_3 := ti_hi j17_3
            have hm17 : (2147483648 : Int) - j17_3.toInt ≤ (n17 : Int) + 1 := by omega
            replace hF := hF.trans (congrArg (dv_k f_X12_crosses_4b) (dv_lp_eq))
            replace hF := hF.trans (congrArg (dv_k f_X12_crosses_4b) (congrArg (dv_k f_X12_crosses_17b) (f_X12_crosses_17c.eq_1 (dv G Γ H0) ((a0 : Int)) (j4_2.toInt) (j17_1.toInt) (j17_3.toInt))))
            refine lv_iload_n hx hb dX12_crosses_17 rfl (lv_at hl 3 rfl) ?_
            refine lv_aload_n hx hb dX12_crosses_18 rfl (lv_at hl 0 rfl) ?_
            refine th_getK hC cf_X12 hB.1 h0 ro_46 rfl (j := 2) (by decide) mb1 kf_X12_28 dX12_crosses_19 ?_
            refine lv_bipush (v := 68) hx hb dX12_crosses_22 (by decide) ?_
            refine th_ialdF hC hB.1 hb1 ro_48 rfl tk_68 (by omega) (by omega) (ek_hall (by omega) (by omega)) dX12_crosses_24 (fun x3 mx3 lx3 ux3 => ?_)
            replace hF := hF.trans (congrArg (dv_k f_X12_crosses_4b) (congrArg (dv_k f_X12_crosses_17b) (dv_bn (dv_aldI hB.1 hU hb1 ow_48 (z := 68) mx3 (by omega)))))
            refine tr_icmp_ge (tgt := 51) hx hb dX12_crosses_25 (by decide) (Eq.refl _) (Eq.refl _) (fun c25 => ?_) (fun c25 => ?_)
            · replace hF := hF.trans (congrArg (dv_k f_X12_crosses_4b) (congrArg (dv_k f_X12_crosses_17b) (if_pos c25)))
              refine tr_iinc (fun x4 => [(2, .int x4), (0, .ref a0), (1, .int j17_1), (3, .int j17_3)]) hx hb dX12_crosses_51 hl (k := 1) rfl (Eq.refl _) tk_1 (by omega) (by omega) (by decide) (fun _ => rfl) (fun x4 ls ex4 hl => ?_)
              replace hF := hF.trans (congrArg (dv_k f_X12_crosses_4b) (congrArg (dv_k f_X12_crosses_17b) (dv_bn (ex4.symm))))
              refine lv_goto (tgt := 4) hx hb dX12_crosses_54 (by decide) ?_
              replace hF := hF.trans (congrArg (dv_k f_X12_crosses_4b) (dv_kr))
              replace hF := hF.trans (dv_kl)
              exact ih4 locs ls j17_1 x4 hB (lv_sub hl [1, 2, 0] rfl) hF (by omega) (by omega) (by omega)
            · replace hF := hF.trans (congrArg (dv_k f_X12_crosses_4b) (congrArg (dv_k f_X12_crosses_17b) (if_neg (Int.not_le.mpr c25))))
              refine lv_iload_n hx hb dX12_crosses_28 rfl (lv_at hl 2 rfl) ?_
              refine lv_aload_n hx hb dX12_crosses_29 rfl (lv_at hl 0 rfl) ?_
              refine lv_iload_n hx hb dX12_crosses_30 rfl (lv_at hl 1 rfl) ?_
              refine lv_iload_n hx hb dX12_crosses_31 rfl (lv_at hl 3 rfl) ?_
              refine th_call (th_runV (As := [.int j4_2, .int j17_3]) (rest := [.int j17_1]) hC mf_X12_isCross km_X12_462 im_X12_isCross se_X12_isCross (c_X12_isCross l G Γ H0 hB.1 hU a0 h0 j4_2 j17_3) rfl rfl ⟨Nat.le_of_ble_eq_true rfl, Nat.le_of_ble_eq_true rfl⟩ hB.1 h0 ro_46 rfl rfl hl.1 rfl (Nat.le_of_ble_eq_true rfl) dX12_crosses_32 ⟨Nat.le_refl _, Nat.le_refl _⟩) hB.2.1 (fun v32 H32 locs hp hz hS => ?_)
              obtain ⟨x5, rfl, lx5, ux5, q32_0, rfl⟩ := hp
              have hB := th_B_s hB hS
              replace hF := hF.trans (congrArg (dv_k f_X12_crosses_4b) (congrArg (dv_k f_X12_crosses_17b) (dv_bn2 (q32_0))))
              refine W.eq (g2 := F0 m 35 ls [.int x5, .int j17_1]) rfl ?_
              have jn43 : ∀ (locs : List Loc) (ls : Array Slot) (s43_1 : Int32), th_B G Γ Γ [] H0 H0 locs → lv_has ls 4 [(0, .ref a0), (2, .int j4_2), (3, .int j17_3)] → F = dv_k f_X12_crosses_4b (dv_k f_X12_crosses_17b (f_X12_crosses_43 (dv G Γ H0) ((a0 : Int)) (j4_2.toInt) (j17_3.toInt) (j17_1.toInt) (s43_1.toInt))) → 0 ≤ s43_1.toInt → s43_1.toInt ≤ 1 → W p l e ({ frames := 4, cells := 0, slots := 0, locals := 96 } : Room) s m ([.ref a0] : List Value).toArray below meth c H0 locs 0 0 (MQ below (th_Q (fun (v : Option Value) (H1 : Heap) => ∃ r : Int32, v = some (.int r) ∧ (f_X12_crosses (dv G Γ H0) (a0 : Int) = (r.toInt, ())) ∧ H0 = H1) G) ([.ref a0] : List Value).toArray s 0 0 (fun q => G.2.2 ≤ q)) (F0 m 43 ls [.int s43_1, .int j17_1]) := by
                intro locs ls s43_1 hB hl hF g43_0 g43_1
                have ls43_1 := ti_lo s43_1; have us43_1 := ti_hi s43_1
                replace hF := hF.trans (congrArg (dv_k f_X12_crosses_4b) (congrArg (dv_k f_X12_crosses_17b) (f_X12_crosses_43.eq_1 (dv G Γ H0) ((a0 : Int)) (j4_2.toInt) (j17_3.toInt) (j17_1.toInt) (s43_1.toInt))))
                refine lv_iadd hx hb dX12_crosses_43 ?_
                refine lv_topi (fun x6 ex6 => ?_)
                have lx6 := ti_lo x6; have ux6 := ti_hi x6
                replace hF := hF.trans (congrArg (dv_k f_X12_crosses_4b) (congrArg (dv_k f_X12_crosses_17b) (dv_bn (dv_add_e (Eq.refl _) (Eq.refl _) ex6))))
                refine lv_istore_n (lv' := [(1, .int x6), (0, .ref a0), (2, .int j4_2), (3, .int j17_3)]) hx hb dX12_crosses_44 rfl hl (by decide) rfl (fun ls hl => ?_)
                refine tr_iinc (fun x7 => [(3, .int x7), (1, .int x6), (0, .ref a0), (2, .int j4_2)]) hx hb dX12_crosses_45 hl (k := 3) rfl (Eq.refl _) tk_1 (by omega) (by omega) (by decide) (fun _ => rfl) (fun x7 ls ex7 hl => ?_)
                replace hF := hF.trans (congrArg (dv_k f_X12_crosses_4b) (congrArg (dv_k f_X12_crosses_17b) (dv_bn (ex7.symm))))
                refine lv_goto (tgt := 17) hx hb dX12_crosses_48 (by decide) ?_
                replace hF := hF.trans (congrArg (dv_k f_X12_crosses_4b) (dv_kl))
                exact ih17 locs ls x6 x7 hB (lv_sub hl [2, 3, 1, 0] rfl) hF (by omega) (by omega) (by omega)
              refine tr_if_eq (tgt := 42) hx hb dX12_crosses_35 (by decide) (Eq.refl _) (fun c35 => ?_) (fun c35 => ?_)
              · replace hF := hF.trans (congrArg (dv_k f_X12_crosses_4b) (congrArg (dv_k f_X12_crosses_17b) (if_pos c35)))
                refine lv_iconst (v := 0) hx hb dX12_crosses_42 (by decide) ?_
                exact jn43 locs ls 0 hB (lv_sub hl [0, 1, 3] rfl) (by rw [tk_0]; exact hF) (by decide) (by decide)
              · replace hF := hF.trans (congrArg (dv_k f_X12_crosses_4b) (congrArg (dv_k f_X12_crosses_17b) (if_neg c35)))
                refine lv_iconst (v := 1) hx hb dX12_crosses_38 (by decide) ?_
                refine lv_goto (tgt := 43) hx hb dX12_crosses_39 (by decide) ?_
                exact jn43 locs ls 1 hB (lv_sub hl [0, 1, 3] rfl) (by rw [tk_1]; exact hF) (by decide) (by decide)
        exact lp17 ((2147483648 : Int) - (1)).toNat locs ls j4_1 1 hB (lv_sub hl [1, 3, 2, 0] rfl) (by rw [tk_1]; exact hF) (by decide) (by decide) (by have w0 := tk_1; omega)
  exact lp4 ((2147483648 : Int) - (1)).toNat [] ls 0 1 hB (lv_sub hl [2, 1, 0] rfl) (by rw [tk_0, tk_1]; exact hF) (by decide) (by decide) (by have w0 := tk_0; have w1 := tk_1; omega)

set_option maxHeartbeats 4000000 in
set_option maxRecDepth 100000 in
theorem c_X12_currents (l : Launch) (G : th_G) (Γ : th_Ga) (H0 : Heap) (hI : th_I G Γ H0) (hU : dv_U Γ) (a0 : Nat) (h0 : Γ a0 = (46, 0)) (p1 : Int32) (p2 : Int32) : Met l yX12_currents (.code yX12_currents cX12_currents 5 (some FieldType.int) :: th_tb) ({ frames := 1, cells := 0, slots := 0, locals := 22 } : Room) (th_P [.ref a0, .int p1, .int p2] G H0) (th_Q (fun (v : Option Value) (H1 : Heap) => ∃ r : Int32, v = some (.int r) ∧ (f_X12_currents (dv G Γ H0) (a0 : Int) p1.toInt p2.toInt = (r.toInt, ())) ∧ H0 = H1) G) 0 0 (fun q => G.2.2 ≤ q) := by
  refine th_met RX12 (by decide) rfl (Nat.le_of_ble_eq_true rfl) ?_
  intro p e s m below meth c hC hH hr hlocks hnm ls hl
  have hx := hC.1
  have hb := hC.2.1
  have hB : th_B G Γ Γ [] H0 H0 [] := ⟨hI, va_S.rf, th_F_rf⟩
  have hl : lv_has ls 5 [(0, .ref a0), (1, .int p1), (2, .int p2)] := hl
  have lp1 := ti_lo p1; have up1 := ti_hi p1
  have lp2 := ti_lo p2; have up2 := ti_hi p2
  obtain ⟨F, hF0⟩ : ∃ F, F = f_X12_currents (dv G Γ H0) ((a0 : Int)) (p1.toInt) (p2.toInt) := ⟨_, rfl⟩
  have hF := hF0.trans (f_X12_currents.eq_1 (dv G Γ H0) ((a0 : Int)) (p1.toInt) (p2.toInt))
  refine lv_iload_n hx hb dX12_currents_0 rfl (lv_at hl 1 rfl) ?_
  refine lv_iconst (v := 0) hx hb dX12_currents_1 (by decide) ?_
  refine lv_aload_n hx hb dX12_currents_2 rfl (lv_at hl 0 rfl) ?_
  refine th_getO (j := 2) (r2 := 48) hC cf_X12 hB.1 h0 ro_46 rfl rfl kf_X12_28 dX12_currents_3 (fun b1 mb1 hb1 => ?_)
  refine lv_bipush (v := 68) hx hb dX12_currents_6 (by decide) ?_
  refine th_ialdF hC hB.1 hb1 ro_48 rfl tk_68 (by omega) (by omega) (ek_hall (by omega) (by omega)) dX12_currents_8 (fun x2 mx2 lx2 ux2 => ?_)
  replace hF := hF.trans (dv_bn (dv_aldI hB.1 hU hb1 ow_48 (z := 68) mx2 (by omega)))
  refine th_call (th_runS (As := [.int p1, .int 0, .int x2]) (rest := []) hC mf_X12_lies km_X12_18 st_X12_lies (c_X12_lies l G Γ H0 hB.1 hU p1 0 x2) rfl rfl ⟨Nat.le_of_ble_eq_true rfl, Nat.le_of_ble_eq_true rfl⟩ rfl hl.1 rfl (Nat.le_of_ble_eq_true rfl) dX12_currents_9 ⟨Nat.le_refl _, Nat.le_refl _⟩) hB.2.1 (fun v9 H9 locs hp hz hS => ?_)
  obtain ⟨x3, rfl, lx3, ux3, q9_0, q9_1, q9_2, rfl⟩ := hp
  have hB := th_B_s hB hS
  have w9_1 := tk_0
  have zf9 := q9_2
  rw [tk_0] at zf9
  replace hF := hF.trans (dv_bn2 (zf9))
  refine W.eq (g2 := F0 m 12 ls [.int x3]) rfl ?_
  refine tr_if_eq (tgt := 24) hx hb dX12_currents_12 (by decide) (Eq.refl _) (fun c12 => ?_) (fun c12 => ?_)
  · replace hF := hF.trans (if_pos c12)
    refine lv_iconst (v := (-1)) hx hb dX12_currents_24 (by decide) ?_
    exact th_iret hC hH hr hlocks rfl hB.2.1 ⟨_, rfl, (hF0.symm.trans (hF.trans (by rw [tk_m1]))), rfl⟩ dX12_currents_25
  · replace hF := hF.trans (if_neg c12)
    refine lv_iload_n hx hb dX12_currents_15 rfl (lv_at hl 2 rfl) ?_
    refine lv_iconst (v := 0) hx hb dX12_currents_16 (by decide) ?_
    refine lv_iconst (v := 1) hx hb dX12_currents_17 (by decide) ?_
    refine th_call (th_runS (As := [.int p2, .int 0, .int 1]) (rest := []) hC mf_X12_lies km_X12_18 st_X12_lies (c_X12_lies l G Γ H0 hB.1 hU p2 0 1) rfl rfl ⟨Nat.le_of_ble_eq_true rfl, Nat.le_of_ble_eq_true rfl⟩ rfl hl.1 rfl (Nat.le_of_ble_eq_true rfl) dX12_currents_18 ⟨Nat.le_refl _, Nat.le_refl _⟩) hB.2.1 (fun v18 H18 locs hp hz hS => ?_)
    obtain ⟨x4, rfl, lx4, ux4, q18_0, q18_1, q18_2, rfl⟩ := hp
    have hB := th_B_s hB hS
    have w18_1 := tk_0
    have w18_2 := tk_1
    have zf18 := q18_2
    rw [tk_0, tk_1] at zf18
    replace hF := hF.trans (dv_bn2 (zf18))
    refine W.eq (g2 := F0 m 21 ls [.int x4]) rfl ?_
    refine tr_if_ne (tgt := 26) hx hb dX12_currents_21 (by decide) (Eq.refl _) (fun c21 => ?_) (fun c21 => ?_)
    · replace hF := hF.trans (if_pos c21)
      refine lv_iconst (v := 0) hx hb dX12_currents_26 (by decide) ?_
      refine lv_istore_n (lv' := [(3, .int 0), (0, .ref a0), (1, .int p1), (2, .int p2)]) hx hb dX12_currents_27 rfl hl (by decide) rfl (fun ls hl => ?_)
      refine lv_iconst (v := 0) hx hb dX12_currents_28 (by decide) ?_
      refine lv_istore (lv' := [(4, .int 0), (3, .int 0), (0, .ref a0), (1, .int p1), (2, .int p2)]) hx hb dX12_currents_29 hl (by decide) rfl (fun ls hl => ?_)
      have lp31 : ∀ (n31 : Nat) (locs : List Loc) (ls : Array Slot) (j31_3 : Int32) (j31_4 : Int32), th_B G Γ Γ [] H0 H0 locs → lv_has ls 5 [(0, .ref a0), (1, .int p1), (2, .int p2), (3, .int j31_3), (4, .int j31_4)] → F = dv_lp f_X12_currents_31b (dv G Γ H0, (a0 : Int), p1.toInt, p2.toInt, j31_3.toInt, j31_4.toInt) → 0 ≤ j31_4.toInt → j31_4.toInt ≤ 9 → (2147483648 : Int) - j31_4.toInt ≤ (n31 : Int) → W p l e ({ frames := 1, cells := 0, slots := 0, locals := 22 } : Room) s m ([.ref a0, .int p1, .int p2] : List Value).toArray below meth c H0 locs 0 0 (MQ below (th_Q (fun (v : Option Value) (H1 : Heap) => ∃ r : Int32, v = some (.int r) ∧ (f_X12_currents (dv G Γ H0) (a0 : Int) p1.toInt p2.toInt = (r.toInt, ())) ∧ H0 = H1) G) ([.ref a0, .int p1, .int p2] : List Value).toArray s 0 0 (fun q => G.2.2 ≤ q)) (F0 m 31 ls []) := by
        intro n31
        induction n31 with
        | zero => intro locs ls j31_3 j31_4 hB hl hF g31_0 g31_1 hm31; exact absurd hm31 (by have := ti_hi j31_4; omega)
        | succ n31 ih31 =>
          intro locs ls j31_3 j31_4 hB hl hF g31_0 g31_1 hm31
          have lj31_3 := ti_lo j31_3; have uj31_3 := ti_hi j31_3
          have lj31_4 := ti_lo j31_4; have uj31_4 := ti_hi j31_4
          have hm31 : (2147483648 : Int) - j31_4.toInt ≤ (n31 : Int) + 1 := by omega
          replace hF := hF.trans (dv_lp_eq)
          replace hF := hF.trans (congrArg (dv_k f_X12_currents_31b) (f_X12_currents_31c.eq_1 (dv G Γ H0) ((a0 : Int)) (p1.toInt) (p2.toInt) (j31_3.toInt) (j31_4.toInt)))
          refine lv_iload hx hb dX12_currents_31 (lv_at hl 4 rfl) ?_
          refine lv_aload_n hx hb dX12_currents_33 rfl (lv_at hl 0 rfl) ?_
          refine th_call (th_runV (As := []) (rest := [.int j31_4]) hC mf_X12_many km_X12_115 im_X12_many se_X12_many (c_X12_many l G Γ H0 hB.1 hU a0 h0) rfl rfl ⟨Nat.le_of_ble_eq_true rfl, Nat.le_of_ble_eq_true rfl⟩ hB.1 h0 ro_46 rfl rfl hl.1 rfl (Nat.le_of_ble_eq_true rfl) dX12_currents_34 ⟨Nat.le_refl _, Nat.le_refl _⟩) hB.2.1 (fun v34 H34 locs hp hz hS => ?_)
          obtain ⟨x5, rfl, lx5, ux5, q34_0, q34_1, rfl⟩ := hp
          have hB := th_B_s hB hS
          replace hF := hF.trans (congrArg (dv_k f_X12_currents_31b) (dv_bn2 (q34_1)))
          refine W.eq (g2 := F0 m 37 ls [.int x5, .int j31_4]) rfl ?_
          refine tr_icmp_ge (tgt := 105) hx hb dX12_currents_37 (by decide) (Eq.refl _) (Eq.refl _) (fun c37 => ?_) (fun c37 => ?_)
          · replace hF := hF.trans (congrArg (dv_k f_X12_currents_31b) (if_pos c37))
            refine lv_iload_n hx hb dX12_currents_105 rfl (lv_at hl 3 rfl) ?_
            replace hF := hF.trans (dv_kr)
            exact th_iret hC hH hr hlocks rfl hB.2.1 ⟨_, rfl, (hF0.symm.trans hF), rfl⟩ dX12_currents_106
          · replace hF := hF.trans (congrArg (dv_k f_X12_currents_31b) (if_neg (Int.not_le.mpr c37)))
            refine lv_iload_n hx hb dX12_currents_40 rfl (lv_at hl 3 rfl) ?_
            refine lv_aload_n hx hb dX12_currents_41 rfl (lv_at hl 0 rfl) ?_
            refine lv_iload hx hb dX12_currents_42 (lv_at hl 4 rfl) ?_
            refine th_call (th_runV (As := [.int j31_4]) (rest := [.int j31_3]) hC mf_X12_isLaid km_X12_137 im_X12_isLaid se_X12_isLaid (c_X12_isLaid l G Γ H0 hB.1 hU a0 h0 j31_4 (by omega) (by omega)) rfl rfl ⟨Nat.le_of_ble_eq_true rfl, Nat.le_of_ble_eq_true rfl⟩ hB.1 h0 ro_46 rfl rfl hl.1 rfl (Nat.le_of_ble_eq_true rfl) dX12_currents_44 ⟨Nat.le_refl _, Nat.le_refl _⟩) hB.2.1 (fun v44 H44 locs hp hz hS => ?_)
            obtain ⟨x6, rfl, lx6, ux6, q44_0, q44_1, q44_2, rfl⟩ := hp
            have hB := th_B_s hB hS
            replace hF := hF.trans (congrArg (dv_k f_X12_currents_31b) (dv_bn2 (q44_2)))
            refine W.eq (g2 := F0 m 47 ls [.int x6, .int j31_3]) rfl ?_
            have jn97 : ∀ (locs : List Loc) (ls : Array Slot) (s97_1 : Int32), th_B G Γ Γ [] H0 H0 locs → lv_has ls 5 [(0, .ref a0), (1, .int p1), (2, .int p2), (4, .int j31_4)] → F = dv_k f_X12_currents_31b (f_X12_currents_97 (dv G Γ H0) ((a0 : Int)) (p1.toInt) (p2.toInt) (j31_4.toInt) (j31_3.toInt) (s97_1.toInt)) → 0 ≤ s97_1.toInt → s97_1.toInt ≤ 12 → W p l e ({ frames := 1, cells := 0, slots := 0, locals := 22 } : Room) s m ([.ref a0, .int p1, .int p2] : List Value).toArray below meth c H0 locs 0 0 (MQ below (th_Q (fun (v : Option Value) (H1 : Heap) => ∃ r : Int32, v = some (.int r) ∧ (f_X12_currents (dv G Γ H0) (a0 : Int) p1.toInt p2.toInt = (r.toInt, ())) ∧ H0 = H1) G) ([.ref a0, .int p1, .int p2] : List Value).toArray s 0 0 (fun q => G.2.2 ≤ q)) (F0 m 97 ls [.int s97_1, .int j31_3]) := by
              intro locs ls s97_1 hB hl hF g97_0 g97_1
              have ls97_1 := ti_lo s97_1; have us97_1 := ti_hi s97_1
              replace hF := hF.trans (congrArg (dv_k f_X12_currents_31b) (f_X12_currents_97.eq_1 (dv G Γ H0) ((a0 : Int)) (p1.toInt) (p2.toInt) (j31_4.toInt) (j31_3.toInt) (s97_1.toInt)))
              refine lv_iadd hx hb dX12_currents_97 ?_
              refine lv_topi (fun x7 ex7 => ?_)
              have lx7 := ti_lo x7; have ux7 := ti_hi x7
              replace hF := hF.trans (congrArg (dv_k f_X12_currents_31b) (dv_bn (dv_add_e (Eq.refl _) (Eq.refl _) ex7)))
              refine lv_istore_n (lv' := [(3, .int x7), (0, .ref a0), (1, .int p1), (2, .int p2), (4, .int j31_4)]) hx hb dX12_currents_98 rfl hl (by decide) rfl (fun ls hl => ?_)
              refine tr_iinc (fun x8 => [(4, .int x8), (3, .int x7), (0, .ref a0), (1, .int p1), (2, .int p2)]) hx hb dX12_currents_99 hl (k := 4) rfl (Eq.refl _) tk_1 (by omega) (by omega) (by decide) (fun _ => rfl) (fun x8 ls ex8 hl => ?_)
              replace hF := hF.trans (congrArg (dv_k f_X12_currents_31b) (dv_bn (ex8.symm)))
              refine lv_goto (tgt := 31) hx hb dX12_currents_102 (by decide) ?_
              replace hF := hF.trans (dv_kl)
              exact ih31 locs ls x7 x8 hB (lv_sub hl [2, 3, 4, 1, 0] rfl) hF (by omega) (by omega) (by omega)
            have jn96 : ∀ (locs : List Loc) (ls : Array Slot) , th_B G Γ Γ [] H0 H0 locs → lv_has ls 5 [(0, .ref a0), (1, .int p1), (2, .int p2), (4, .int j31_4)] → F = dv_k f_X12_currents_31b (f_X12_currents_96 (dv G Γ H0) ((a0 : Int)) (p1.toInt) (p2.toInt) (j31_4.toInt) (j31_3.toInt)) → W p l e ({ frames := 1, cells := 0, slots := 0, locals := 22 } : Room) s m ([.ref a0, .int p1, .int p2] : List Value).toArray below meth c H0 locs 0 0 (MQ below (th_Q (fun (v : Option Value) (H1 : Heap) => ∃ r : Int32, v = some (.int r) ∧ (f_X12_currents (dv G Γ H0) (a0 : Int) p1.toInt p2.toInt = (r.toInt, ())) ∧ H0 = H1) G) ([.ref a0, .int p1, .int p2] : List Value).toArray s 0 0 (fun q => G.2.2 ≤ q)) (F0 m 96 ls [.int j31_3]) := by
              intro locs ls hB hl hF
              replace hF := hF.trans (congrArg (dv_k f_X12_currents_31b) (f_X12_currents_96.eq_1 (dv G Γ H0) ((a0 : Int)) (p1.toInt) (p2.toInt) (j31_4.toInt) (j31_3.toInt)))
              refine lv_iconst (v := 0) hx hb dX12_currents_96 (by decide) ?_
              exact jn97 locs ls 0 hB (lv_sub hl [0, 1, 2, 3] rfl) (by rw [tk_0]; exact hF) (by decide) (by decide)
            refine tr_if_eq (tgt := 96) hx hb dX12_currents_47 (by decide) (Eq.refl _) (fun c47 => ?_) (fun c47 => ?_)
            · replace hF := hF.trans (congrArg (dv_k f_X12_currents_31b) (if_pos c47))
              exact jn96 locs ls hB (lv_sub hl [0, 1, 2, 4] rfl) hF
            · replace hF := hF.trans (congrArg (dv_k f_X12_currents_31b) (if_neg c47))
              refine lv_aload_n hx hb dX12_currents_50 rfl (lv_at hl 0 rfl) ?_
              refine th_getK hC cf_X12 hB.1 h0 ro_46 rfl (j := 2) (by decide) mb1 kf_X12_28 dX12_currents_51 ?_
              refine lv_bipush (v := 18) hx hb dX12_currents_54 (by decide) ?_
              refine lv_iload hx hb dX12_currents_56 (lv_at hl 4 rfl) ?_
              refine tr_iadd hx hb dX12_currents_58 tk_18 (Eq.refl _) (by omega) (by omega) (fun x9 ex9 => ?_)
              replace hF := hF.trans (congrArg (dv_k f_X12_currents_31b) (dv_bn (ex9.symm)))
              refine th_ialdF hC hB.1 hb1 ro_48 rfl (Eq.refl _) (by omega) (by omega) (ek_a (by omega) (by omega)) dX12_currents_59 (fun x10 mx10 lx10 ux10 => ?_)
              replace hF := hF.trans (congrArg (dv_k f_X12_currents_31b) (dv_bn (dv_aldI hB.1 hU hb1 ow_48 (z := x9.toInt) mx10 (by omega))))
              refine lv_iload_n hx hb dX12_currents_60 rfl (lv_at hl 2 rfl) ?_
              have jn78 : ∀ (locs : List Loc) (ls : Array Slot) (s78_2 : Int32), th_B G Γ Γ [] H0 H0 locs → lv_has ls 5 [(0, .ref a0), (1, .int p1), (2, .int p2), (4, .int j31_4)] → F = dv_k f_X12_currents_31b (f_X12_currents_78 (dv G Γ H0) ((a0 : Int)) (p1.toInt) (p2.toInt) (j31_4.toInt) (j31_3.toInt) (x10.toInt) (s78_2.toInt)) → 0 ≤ s78_2.toInt → s78_2.toInt ≤ 12 → W p l e ({ frames := 1, cells := 0, slots := 0, locals := 22 } : Room) s m ([.ref a0, .int p1, .int p2] : List Value).toArray below meth c H0 locs 0 0 (MQ below (th_Q (fun (v : Option Value) (H1 : Heap) => ∃ r : Int32, v = some (.int r) ∧ (f_X12_currents (dv G Γ H0) (a0 : Int) p1.toInt p2.toInt = (r.toInt, ())) ∧ H0 = H1) G) ([.ref a0, .int p1, .int p2] : List Value).toArray s 0 0 (fun q => G.2.2 ≤ q)) (F0 m 78 ls [.int s78_2, .int x10, .int j31_3]) := by
                intro locs ls s78_2 hB hl hF g78_0 g78_1
                have ls78_2 := ti_lo s78_2; have us78_2 := ti_hi s78_2
                replace hF := hF.trans (congrArg (dv_k f_X12_currents_31b) (f_X12_currents_78.eq_1 (dv G Γ H0) ((a0 : Int)) (p1.toInt) (p2.toInt) (j31_4.toInt) (j31_3.toInt) (x10.toInt) (s78_2.toInt)))
                refine lv_iadd hx hb dX12_currents_78 ?_
                refine lv_topi (fun x11 ex11 => ?_)
                have lx11 := ti_lo x11; have ux11 := ti_hi x11
                replace hF := hF.trans (congrArg (dv_k f_X12_currents_31b) (dv_bn (dv_add_e (Eq.refl _) (Eq.refl _) ex11)))
                refine lv_iload_n hx hb dX12_currents_79 rfl (lv_at hl 1 rfl) ?_
                refine tr_icmp_ne (tgt := 96) hx hb dX12_currents_80 (by decide) (Eq.refl _) (Eq.refl _) (fun c80 => ?_) (fun c80 => ?_)
                · replace hF := hF.trans (congrArg (dv_k f_X12_currents_31b) (if_pos c80))
                  exact jn96 locs ls hB (lv_sub hl [0, 1, 2, 3] rfl) hF
                · replace hF := hF.trans (congrArg (dv_k f_X12_currents_31b) (if_neg (not_not_intro c80)))
                  refine lv_aload_n hx hb dX12_currents_83 rfl (lv_at hl 0 rfl) ?_
                  refine th_getK hC cf_X12 hB.1 h0 ro_46 rfl (j := 2) (by decide) mb1 kf_X12_28 dX12_currents_84 ?_
                  refine lv_bipush (v := 29) hx hb dX12_currents_87 (by decide) ?_
                  refine lv_iload hx hb dX12_currents_89 (lv_at hl 3 rfl) ?_
                  refine tr_iadd hx hb dX12_currents_91 tk_29 (Eq.refl _) (by omega) (by omega) (fun x12 ex12 => ?_)
                  replace hF := hF.trans (congrArg (dv_k f_X12_currents_31b) (dv_bn (ex12.symm)))
                  refine th_ialdF hC hB.1 hb1 ro_48 rfl (Eq.refl _) (by omega) (by omega) (ek_side (by omega) (by omega)) dX12_currents_92 (fun x13 mx13 lx13 ux13 => ?_)
                  replace hF := hF.trans (congrArg (dv_k f_X12_currents_31b) (dv_bn (dv_aldI hB.1 hU hb1 ow_48 (z := x12.toInt) mx13 (by omega))))
                  refine lv_goto (tgt := 97) hx hb dX12_currents_93 (by decide) ?_
                  exact jn97 locs ls x13 hB (lv_sub hl [0, 1, 2, 3] rfl) hF (by omega) (by omega)
              refine tr_if_ne (tgt := 68) hx hb dX12_currents_61 (by decide) (Eq.refl _) (fun c61 => ?_) (fun c61 => ?_)
              · replace hF := hF.trans (congrArg (dv_k f_X12_currents_31b) (if_pos c61))
                refine lv_aload_n hx hb dX12_currents_68 rfl (lv_at hl 0 rfl) ?_
                refine th_getK hC cf_X12 hB.1 h0 ro_46 rfl (j := 2) (by decide) mb1 kf_X12_28 dX12_currents_69 ?_
                refine lv_bipush (v := 29) hx hb dX12_currents_72 (by decide) ?_
                refine lv_iload hx hb dX12_currents_74 (lv_at hl 4 rfl) ?_
                refine tr_iadd hx hb dX12_currents_76 tk_29 (Eq.refl _) (by omega) (by omega) (fun x14 ex14 => ?_)
                replace hF := hF.trans (congrArg (dv_k f_X12_currents_31b) (dv_bn (ex14.symm)))
                refine th_ialdF hC hB.1 hb1 ro_48 rfl (Eq.refl _) (by omega) (by omega) (ek_side (by omega) (by omega)) dX12_currents_77 (fun x15 mx15 lx15 ux15 => ?_)
                replace hF := hF.trans (congrArg (dv_k f_X12_currents_31b) (dv_bn (dv_aldI hB.1 hU hb1 ow_48 (z := x14.toInt) mx15 (by omega))))
                exact jn78 locs ls x15 hB (lv_sub hl [0, 1, 2, 4] rfl) hF (by omega) (by omega)
              · replace hF := hF.trans (congrArg (dv_k f_X12_currents_31b) (if_neg (not_not_intro c61)))
                refine lv_iconst (v := 0) hx hb dX12_currents_64 (by decide) ?_
                refine lv_goto (tgt := 78) hx hb dX12_currents_65 (by decide) ?_
                exact jn78 locs ls 0 hB (lv_sub hl [0, 1, 2, 4] rfl) (by rw [tk_0]; exact hF) (by decide) (by decide)
      exact lp31 ((2147483648 : Int) - (0)).toNat locs ls 0 0 hB (lv_sub hl [2, 3, 4, 1, 0] rfl) (by rw [tk_0]; exact hF) (by decide) (by decide) (by have w0 := tk_0; omega)
    · replace hF := hF.trans (if_neg (not_not_intro c21))
      refine lv_iconst (v := (-1)) hx hb dX12_currents_24 (by decide) ?_
      exact th_iret hC hH hr hlocks rfl hB.2.1 ⟨_, rfl, (hF0.symm.trans (hF.trans (by rw [tk_m1]))), rfl⟩ dX12_currents_25

set_option maxHeartbeats 4000000 in
set_option maxRecDepth 100000 in
theorem c_X12_alike (l : Launch) (G : th_G) (Γ : th_Ga) (H0 : Heap) (hI : th_I G Γ H0) (hU : dv_U Γ) (a0 : Nat) (h0 : Γ a0 = (46, 0)) : Met l yX12_alike (.code yX12_alike cX12_alike 4 (some FieldType.int) :: th_tb) ({ frames := 1, cells := 0, slots := 0, locals := 21 } : Room) (th_P [.ref a0] G H0) (th_Q (fun (v : Option Value) (H1 : Heap) => ∃ r : Int32, v = some (.int r) ∧ (f_X12_alike (dv G Γ H0) (a0 : Int) = (r.toInt, ())) ∧ H0 = H1) G) 0 0 (fun q => G.2.2 ≤ q) := by
  refine th_met RX12 (by decide) rfl (Nat.le_of_ble_eq_true rfl) ?_
  intro p e s m below meth c hC hH hr hlocks hnm ls hl
  have hx := hC.1
  have hb := hC.2.1
  have hB : th_B G Γ Γ [] H0 H0 [] := ⟨hI, va_S.rf, th_F_rf⟩
  have hl : lv_has ls 4 [(0, .ref a0)] := hl
  obtain ⟨F, hF0⟩ : ∃ F, F = f_X12_alike (dv G Γ H0) ((a0 : Int)) := ⟨_, rfl⟩
  have hF := hF0.trans (f_X12_alike.eq_1 (dv G Γ H0) ((a0 : Int)))
  refine lv_iconst (v := 0) hx hb dX12_alike_0 (by decide) ?_
  refine lv_istore_n (lv' := [(1, .int 0), (0, .ref a0)]) hx hb dX12_alike_1 rfl hl (by decide) rfl (fun ls hl => ?_)
  refine lv_iconst (v := 0) hx hb dX12_alike_2 (by decide) ?_
  refine lv_istore_n (lv' := [(2, .int 0), (1, .int 0), (0, .ref a0)]) hx hb dX12_alike_3 rfl hl (by decide) rfl (fun ls hl => ?_)
  have lp4 : ∀ (n4 : Nat) (locs : List Loc) (ls : Array Slot) (j4_1 : Int32) (j4_2 : Int32), th_B G Γ Γ [] H0 H0 locs → lv_has ls 4 [(0, .ref a0), (1, .int j4_1), (2, .int j4_2)] → F = dv_lp f_X12_alike_4b (dv G Γ H0, (a0 : Int), j4_1.toInt, j4_2.toInt) → 0 ≤ j4_2.toInt → j4_2.toInt ≤ 9 → (2147483648 : Int) - j4_2.toInt ≤ (n4 : Int) → W p l e ({ frames := 1, cells := 0, slots := 0, locals := 21 } : Room) s m ([.ref a0] : List Value).toArray below meth c H0 locs 0 0 (MQ below (th_Q (fun (v : Option Value) (H1 : Heap) => ∃ r : Int32, v = some (.int r) ∧ (f_X12_alike (dv G Γ H0) (a0 : Int) = (r.toInt, ())) ∧ H0 = H1) G) ([.ref a0] : List Value).toArray s 0 0 (fun q => G.2.2 ≤ q)) (F0 m 4 ls []) := by
    intro n4
    induction n4 with
    | zero => intro locs ls j4_1 j4_2 hB hl hF g4_0 g4_1 hm4; exact absurd hm4 (by have := ti_hi j4_2; omega)
    | succ n4 ih4 =>
      intro locs ls j4_1 j4_2 hB hl hF g4_0 g4_1 hm4
      have lj4_1 := ti_lo j4_1; have uj4_1 := ti_hi j4_1
      have lj4_2 := ti_lo j4_2; have uj4_2 := ti_hi j4_2
      have hm4 : (2147483648 : Int) - j4_2.toInt ≤ (n4 : Int) + 1 := by omega
      replace hF := hF.trans (dv_lp_eq)
      replace hF := hF.trans (congrArg (dv_k f_X12_alike_4b) (f_X12_alike_4c.eq_1 (dv G Γ H0) ((a0 : Int)) (j4_1.toInt) (j4_2.toInt)))
      refine lv_iload_n hx hb dX12_alike_4 rfl (lv_at hl 2 rfl) ?_
      refine lv_aload_n hx hb dX12_alike_5 rfl (lv_at hl 0 rfl) ?_
      refine th_call (th_runV (As := []) (rest := [.int j4_2]) hC mf_X12_many km_X12_115 im_X12_many se_X12_many (c_X12_many l G Γ H0 hB.1 hU a0 h0) rfl rfl ⟨Nat.le_of_ble_eq_true rfl, Nat.le_of_ble_eq_true rfl⟩ hB.1 h0 ro_46 rfl rfl hl.1 rfl (Nat.le_of_ble_eq_true rfl) dX12_alike_6 ⟨Nat.le_refl _, Nat.le_refl _⟩) hB.2.1 (fun v6 H6 locs hp hz hS => ?_)
      obtain ⟨x1, rfl, lx1, ux1, q6_0, q6_1, rfl⟩ := hp
      have hB := th_B_s hB hS
      replace hF := hF.trans (congrArg (dv_k f_X12_alike_4b) (dv_bn2 (q6_1)))
      refine W.eq (g2 := F0 m 9 ls [.int x1, .int j4_2]) rfl ?_
      refine tr_icmp_ge (tgt := 81) hx hb dX12_alike_9 (by decide) (Eq.refl _) (Eq.refl _) (fun c9 => ?_) (fun c9 => ?_)
      · replace hF := hF.trans (congrArg (dv_k f_X12_alike_4b) (if_pos c9))
        refine lv_iload_n hx hb dX12_alike_81 rfl (lv_at hl 1 rfl) ?_
        replace hF := hF.trans (dv_kr)
        exact th_iret hC hH hr hlocks rfl hB.2.1 ⟨_, rfl, (hF0.symm.trans hF), rfl⟩ dX12_alike_82
      · replace hF := hF.trans (congrArg (dv_k f_X12_alike_4b) (if_neg (Int.not_le.mpr c9)))
        refine lv_iload_n hx hb dX12_alike_12 rfl (lv_at hl 2 rfl) ?_
        refine lv_iconst (v := 1) hx hb dX12_alike_13 (by decide) ?_
        refine tr_iadd hx hb dX12_alike_14 (Eq.refl _) tk_1 (by omega) (by omega) (fun x2 ex2 => ?_)
        replace hF := hF.trans (congrArg (dv_k f_X12_alike_4b) (dv_bn (ex2.symm)))
        refine lv_istore_n (lv' := [(3, .int x2), (0, .ref a0), (1, .int j4_1), (2, .int j4_2)]) hx hb dX12_alike_15 rfl hl (by decide) rfl (fun ls hl => ?_)
        have lp16 : ∀ (n16 : Nat) (locs : List Loc) (ls : Array Slot) (j16_1 : Int32) (j16_3 : Int32), th_B G Γ Γ [] H0 H0 locs → lv_has ls 4 [(0, .ref a0), (2, .int j4_2), (1, .int j16_1), (3, .int j16_3)] → F = dv_k f_X12_alike_4b (dv_lp f_X12_alike_16b (dv G Γ H0, (a0 : Int), j4_2.toInt, j16_1.toInt, j16_3.toInt)) → 1 ≤ j16_3.toInt → j16_3.toInt ≤ 9 → (2147483648 : Int) - j16_3.toInt ≤ (n16 : Int) → W p l e ({ frames := 1, cells := 0, slots := 0, locals := 21 } : Room) s m ([.ref a0] : List Value).toArray below meth c H0 locs 0 0 (MQ below (th_Q (fun (v : Option Value) (H1 : Heap) => ∃ r : Int32, v = some (.int r) ∧ (f_X12_alike (dv G Γ H0) (a0 : Int) = (r.toInt, ())) ∧ H0 = H1) G) ([.ref a0] : List Value).toArray s 0 0 (fun q => G.2.2 ≤ q)) (F0 m 16 ls []) := by
          intro n16
          induction n16 with
          | zero => intro locs ls j16_1 j16_3 hB hl hF g16_0 g16_1 hm16; exact absurd hm16 (by have := ti_hi j16_3; omega)
          | succ n16 ih16 =>
            intro locs ls j16_1 j16_3 hB hl hF g16_0 g16_1 hm16
            have lj16_1 := ti_lo j16_1; have uj16_1 := ti_hi j16_1
            have lj16_3 := ti_lo j16_3; have uj16_3 := ti_hi j16_3
            have hm16 : (2147483648 : Int) - j16_3.toInt ≤ (n16 : Int) + 1 := by omega
            replace hF := hF.trans (congrArg (dv_k f_X12_alike_4b) (dv_lp_eq))
            replace hF := hF.trans (congrArg (dv_k f_X12_alike_4b) (congrArg (dv_k f_X12_alike_16b) (f_X12_alike_16c.eq_1 (dv G Γ H0) ((a0 : Int)) (j4_2.toInt) (j16_1.toInt) (j16_3.toInt))))
            refine lv_iload_n hx hb dX12_alike_16 rfl (lv_at hl 3 rfl) ?_
            refine lv_aload_n hx hb dX12_alike_17 rfl (lv_at hl 0 rfl) ?_
            refine th_call (th_runV (As := []) (rest := [.int j16_3]) hC mf_X12_many km_X12_115 im_X12_many se_X12_many (c_X12_many l G Γ H0 hB.1 hU a0 h0) rfl rfl ⟨Nat.le_of_ble_eq_true rfl, Nat.le_of_ble_eq_true rfl⟩ hB.1 h0 ro_46 rfl rfl hl.1 rfl (Nat.le_of_ble_eq_true rfl) dX12_alike_18 ⟨Nat.le_refl _, Nat.le_refl _⟩) hB.2.1 (fun v18 H18 locs hp hz hS => ?_)
            obtain ⟨x3, rfl, lx3, ux3, q18_0, q18_1, rfl⟩ := hp
            have hB := th_B_s hB hS
            replace hF := hF.trans (congrArg (dv_k f_X12_alike_4b) (congrArg (dv_k f_X12_alike_16b) (dv_bn2 (q18_1))))
            refine W.eq (g2 := F0 m 21 ls [.int x3, .int j16_3]) rfl ?_
            refine tr_icmp_ge (tgt := 75) hx hb dX12_alike_21 (by decide) (Eq.refl _) (Eq.refl _) (fun c21 => ?_) (fun c21 => ?_)
            · replace hF := hF.trans (congrArg (dv_k f_X12_alike_4b) (congrArg (dv_k f_X12_alike_16b) (if_pos c21)))
              refine tr_iinc (fun x4 => [(2, .int x4), (0, .ref a0), (1, .int j16_1), (3, .int j16_3)]) hx hb dX12_alike_75 hl (k := 1) rfl (Eq.refl _) tk_1 (by omega) (by omega) (by decide) (fun _ => rfl) (fun x4 ls ex4 hl => ?_)
              replace hF := hF.trans (congrArg (dv_k f_X12_alike_4b) (congrArg (dv_k f_X12_alike_16b) (dv_bn (ex4.symm))))
              refine lv_goto (tgt := 4) hx hb dX12_alike_78 (by decide) ?_
              replace hF := hF.trans (congrArg (dv_k f_X12_alike_4b) (dv_kr))
              replace hF := hF.trans (dv_kl)
              exact ih4 locs ls j16_1 x4 hB (lv_sub hl [1, 2, 0] rfl) hF (by omega) (by omega) (by omega)
            · replace hF := hF.trans (congrArg (dv_k f_X12_alike_4b) (congrArg (dv_k f_X12_alike_16b) (if_neg (Int.not_le.mpr c21))))
              refine lv_iload_n hx hb dX12_alike_24 rfl (lv_at hl 2 rfl) ?_
              refine lv_aload_n hx hb dX12_alike_25 rfl (lv_at hl 0 rfl) ?_
              refine lv_iload_n hx hb dX12_alike_26 rfl (lv_at hl 1 rfl) ?_
              refine th_call (th_runV (As := [.int j4_2]) (rest := [.int j16_1]) hC mf_X12_isLaid km_X12_137 im_X12_isLaid se_X12_isLaid (c_X12_isLaid l G Γ H0 hB.1 hU a0 h0 j4_2 (by omega) (by omega)) rfl rfl ⟨Nat.le_of_ble_eq_true rfl, Nat.le_of_ble_eq_true rfl⟩ hB.1 h0 ro_46 rfl rfl hl.1 rfl (Nat.le_of_ble_eq_true rfl) dX12_alike_27 ⟨Nat.le_refl _, Nat.le_refl _⟩) hB.2.1 (fun v27 H27 locs hp hz hS => ?_)
              obtain ⟨x5, rfl, lx5, ux5, q27_0, q27_1, q27_2, rfl⟩ := hp
              have hB := th_B_s hB hS
              replace hF := hF.trans (congrArg (dv_k f_X12_alike_4b) (congrArg (dv_k f_X12_alike_16b) (dv_bn2 (q27_2))))
              refine W.eq (g2 := F0 m 30 ls [.int x5, .int j16_1]) rfl ?_
              have jn67 : ∀ (locs : List Loc) (ls : Array Slot) (s67_1 : Int32), th_B G Γ Γ [] H0 H0 locs → lv_has ls 4 [(0, .ref a0), (2, .int j4_2), (3, .int j16_3)] → F = dv_k f_X12_alike_4b (dv_k f_X12_alike_16b (f_X12_alike_67 (dv G Γ H0) ((a0 : Int)) (j4_2.toInt) (j16_3.toInt) (j16_1.toInt) (s67_1.toInt))) → 0 ≤ s67_1.toInt → s67_1.toInt ≤ 1 → W p l e ({ frames := 1, cells := 0, slots := 0, locals := 21 } : Room) s m ([.ref a0] : List Value).toArray below meth c H0 locs 0 0 (MQ below (th_Q (fun (v : Option Value) (H1 : Heap) => ∃ r : Int32, v = some (.int r) ∧ (f_X12_alike (dv G Γ H0) (a0 : Int) = (r.toInt, ())) ∧ H0 = H1) G) ([.ref a0] : List Value).toArray s 0 0 (fun q => G.2.2 ≤ q)) (F0 m 67 ls [.int s67_1, .int j16_1]) := by
                intro locs ls s67_1 hB hl hF g67_0 g67_1
                have ls67_1 := ti_lo s67_1; have us67_1 := ti_hi s67_1
                replace hF := hF.trans (congrArg (dv_k f_X12_alike_4b) (congrArg (dv_k f_X12_alike_16b) (f_X12_alike_67.eq_1 (dv G Γ H0) ((a0 : Int)) (j4_2.toInt) (j16_3.toInt) (j16_1.toInt) (s67_1.toInt))))
                refine lv_iadd hx hb dX12_alike_67 ?_
                refine lv_topi (fun x6 ex6 => ?_)
                have lx6 := ti_lo x6; have ux6 := ti_hi x6
                replace hF := hF.trans (congrArg (dv_k f_X12_alike_4b) (congrArg (dv_k f_X12_alike_16b) (dv_bn (dv_add_e (Eq.refl _) (Eq.refl _) ex6))))
                refine lv_istore_n (lv' := [(1, .int x6), (0, .ref a0), (2, .int j4_2), (3, .int j16_3)]) hx hb dX12_alike_68 rfl hl (by decide) rfl (fun ls hl => ?_)
                refine tr_iinc (fun x7 => [(3, .int x7), (1, .int x6), (0, .ref a0), (2, .int j4_2)]) hx hb dX12_alike_69 hl (k := 3) rfl (Eq.refl _) tk_1 (by omega) (by omega) (by decide) (fun _ => rfl) (fun x7 ls ex7 hl => ?_)
                replace hF := hF.trans (congrArg (dv_k f_X12_alike_4b) (congrArg (dv_k f_X12_alike_16b) (dv_bn (ex7.symm))))
                refine lv_goto (tgt := 16) hx hb dX12_alike_72 (by decide) ?_
                replace hF := hF.trans (congrArg (dv_k f_X12_alike_4b) (dv_kl))
                exact ih16 locs ls x6 x7 hB (lv_sub hl [2, 3, 1, 0] rfl) hF (by omega) (by omega) (by omega)
              have jn66 : ∀ (locs : List Loc) (ls : Array Slot) , th_B G Γ Γ [] H0 H0 locs → lv_has ls 4 [(0, .ref a0), (2, .int j4_2), (3, .int j16_3)] → F = dv_k f_X12_alike_4b (dv_k f_X12_alike_16b (f_X12_alike_66 (dv G Γ H0) ((a0 : Int)) (j4_2.toInt) (j16_3.toInt) (j16_1.toInt))) → W p l e ({ frames := 1, cells := 0, slots := 0, locals := 21 } : Room) s m ([.ref a0] : List Value).toArray below meth c H0 locs 0 0 (MQ below (th_Q (fun (v : Option Value) (H1 : Heap) => ∃ r : Int32, v = some (.int r) ∧ (f_X12_alike (dv G Γ H0) (a0 : Int) = (r.toInt, ())) ∧ H0 = H1) G) ([.ref a0] : List Value).toArray s 0 0 (fun q => G.2.2 ≤ q)) (F0 m 66 ls [.int j16_1]) := by
                intro locs ls hB hl hF
                replace hF := hF.trans (congrArg (dv_k f_X12_alike_4b) (congrArg (dv_k f_X12_alike_16b) (f_X12_alike_66.eq_1 (dv G Γ H0) ((a0 : Int)) (j4_2.toInt) (j16_3.toInt) (j16_1.toInt))))
                refine lv_iconst (v := 0) hx hb dX12_alike_66 (by decide) ?_
                exact jn67 locs ls 0 hB (lv_sub hl [0, 1, 2] rfl) (by rw [tk_0]; exact hF) (by decide) (by decide)
              refine tr_if_eq (tgt := 66) hx hb dX12_alike_30 (by decide) (Eq.refl _) (fun c30 => ?_) (fun c30 => ?_)
              · replace hF := hF.trans (congrArg (dv_k f_X12_alike_4b) (congrArg (dv_k f_X12_alike_16b) (if_pos c30)))
                exact jn66 locs ls hB (lv_sub hl [0, 1, 3] rfl) hF
              · replace hF := hF.trans (congrArg (dv_k f_X12_alike_4b) (congrArg (dv_k f_X12_alike_16b) (if_neg c30)))
                refine lv_aload_n hx hb dX12_alike_33 rfl (lv_at hl 0 rfl) ?_
                refine lv_iload_n hx hb dX12_alike_34 rfl (lv_at hl 3 rfl) ?_
                refine th_call (th_runV (As := [.int j16_3]) (rest := [.int j16_1]) hC mf_X12_isLaid km_X12_137 im_X12_isLaid se_X12_isLaid (c_X12_isLaid l G Γ H0 hB.1 hU a0 h0 j16_3 (by omega) (by omega)) rfl rfl ⟨Nat.le_of_ble_eq_true rfl, Nat.le_of_ble_eq_true rfl⟩ hB.1 h0 ro_46 rfl rfl hl.1 rfl (Nat.le_of_ble_eq_true rfl) dX12_alike_35 ⟨Nat.le_refl _, Nat.le_refl _⟩) hB.2.1 (fun v35 H35 locs hp hz hS => ?_)
                obtain ⟨x8, rfl, lx8, ux8, q35_0, q35_1, q35_2, rfl⟩ := hp
                have hB := th_B_s hB hS
                replace hF := hF.trans (congrArg (dv_k f_X12_alike_4b) (congrArg (dv_k f_X12_alike_16b) (dv_bn2 (q35_2))))
                refine W.eq (g2 := F0 m 38 ls [.int x8, .int j16_1]) rfl ?_
                refine tr_if_eq (tgt := 66) hx hb dX12_alike_38 (by decide) (Eq.refl _) (fun c38 => ?_) (fun c38 => ?_)
                · replace hF := hF.trans (congrArg (dv_k f_X12_alike_4b) (congrArg (dv_k f_X12_alike_16b) (if_pos c38)))
                  exact jn66 locs ls hB (lv_sub hl [0, 1, 3] rfl) hF
                · replace hF := hF.trans (congrArg (dv_k f_X12_alike_4b) (congrArg (dv_k f_X12_alike_16b) (if_neg c38)))
                  refine lv_aload_n hx hb dX12_alike_41 rfl (lv_at hl 0 rfl) ?_
                  refine th_getO (j := 2) (r2 := 48) hC cf_X12 hB.1 h0 ro_46 rfl rfl kf_X12_28 dX12_alike_42 (fun b9 mb9 hb9 => ?_)
                  refine lv_bipush (v := 29) hx hb dX12_alike_45 (by decide) ?_
                  refine lv_iload_n hx hb dX12_alike_47 rfl (lv_at hl 1 rfl) ?_
                  refine tr_iadd hx hb dX12_alike_48 tk_29 (Eq.refl _) (by omega) (by omega) (fun x10 ex10 => ?_)
                  replace hF := hF.trans (congrArg (dv_k f_X12_alike_4b) (congrArg (dv_k f_X12_alike_16b) (dv_bn (ex10.symm))))
                  refine th_ialdF hC hB.1 hb9 ro_48 rfl (Eq.refl _) (by omega) (by omega) (ek_side (by omega) (by omega)) dX12_alike_49 (fun x11 mx11 lx11 ux11 => ?_)
                  replace hF := hF.trans (congrArg (dv_k f_X12_alike_4b) (congrArg (dv_k f_X12_alike_16b) (dv_bn (dv_aldI hB.1 hU hb9 ow_48 (z := x10.toInt) mx11 (by omega)))))
                  refine lv_aload_n hx hb dX12_alike_50 rfl (lv_at hl 0 rfl) ?_
                  refine th_getK hC cf_X12 hB.1 h0 ro_46 rfl (j := 2) (by decide) mb9 kf_X12_28 dX12_alike_51 ?_
                  refine lv_bipush (v := 29) hx hb dX12_alike_54 (by decide) ?_
                  refine lv_iload_n hx hb dX12_alike_56 rfl (lv_at hl 3 rfl) ?_
                  refine tr_iadd hx hb dX12_alike_57 tk_29 (Eq.refl _) (by omega) (by omega) (fun x12 ex12 => ?_)
                  replace hF := hF.trans (congrArg (dv_k f_X12_alike_4b) (congrArg (dv_k f_X12_alike_16b) (dv_bn (ex12.symm))))
                  refine th_ialdF hC hB.1 hb9 ro_48 rfl (Eq.refl _) (by omega) (by omega) (ek_side (by omega) (by omega)) dX12_alike_58 (fun x13 mx13 lx13 ux13 => ?_)
                  replace hF := hF.trans (congrArg (dv_k f_X12_alike_4b) (congrArg (dv_k f_X12_alike_16b) (dv_bn (dv_aldI hB.1 hU hb9 ow_48 (z := x12.toInt) mx13 (by omega)))))
                  refine tr_icmp_ne (tgt := 66) hx hb dX12_alike_59 (by decide) (Eq.refl _) (Eq.refl _) (fun c59 => ?_) (fun c59 => ?_)
                  · replace hF := hF.trans (congrArg (dv_k f_X12_alike_4b) (congrArg (dv_k f_X12_alike_16b) (if_pos c59)))
                    exact jn66 locs ls hB (lv_sub hl [0, 1, 3] rfl) hF
                  · replace hF := hF.trans (congrArg (dv_k f_X12_alike_4b) (congrArg (dv_k f_X12_alike_16b) (if_neg (not_not_intro c59))))
                    refine lv_iconst (v := 1) hx hb dX12_alike_62 (by decide) ?_
                    refine lv_goto (tgt := 67) hx hb dX12_alike_63 (by decide) ?_
                    exact jn67 locs ls 1 hB (lv_sub hl [0, 1, 3] rfl) (by rw [tk_1]; exact hF) (by decide) (by decide)
        exact lp16 ((2147483648 : Int) - (x2.toInt)).toNat locs ls j4_1 x2 hB (lv_sub hl [1, 3, 2, 0] rfl) hF (by omega) (by omega) (by omega)
  exact lp4 ((2147483648 : Int) - (0)).toNat [] ls 0 0 hB (lv_sub hl [2, 1, 0] rfl) (by rw [tk_0]; exact hF) (by decide) (by decide) (by have w0 := tk_0; omega)

set_option maxHeartbeats 4000000 in
set_option maxRecDepth 100000 in
theorem c_X12_firstBare (l : Launch) (G : th_G) (Γ : th_Ga) (H0 : Heap) (hI : th_I G Γ H0) (hU : dv_U Γ) (a0 : Nat) (h0 : Γ a0 = (46, 0)) (p1 : Int32) (f1 : 0 ≤ p1.toInt) (g1 : p1.toInt ≤ 12) (p2 : Int32) (f2 : 0 ≤ p2.toInt) (g2 : p2.toInt ≤ 12) : Met l yX12_firstBare (.code yX12_firstBare cX12_firstBare 5 (some FieldType.int) :: th_tb) ({ frames := 1, cells := 0, slots := 0, locals := 21 } : Room) (th_P [.ref a0, .int p1, .int p2] G H0) (th_Q (fun (v : Option Value) (H1 : Heap) => ∃ r : Int32, v = some (.int r) ∧ (-1) ≤ r.toInt ∧ r.toInt ≤ 143 ∧ (f_X12_firstBare (dv G Γ H0) (a0 : Int) p1.toInt p2.toInt = (r.toInt, ())) ∧ H0 = H1) G) 0 0 (fun q => G.2.2 ≤ q) := by
  refine th_met RX12 (by decide) rfl (Nat.le_of_ble_eq_true rfl) ?_
  intro p e s m below meth c hC hH hr hlocks hnm ls hl
  have hx := hC.1
  have hb := hC.2.1
  have hB : th_B G Γ Γ [] H0 H0 [] := ⟨hI, va_S.rf, th_F_rf⟩
  have hl : lv_has ls 5 [(0, .ref a0), (1, .int p1), (2, .int p2)] := hl
  have lp1 := ti_lo p1; have up1 := ti_hi p1
  have lp2 := ti_lo p2; have up2 := ti_hi p2
  obtain ⟨F, hF0⟩ : ∃ F, F = f_X12_firstBare (dv G Γ H0) ((a0 : Int)) (p1.toInt) (p2.toInt) := ⟨_, rfl⟩
  have hF := hF0.trans (f_X12_firstBare.eq_1 (dv G Γ H0) ((a0 : Int)) (p1.toInt) (p2.toInt))
  refine lv_iconst (v := 0) hx hb dX12_firstBare_0 (by decide) ?_
  refine lv_istore_n (lv' := [(3, .int 0), (0, .ref a0), (1, .int p1), (2, .int p2)]) hx hb dX12_firstBare_1 rfl hl (by decide) rfl (fun ls hl => ?_)
  have lp2 : ∀ (n2 : Nat) (locs : List Loc) (ls : Array Slot) (j2_3 : Int32), th_B G Γ Γ [] H0 H0 locs → lv_has ls 5 [(0, .ref a0), (1, .int p1), (2, .int p2), (3, .int j2_3)] → F = dv_lp f_X12_firstBare_2b (dv G Γ H0, (a0 : Int), p1.toInt, p2.toInt, j2_3.toInt) → 0 ≤ j2_3.toInt → j2_3.toInt ≤ 12 → (2147483648 : Int) - j2_3.toInt ≤ (n2 : Int) → W p l e ({ frames := 1, cells := 0, slots := 0, locals := 21 } : Room) s m ([.ref a0, .int p1, .int p2] : List Value).toArray below meth c H0 locs 0 0 (MQ below (th_Q (fun (v : Option Value) (H1 : Heap) => ∃ r : Int32, v = some (.int r) ∧ (-1) ≤ r.toInt ∧ r.toInt ≤ 143 ∧ (f_X12_firstBare (dv G Γ H0) (a0 : Int) p1.toInt p2.toInt = (r.toInt, ())) ∧ H0 = H1) G) ([.ref a0, .int p1, .int p2] : List Value).toArray s 0 0 (fun q => G.2.2 ≤ q)) (F0 m 2 ls []) := by
    intro n2
    induction n2 with
    | zero => intro locs ls j2_3 hB hl hF g2_0 g2_1 hm2; exact absurd hm2 (by have := ti_hi j2_3; omega)
    | succ n2 ih2 =>
      intro locs ls j2_3 hB hl hF g2_0 g2_1 hm2
      have lj2_3 := ti_lo j2_3; have uj2_3 := ti_hi j2_3
      have hm2 : (2147483648 : Int) - j2_3.toInt ≤ (n2 : Int) + 1 := by omega
      replace hF := hF.trans (dv_lp_eq)
      replace hF := hF.trans (congrArg (dv_k f_X12_firstBare_2b) (f_X12_firstBare_2c.eq_1 (dv G Γ H0) ((a0 : Int)) (p1.toInt) (p2.toInt) (j2_3.toInt)))
      refine lv_iload_n hx hb dX12_firstBare_2 rfl (lv_at hl 3 rfl) ?_
      refine lv_iload_n hx hb dX12_firstBare_3 rfl (lv_at hl 2 rfl) ?_
      refine tr_icmp_ge (tgt := 50) hx hb dX12_firstBare_4 (by decide) (Eq.refl _) (Eq.refl _) (fun c4 => ?_) (fun c4 => ?_)
      · replace hF := hF.trans (congrArg (dv_k f_X12_firstBare_2b) (if_pos c4))
        refine lv_iconst (v := (-1)) hx hb dX12_firstBare_50 (by decide) ?_
        replace hF := hF.trans (dv_kr)
        exact th_iret hC hH hr hlocks rfl hB.2.1 ⟨_, rfl, by decide, by decide, (hF0.symm.trans (hF.trans (by rw [tk_m1]))), rfl⟩ dX12_firstBare_51
      · replace hF := hF.trans (congrArg (dv_k f_X12_firstBare_2b) (if_neg (Int.not_le.mpr c4)))
        refine lv_iconst (v := 0) hx hb dX12_firstBare_7 (by decide) ?_
        refine lv_istore (lv' := [(4, .int 0), (0, .ref a0), (1, .int p1), (2, .int p2), (3, .int j2_3)]) hx hb dX12_firstBare_8 hl (by decide) rfl (fun ls hl => ?_)
        have lp10 : ∀ (n10 : Nat) (locs : List Loc) (ls : Array Slot) (j10_4 : Int32), th_B G Γ Γ [] H0 H0 locs → lv_has ls 5 [(0, .ref a0), (1, .int p1), (2, .int p2), (3, .int j2_3), (4, .int j10_4)] → F = dv_k f_X12_firstBare_2b (dv_lp f_X12_firstBare_10b (dv G Γ H0, (a0 : Int), p1.toInt, p2.toInt, j2_3.toInt, j10_4.toInt)) → 0 ≤ j10_4.toInt → j10_4.toInt ≤ 12 → (2147483648 : Int) - j10_4.toInt ≤ (n10 : Int) → W p l e ({ frames := 1, cells := 0, slots := 0, locals := 21 } : Room) s m ([.ref a0, .int p1, .int p2] : List Value).toArray below meth c H0 locs 0 0 (MQ below (th_Q (fun (v : Option Value) (H1 : Heap) => ∃ r : Int32, v = some (.int r) ∧ (-1) ≤ r.toInt ∧ r.toInt ≤ 143 ∧ (f_X12_firstBare (dv G Γ H0) (a0 : Int) p1.toInt p2.toInt = (r.toInt, ())) ∧ H0 = H1) G) ([.ref a0, .int p1, .int p2] : List Value).toArray s 0 0 (fun q => G.2.2 ≤ q)) (F0 m 10 ls []) := by
          intro n10
          induction n10 with
          | zero => intro locs ls j10_4 hB hl hF g10_0 g10_1 hm10; exact absurd hm10 (by have := ti_hi j10_4; omega)
          | succ n10 ih10 =>
            intro locs ls j10_4 hB hl hF g10_0 g10_1 hm10
            have lj10_4 := ti_lo j10_4; have uj10_4 := ti_hi j10_4
            have hm10 : (2147483648 : Int) - j10_4.toInt ≤ (n10 : Int) + 1 := by omega
            replace hF := hF.trans (congrArg (dv_k f_X12_firstBare_2b) (dv_lp_eq))
            replace hF := hF.trans (congrArg (dv_k f_X12_firstBare_2b) (congrArg (dv_k f_X12_firstBare_10b) (f_X12_firstBare_10c.eq_1 (dv G Γ H0) ((a0 : Int)) (p1.toInt) (p2.toInt) (j2_3.toInt) (j10_4.toInt))))
            refine lv_iload hx hb dX12_firstBare_10 (lv_at hl 4 rfl) ?_
            refine lv_iload_n hx hb dX12_firstBare_12 rfl (lv_at hl 1 rfl) ?_
            refine tr_icmp_ge (tgt := 44) hx hb dX12_firstBare_13 (by decide) (Eq.refl _) (Eq.refl _) (fun c13 => ?_) (fun c13 => ?_)
            · replace hF := hF.trans (congrArg (dv_k f_X12_firstBare_2b) (congrArg (dv_k f_X12_firstBare_10b) (if_pos c13)))
              refine tr_iinc (fun x1 => [(3, .int x1), (0, .ref a0), (1, .int p1), (2, .int p2), (4, .int j10_4)]) hx hb dX12_firstBare_44 hl (k := 3) rfl (Eq.refl _) tk_1 (by omega) (by omega) (by decide) (fun _ => rfl) (fun x1 ls ex1 hl => ?_)
              replace hF := hF.trans (congrArg (dv_k f_X12_firstBare_2b) (congrArg (dv_k f_X12_firstBare_10b) (dv_bn (ex1.symm))))
              refine lv_goto (tgt := 2) hx hb dX12_firstBare_47 (by decide) ?_
              replace hF := hF.trans (congrArg (dv_k f_X12_firstBare_2b) (dv_kr))
              replace hF := hF.trans (dv_kl)
              exact ih2 locs ls x1 hB (lv_sub hl [1, 2, 3, 0] rfl) hF (by omega) (by omega) (by omega)
            · replace hF := hF.trans (congrArg (dv_k f_X12_firstBare_2b) (congrArg (dv_k f_X12_firstBare_10b) (if_neg (Int.not_le.mpr c13))))
              refine lv_aload_n hx hb dX12_firstBare_16 rfl (lv_at hl 0 rfl) ?_
              refine th_getO (j := 29) (r2 := 59) hC cf_X12 hB.1 h0 ro_46 rfl rfl kf_X12_66 dX12_firstBare_17 (fun b2 mb2 hb2 => ?_)
              refine lv_iload_n hx hb dX12_firstBare_20 rfl (lv_at hl 3 rfl) ?_
              refine th_ialdF hC hB.1 hb2 ro_59 rfl (Eq.refl _) (by omega) (by omega) rfl dX12_firstBare_21 (fun x3 mx3 lx3 ux3 => ?_)
              replace hF := hF.trans (congrArg (dv_k f_X12_firstBare_2b) (congrArg (dv_k f_X12_firstBare_10b) (dv_bn (dv_aldI hB.1 hU hb2 ow_59 (z := j2_3.toInt) mx3 (by omega)))))
              refine lv_iload hx hb dX12_firstBare_22 (lv_at hl 4 rfl) ?_
              refine th_call (th_runS (As := [.int x3, .int j10_4]) (rest := []) hC mf_X12_isIn km_X12_348 st_X12_isIn (c_X12_isIn l G Γ H0 hB.1 hU x3 j10_4 (by omega) (by omega)) rfl rfl ⟨Nat.le_of_ble_eq_true rfl, Nat.le_of_ble_eq_true rfl⟩ rfl hl.1 rfl (Nat.le_of_ble_eq_true rfl) dX12_firstBare_24 ⟨Nat.le_refl _, Nat.le_refl _⟩) hB.2.1 (fun v24 H24 locs hp hz hS => ?_)
              obtain ⟨x4, rfl, lx4, ux4, q24_0, q24_1, rfl⟩ := hp
              have hB := th_B_s hB hS
              replace hF := hF.trans (congrArg (dv_k f_X12_firstBare_2b) (congrArg (dv_k f_X12_firstBare_10b) (dv_bn2 (q24_1))))
              refine W.eq (g2 := F0 m 27 ls [.int x4]) rfl ?_
              refine tr_if_ne (tgt := 38) hx hb dX12_firstBare_27 (by decide) (Eq.refl _) (fun c27 => ?_) (fun c27 => ?_)
              · replace hF := hF.trans (congrArg (dv_k f_X12_firstBare_2b) (congrArg (dv_k f_X12_firstBare_10b) (if_pos c27)))
                refine tr_iinc (fun x5 => [(4, .int x5), (0, .ref a0), (1, .int p1), (2, .int p2), (3, .int j2_3)]) hx hb dX12_firstBare_38 hl (k := 4) rfl (Eq.refl _) tk_1 (by omega) (by omega) (by decide) (fun _ => rfl) (fun x5 ls ex5 hl => ?_)
                replace hF := hF.trans (congrArg (dv_k f_X12_firstBare_2b) (congrArg (dv_k f_X12_firstBare_10b) (dv_bn (ex5.symm))))
                refine lv_goto (tgt := 10) hx hb dX12_firstBare_41 (by decide) ?_
                replace hF := hF.trans (congrArg (dv_k f_X12_firstBare_2b) (dv_kl))
                exact ih10 locs ls x5 hB (lv_sub hl [1, 2, 3, 4, 0] rfl) hF (by omega) (by omega) (by omega)
              · replace hF := hF.trans (congrArg (dv_k f_X12_firstBare_2b) (congrArg (dv_k f_X12_firstBare_10b) (if_neg (not_not_intro c27))))
                refine lv_bipush (v := 12) hx hb dX12_firstBare_30 (by decide) ?_
                refine lv_iload_n hx hb dX12_firstBare_32 rfl (lv_at hl 3 rfl) ?_
                refine tr_imul hx hb dX12_firstBare_33 tk_12 (Eq.refl _) (by omega) (by omega) (fun x6 ex6 => ?_)
                replace hF := hF.trans (congrArg (dv_k f_X12_firstBare_2b) (congrArg (dv_k f_X12_firstBare_10b) (dv_bn (ex6.symm))))
                refine lv_iload hx hb dX12_firstBare_34 (lv_at hl 4 rfl) ?_
                refine tr_iadd hx hb dX12_firstBare_36 (Eq.refl _) (Eq.refl _) (by omega) (by omega) (fun x7 ex7 => ?_)
                replace hF := hF.trans (congrArg (dv_k f_X12_firstBare_2b) (congrArg (dv_k f_X12_firstBare_10b) (dv_bn (ex7.symm))))
                replace hF := hF.trans (congrArg (dv_k f_X12_firstBare_2b) (dv_kr))
                replace hF := hF.trans (dv_kr)
                exact th_iret hC hH hr hlocks rfl hB.2.1 ⟨_, rfl, by omega, by omega, (hF0.symm.trans hF), rfl⟩ dX12_firstBare_37
        exact lp10 ((2147483648 : Int) - (0)).toNat locs ls 0 hB (lv_sub hl [1, 2, 3, 4, 0] rfl) (by rw [tk_0]; exact hF) (by decide) (by decide) (by have w0 := tk_0; omega)
  exact lp2 ((2147483648 : Int) - (0)).toNat [] ls 0 hB (lv_sub hl [1, 2, 3, 0] rfl) (by rw [tk_0]; exact hF) (by decide) (by decide) (by have w0 := tk_0; omega)

set_option maxHeartbeats 4000000 in
set_option maxRecDepth 100000 in
theorem c_X12_isFree (l : Launch) (G : th_G) (Γ : th_Ga) (H0 : Heap) (hI : th_I G Γ H0) (hU : dv_U Γ) (a0 : Nat) (h0 : Γ a0 = (46, 0)) (p1 : Int32) (f1 : 0 ≤ p1.toInt) (g1 : p1.toInt ≤ 12) (p2 : Int32) (f2 : 0 ≤ p2.toInt) (g2 : p2.toInt ≤ 11) (p3 : Int32) (f3 : 0 ≤ p3.toInt) (g3 : p3.toInt ≤ 11) (p4 : Int32) (f4 : 0 ≤ p4.toInt) (g4 : p4.toInt ≤ 12) (p5 : Int32) (f5 : 0 ≤ p5.toInt) (g5 : p5.toInt ≤ 12) : Met l yX12_isFree (.code yX12_isFree cX12_isFree 8 (some FieldType.boolean) :: th_tb) ({ frames := 0, cells := 0, slots := 0, locals := 0 } : Room) (th_P [.ref a0, .int p1, .int p2, .int p3, .int p4, .int p5] G H0) (th_Q (fun (v : Option Value) (H1 : Heap) => ∃ r : Int32, v = some (.int r) ∧ 0 ≤ r.toInt ∧ r.toInt ≤ 1 ∧ (r.toInt = 1 → p2.toInt + p1.toInt ≤ p4.toInt ∧ p3.toInt + p1.toInt ≤ p5.toInt) ∧ (r.toInt = 1 → ∀ z : Int, p3.toInt ≤ z → z < p3.toInt + p1.toInt → mo_x G H0 a0 29 z &&& mo_mk p1 p2 = 0) ∧ (f_X12_isFree (dv G Γ H0) (a0 : Int) p1.toInt p2.toInt p3.toInt p4.toInt p5.toInt = (r.toInt, ())) ∧ H0 = H1) G) 0 0 (fun q => G.2.2 ≤ q) := by
  refine th_met RX12 (by decide) rfl (Nat.le_of_ble_eq_true rfl) ?_
  intro p e s m below meth c hC hH hr hlocks hnm ls hl
  have hx := hC.1
  have hb := hC.2.1
  have hB : th_B G Γ Γ [] H0 H0 [] := ⟨hI, va_S.rf, th_F_rf⟩
  have hl : lv_has ls 8 [(0, .ref a0), (1, .int p1), (2, .int p2), (3, .int p3), (4, .int p4), (5, .int p5)] := hl
  have lp1 := ti_lo p1; have up1 := ti_hi p1
  have lp2 := ti_lo p2; have up2 := ti_hi p2
  have lp3 := ti_lo p3; have up3 := ti_hi p3
  have lp4 := ti_lo p4; have up4 := ti_hi p4
  have lp5 := ti_lo p5; have up5 := ti_hi p5
  obtain ⟨F, hF0⟩ : ∃ F, F = f_X12_isFree (dv G Γ H0) ((a0 : Int)) (p1.toInt) (p2.toInt) (p3.toInt) (p4.toInt) (p5.toInt) := ⟨_, rfl⟩
  have hF := hF0.trans (f_X12_isFree.eq_1 (dv G Γ H0) ((a0 : Int)) (p1.toInt) (p2.toInt) (p3.toInt) (p4.toInt) (p5.toInt))
  refine lv_iload_n hx hb dX12_isFree_0 rfl (lv_at hl 2 rfl) ?_
  refine lv_iload_n hx hb dX12_isFree_1 rfl (lv_at hl 1 rfl) ?_
  refine tr_iadd hx hb dX12_isFree_2 (Eq.refl _) (Eq.refl _) (by omega) (by omega) (fun x1 ex1 => ?_)
  replace hF := hF.trans (dv_bn (ex1.symm))
  refine lv_iload hx hb dX12_isFree_3 (lv_at hl 4 rfl) ?_
  have jn21 : ∀ (locs : List Loc) (ls : Array Slot) (s21_0 : Int32), th_B G Γ Γ [] H0 H0 locs → lv_has ls 8 [(0, .ref a0), (1, .int p1), (2, .int p2), (3, .int p3)] → F = f_X12_isFree_21 (dv G Γ H0) ((a0 : Int)) (p1.toInt) (p2.toInt) (p3.toInt) (s21_0.toInt) → 0 ≤ s21_0.toInt → s21_0.toInt ≤ 1 → (s21_0.toInt = 1 → p2.toInt + p1.toInt ≤ p4.toInt ∧ p3.toInt + p1.toInt ≤ p5.toInt) → W p l e ({ frames := 0, cells := 0, slots := 0, locals := 0 } : Room) s m ([.ref a0, .int p1, .int p2, .int p3, .int p4, .int p5] : List Value).toArray below meth c H0 locs 0 0 (MQ below (th_Q (fun (v : Option Value) (H1 : Heap) => ∃ r : Int32, v = some (.int r) ∧ 0 ≤ r.toInt ∧ r.toInt ≤ 1 ∧ (r.toInt = 1 → p2.toInt + p1.toInt ≤ p4.toInt ∧ p3.toInt + p1.toInt ≤ p5.toInt) ∧ (r.toInt = 1 → ∀ z : Int, p3.toInt ≤ z → z < p3.toInt + p1.toInt → mo_x G H0 a0 29 z &&& mo_mk p1 p2 = 0) ∧ (f_X12_isFree (dv G Γ H0) (a0 : Int) p1.toInt p2.toInt p3.toInt p4.toInt p5.toInt = (r.toInt, ())) ∧ H0 = H1) G) ([.ref a0, .int p1, .int p2, .int p3, .int p4, .int p5] : List Value).toArray s 0 0 (fun q => G.2.2 ≤ q)) (F0 m 21 ls [.int s21_0]) := by
    intro locs ls s21_0 hB hl hF g21_0 g21_1 g21_2
    have ls21_0 := ti_lo s21_0; have us21_0 := ti_hi s21_0
    replace hF := hF.trans (f_X12_isFree_21.eq_1 (dv G Γ H0) ((a0 : Int)) (p1.toInt) (p2.toInt) (p3.toInt) (s21_0.toInt))
    refine lv_istore (lv' := [(6, .int s21_0), (0, .ref a0), (1, .int p1), (2, .int p2), (3, .int p3)]) hx hb dX12_isFree_21 hl (by decide) rfl (fun ls hl => ?_)
    refine lv_iload_n hx hb dX12_isFree_23 rfl (lv_at hl 4 rfl) ?_
    refine lv_istore (lv' := [(7, .int p3), (6, .int s21_0), (0, .ref a0), (1, .int p1), (2, .int p2), (3, .int p3)]) hx hb dX12_isFree_24 hl (by decide) rfl (fun ls hl => ?_)
    have lp26 : ∀ (n26 : Nat) (locs : List Loc) (ls : Array Slot) (j26_6 : Int32) (j26_7 : Int32), th_B G Γ Γ [] H0 H0 locs → lv_has ls 8 [(0, .ref a0), (1, .int p1), (2, .int p2), (3, .int p3), (6, .int j26_6), (7, .int j26_7)] → F = dv_lp f_X12_isFree_26b (dv G Γ H0, (a0 : Int), p1.toInt, p2.toInt, p3.toInt, j26_6.toInt, j26_7.toInt) → 0 ≤ j26_6.toInt → j26_6.toInt ≤ 1 → 0 ≤ j26_7.toInt → j26_7.toInt ≤ 23 → (j26_6.toInt = 1 → p2.toInt + p1.toInt ≤ p4.toInt ∧ p3.toInt + p1.toInt ≤ p5.toInt) → (j26_6.toInt = 1 → ∀ z : Int, p3.toInt ≤ z → z < j26_7.toInt → mo_x G H0 a0 29 z &&& mo_mk p1 p2 = 0) → (2147483648 : Int) - j26_7.toInt ≤ (n26 : Int) → W p l e ({ frames := 0, cells := 0, slots := 0, locals := 0 } : Room) s m ([.ref a0, .int p1, .int p2, .int p3, .int p4, .int p5] : List Value).toArray below meth c H0 locs 0 0 (MQ below (th_Q (fun (v : Option Value) (H1 : Heap) => ∃ r : Int32, v = some (.int r) ∧ 0 ≤ r.toInt ∧ r.toInt ≤ 1 ∧ (r.toInt = 1 → p2.toInt + p1.toInt ≤ p4.toInt ∧ p3.toInt + p1.toInt ≤ p5.toInt) ∧ (r.toInt = 1 → ∀ z : Int, p3.toInt ≤ z → z < p3.toInt + p1.toInt → mo_x G H0 a0 29 z &&& mo_mk p1 p2 = 0) ∧ (f_X12_isFree (dv G Γ H0) (a0 : Int) p1.toInt p2.toInt p3.toInt p4.toInt p5.toInt = (r.toInt, ())) ∧ H0 = H1) G) ([.ref a0, .int p1, .int p2, .int p3, .int p4, .int p5] : List Value).toArray s 0 0 (fun q => G.2.2 ≤ q)) (F0 m 26 ls []) := by
      intro n26
      induction n26 with
      | zero => intro locs ls j26_6 j26_7 hB hl hF g26_0 g26_1 g26_2 g26_3 g26_4 g26_5 hm26; exact absurd hm26 (by have := ti_hi j26_7; omega)
      | succ n26 ih26 =>
        intro locs ls j26_6 j26_7 hB hl hF g26_0 g26_1 g26_2 g26_3 g26_4 g26_5 hm26
        have lj26_6 := ti_lo j26_6; have uj26_6 := ti_hi j26_6
        have lj26_7 := ti_lo j26_7; have uj26_7 := ti_hi j26_7
        have hm26 : (2147483648 : Int) - j26_7.toInt ≤ (n26 : Int) + 1 := by omega
        replace hF := hF.trans (dv_lp_eq)
        replace hF := hF.trans (congrArg (dv_k f_X12_isFree_26b) (f_X12_isFree_26c.eq_1 (dv G Γ H0) ((a0 : Int)) (p1.toInt) (p2.toInt) (p3.toInt) (j26_6.toInt) (j26_7.toInt)))
        refine lv_iload hx hb dX12_isFree_26 (lv_at hl 5 rfl) ?_
        refine lv_iload_n hx hb dX12_isFree_28 rfl (lv_at hl 3 rfl) ?_
        refine lv_iload_n hx hb dX12_isFree_29 rfl (lv_at hl 1 rfl) ?_
        refine tr_iadd hx hb dX12_isFree_30 (Eq.refl _) (Eq.refl _) (by omega) (by omega) (fun x2 ex2 => ?_)
        replace hF := hF.trans (congrArg (dv_k f_X12_isFree_26b) (dv_bn (ex2.symm)))
        refine tr_icmp_ge (tgt := 70) hx hb dX12_isFree_31 (by decide) (Eq.refl _) (Eq.refl _) (fun c31 => ?_) (fun c31 => ?_)
        · replace hF := hF.trans (congrArg (dv_k f_X12_isFree_26b) (if_pos c31))
          refine lv_iload hx hb dX12_isFree_70 (lv_at hl 4 rfl) ?_
          replace hF := hF.trans (dv_kr)
          exact th_iret hC hH hr hlocks (th_nb (by omega) (by omega)) hB.2.1 ⟨_, rfl, by omega, by omega, by intros; omega, fun h9 z9 a9 b9 => g26_5 h9 z9 a9 (by omega), (hF0.symm.trans hF), rfl⟩ dX12_isFree_72
        · replace hF := hF.trans (congrArg (dv_k f_X12_isFree_26b) (if_neg (Int.not_le.mpr c31)))
          refine lv_iload hx hb dX12_isFree_34 (lv_at hl 4 rfl) ?_
          refine tr_if_eq (tgt := 70) hx hb dX12_isFree_36 (by decide) (Eq.refl _) (fun c36 => ?_) (fun c36 => ?_)
          · replace hF := hF.trans (congrArg (dv_k f_X12_isFree_26b) (if_pos c36))
            refine lv_iload hx hb dX12_isFree_70 (lv_at hl 4 rfl) ?_
            replace hF := hF.trans (dv_kr)
            exact th_iret hC hH hr hlocks (th_nb (by omega) (by omega)) hB.2.1 ⟨_, rfl, by omega, by omega, by intros; omega, fun h9 z9 a9 b9 => g26_5 h9 z9 a9 (by omega), (hF0.symm.trans hF), rfl⟩ dX12_isFree_72
          · replace hF := hF.trans (congrArg (dv_k f_X12_isFree_26b) (if_neg c36))
            refine lv_aload_n hx hb dX12_isFree_39 rfl (lv_at hl 0 rfl) ?_
            refine th_getO (j := 29) (r2 := 59) hC cf_X12 hB.1 h0 ro_46 rfl rfl kf_X12_66 dX12_isFree_40 (fun b3 mb3 hb3 => ?_)
            refine lv_iload hx hb dX12_isFree_43 (lv_at hl 5 rfl) ?_
            refine th_ialdF hC hB.1 hb3 ro_59 rfl (Eq.refl _) (by omega) (by omega) rfl dX12_isFree_45 (fun x4 mx4 lx4 ux4 => ?_)
            replace hF := hF.trans (congrArg (dv_k f_X12_isFree_26b) (dv_bn (dv_aldI hB.1 hU hb3 ow_59 (z := j26_7.toInt) mx4 (by omega))))
            have vgx4 : mo_x G H0 a0 29 j26_7.toInt = x4 := by rw [show (j26_7.toInt : Int) = j26_7.toInt by omega]; exact mo_xat mb3 mx4 (by omega)
            refine lv_iconst (v := 1) hx hb dX12_isFree_46 (by decide) ?_
            refine lv_iload_n hx hb dX12_isFree_47 rfl (lv_at hl 1 rfl) ?_
            refine lv_ishl hx hb dX12_isFree_48 ?_
            refine lv_topi (fun x5 ex5 => ?_)
            have lx5 := ti_lo x5; have ux5 := ti_hi x5
            replace hF := hF.trans (congrArg (dv_k f_X12_isFree_26b) (dv_bn (dv_shl_e tk_1 (Eq.refl _) ex5)))
            refine lv_iconst (v := 1) hx hb dX12_isFree_49 (by decide) ?_
            refine lv_isub hx hb dX12_isFree_50 ?_
            refine lv_topi (fun x6 ex6 => ?_)
            have lx6 := ti_lo x6; have ux6 := ti_hi x6
            replace hF := hF.trans (congrArg (dv_k f_X12_isFree_26b) (dv_bn (dv_sub_e (Eq.refl _) tk_1 ex6)))
            refine lv_iload_n hx hb dX12_isFree_51 rfl (lv_at hl 2 rfl) ?_
            refine lv_ishl hx hb dX12_isFree_52 ?_
            refine lv_topi (fun x7 ex7 => ?_)
            have lx7 := ti_lo x7; have ux7 := ti_hi x7
            replace hF := hF.trans (congrArg (dv_k f_X12_isFree_26b) (dv_bn (dv_shl_e (Eq.refl _) (Eq.refl _) ex7)))
            refine lv_iand hx hb dX12_isFree_53 ?_
            refine lv_topi (fun x8 ex8 => ?_)
            have lx8 := ti_lo x8; have ux8 := ti_hi x8
            replace hF := hF.trans (congrArg (dv_k f_X12_isFree_26b) (dv_bn (dv_and_e (Eq.refl _) (Eq.refl _) ex8)))
            refine tr_if_ne (tgt := 61) hx hb dX12_isFree_54 (by decide) (Eq.refl _) (fun c54 => ?_) (fun c54 => ?_)
            · replace hF := hF.trans (congrArg (dv_k f_X12_isFree_26b) (if_pos c54))
              refine lv_iconst (v := 0) hx hb dX12_isFree_61 (by decide) ?_
              refine lv_istore (lv' := [(6, .int 0), (0, .ref a0), (1, .int p1), (2, .int p2), (3, .int p3), (7, .int j26_7)]) hx hb dX12_isFree_62 hl (by decide) rfl (fun ls hl => ?_)
              refine tr_iinc (fun x9 => [(7, .int x9), (6, .int 0), (0, .ref a0), (1, .int p1), (2, .int p2), (3, .int p3)]) hx hb dX12_isFree_64 hl (k := 5) rfl (Eq.refl _) tk_1 (by omega) (by omega) (by decide) (fun _ => rfl) (fun x9 ls ex9 hl => ?_)
              replace hF := hF.trans (congrArg (dv_k f_X12_isFree_26b) (dv_bn (ex9.symm)))
              refine lv_goto (tgt := 26) hx hb dX12_isFree_67 (by decide) ?_
              replace hF := hF.trans (dv_kl)
              exact ih26 locs ls 0 x9 hB (lv_sub hl [2, 3, 4, 5, 1, 0] rfl) (by rw [tk_0]; exact hF) (by decide) (by decide) (by omega) (by omega) (by have w0 := tk_0; omega) (fun h9 z9 a9 b9 => (Int.lt_or_le z9 j26_7.toInt).elim (fun q9 => g26_5 (by omega) z9 a9 q9) (fun q9 => by first | exact absurd h9 (by decide) | (rw [show z9 = j26_7.toInt by omega, vgx4, mo_mk, ← ex5, ← ex6, ← ex7, ← ex8]; exact Int32.toInt_inj.mp (by have w0 := tk_0; omega)))) (by have w0 := tk_0; omega)
            · replace hF := hF.trans (congrArg (dv_k f_X12_isFree_26b) (if_neg (not_not_intro c54)))
              refine lv_iconst (v := 1) hx hb dX12_isFree_57 (by decide) ?_
              refine lv_goto (tgt := 62) hx hb dX12_isFree_58 (by decide) ?_
              refine lv_istore (lv' := [(6, .int 1), (0, .ref a0), (1, .int p1), (2, .int p2), (3, .int p3), (7, .int j26_7)]) hx hb dX12_isFree_62 hl (by decide) rfl (fun ls hl => ?_)
              refine tr_iinc (fun x10 => [(7, .int x10), (6, .int 1), (0, .ref a0), (1, .int p1), (2, .int p2), (3, .int p3)]) hx hb dX12_isFree_64 hl (k := 5) rfl (Eq.refl _) tk_1 (by omega) (by omega) (by decide) (fun _ => rfl) (fun x10 ls ex10 hl => ?_)
              replace hF := hF.trans (congrArg (dv_k f_X12_isFree_26b) (dv_bn (ex10.symm)))
              refine lv_goto (tgt := 26) hx hb dX12_isFree_67 (by decide) ?_
              replace hF := hF.trans (dv_kl)
              exact ih26 locs ls 1 x10 hB (lv_sub hl [2, 3, 4, 5, 1, 0] rfl) (by rw [tk_1]; exact hF) (by decide) (by decide) (by omega) (by omega) (by have w0 := tk_1; omega) (fun h9 z9 a9 b9 => (Int.lt_or_le z9 j26_7.toInt).elim (fun q9 => g26_5 (by omega) z9 a9 q9) (fun q9 => by first | exact absurd h9 (by decide) | (rw [show z9 = j26_7.toInt by omega, vgx4, mo_mk, ← ex5, ← ex6, ← ex7, ← ex8]; exact Int32.toInt_inj.mp (by have w0 := tk_0; omega)))) (by have w0 := tk_1; omega)
    exact lp26 ((2147483648 : Int) - (p3.toInt)).toNat locs ls s21_0 p3 hB (lv_sub hl [2, 3, 4, 5, 1, 0] rfl) hF (by omega) (by omega) (by omega) (by omega) (by omega) (fun _ z9 a9 b9 => by omega) (by omega)
  have jn20 : ∀ (locs : List Loc) (ls : Array Slot) , th_B G Γ Γ [] H0 H0 locs → lv_has ls 8 [(0, .ref a0), (1, .int p1), (2, .int p2), (3, .int p3)] → F = f_X12_isFree_20 (dv G Γ H0) ((a0 : Int)) (p1.toInt) (p2.toInt) (p3.toInt) → W p l e ({ frames := 0, cells := 0, slots := 0, locals := 0 } : Room) s m ([.ref a0, .int p1, .int p2, .int p3, .int p4, .int p5] : List Value).toArray below meth c H0 locs 0 0 (MQ below (th_Q (fun (v : Option Value) (H1 : Heap) => ∃ r : Int32, v = some (.int r) ∧ 0 ≤ r.toInt ∧ r.toInt ≤ 1 ∧ (r.toInt = 1 → p2.toInt + p1.toInt ≤ p4.toInt ∧ p3.toInt + p1.toInt ≤ p5.toInt) ∧ (r.toInt = 1 → ∀ z : Int, p3.toInt ≤ z → z < p3.toInt + p1.toInt → mo_x G H0 a0 29 z &&& mo_mk p1 p2 = 0) ∧ (f_X12_isFree (dv G Γ H0) (a0 : Int) p1.toInt p2.toInt p3.toInt p4.toInt p5.toInt = (r.toInt, ())) ∧ H0 = H1) G) ([.ref a0, .int p1, .int p2, .int p3, .int p4, .int p5] : List Value).toArray s 0 0 (fun q => G.2.2 ≤ q)) (F0 m 20 ls []) := by
    intro locs ls hB hl hF
    replace hF := hF.trans (f_X12_isFree_20.eq_1 (dv G Γ H0) ((a0 : Int)) (p1.toInt) (p2.toInt) (p3.toInt))
    refine lv_iconst (v := 0) hx hb dX12_isFree_20 (by decide) ?_
    exact jn21 locs ls 0 hB (lv_sub hl [0, 1, 2, 3] rfl) (by rw [tk_0]; exact hF) (by decide) (by decide) (by have w0 := tk_0; omega)
  refine tr_icmp_gt (tgt := 20) hx hb dX12_isFree_5 (by decide) (Eq.refl _) (Eq.refl _) (fun c5 => ?_) (fun c5 => ?_)
  · replace hF := hF.trans (if_pos c5)
    exact jn20 [] ls hB (lv_sub hl [0, 1, 2, 3] rfl) hF
  · replace hF := hF.trans (if_neg (Int.not_lt.mpr c5))
    refine lv_iload_n hx hb dX12_isFree_8 rfl (lv_at hl 3 rfl) ?_
    refine lv_iload_n hx hb dX12_isFree_9 rfl (lv_at hl 1 rfl) ?_
    refine tr_iadd hx hb dX12_isFree_10 (Eq.refl _) (Eq.refl _) (by omega) (by omega) (fun x11 ex11 => ?_)
    replace hF := hF.trans (dv_bn (ex11.symm))
    refine lv_iload hx hb dX12_isFree_11 (lv_at hl 5 rfl) ?_
    refine tr_icmp_gt (tgt := 20) hx hb dX12_isFree_13 (by decide) (Eq.refl _) (Eq.refl _) (fun c13 => ?_) (fun c13 => ?_)
    · replace hF := hF.trans (if_pos c13)
      exact jn20 [] ls hB (lv_sub hl [0, 1, 2, 3] rfl) hF
    · replace hF := hF.trans (if_neg (Int.not_lt.mpr c13))
      refine lv_iconst (v := 1) hx hb dX12_isFree_16 (by decide) ?_
      refine lv_goto (tgt := 21) hx hb dX12_isFree_17 (by decide) ?_
      exact jn21 [] ls 1 hB (lv_sub hl [0, 1, 2, 3] rfl) (by rw [tk_1]; exact hF) (by decide) (by decide) (by have w0 := tk_1; omega)

set_option maxHeartbeats 4000000 in
set_option maxRecDepth 100000 in
theorem c_X12_carpetBehind (l : Launch) (G : th_G) (Γ : th_Ga) (H0 : Heap) (hI : th_I G Γ H0) (hU : dv_U Γ) (a0 : Nat) (h0 : Γ a0 = (46, 0)) (p1 : Int32) (f1 : 0 ≤ p1.toInt) (g1 : p1.toInt ≤ 9) (p2 : Int32) (p3 : Int32) : Met l yX12_carpetBehind (.code yX12_carpetBehind cX12_carpetBehind 8 (some FieldType.int) :: th_tb) ({ frames := 3, cells := 0, slots := 0, locals := 69 } : Room) (th_P [.ref a0, .int p1, .int p2, .int p3] G H0) (th_Q (fun (v : Option Value) (H1 : Heap) => ∃ r : Int32, v = some (.int r) ∧ (-1) ≤ r.toInt ∧ r.toInt ≤ 8 ∧ (f_X12_carpetBehind (dv G Γ H0) (a0 : Int) p1.toInt p2.toInt p3.toInt = (r.toInt, ())) ∧ H0 = H1) G) 0 0 (fun q => G.2.2 ≤ q) := by
  refine th_met RX12 (by decide) rfl (Nat.le_of_ble_eq_true rfl) ?_
  intro p e s m below meth c hC hH hr hlocks hnm ls hl
  have hx := hC.1
  have hb := hC.2.1
  have hB : th_B G Γ Γ [] H0 H0 [] := ⟨hI, va_S.rf, th_F_rf⟩
  have hl : lv_has ls 8 [(0, .ref a0), (1, .int p1), (2, .int p2), (3, .int p3)] := hl
  have lp1 := ti_lo p1; have up1 := ti_hi p1
  have lp2 := ti_lo p2; have up2 := ti_hi p2
  have lp3 := ti_lo p3; have up3 := ti_hi p3
  obtain ⟨F, hF0⟩ : ∃ F, F = f_X12_carpetBehind (dv G Γ H0) ((a0 : Int)) (p1.toInt) (p2.toInt) (p3.toInt) := ⟨_, rfl⟩
  have hF := hF0.trans (f_X12_carpetBehind.eq_1 (dv G Γ H0) ((a0 : Int)) (p1.toInt) (p2.toInt) (p3.toInt))
  refine lv_aload_n hx hb dX12_carpetBehind_0 rfl (lv_at hl 0 rfl) ?_
  refine lv_iload_n hx hb dX12_carpetBehind_1 rfl (lv_at hl 2 rfl) ?_
  refine lv_iload_n hx hb dX12_carpetBehind_2 rfl (lv_at hl 3 rfl) ?_
  refine th_call (th_runV (As := [.int p2, .int p3]) (rest := []) hC mf_X12_at km_X12_394 im_X12_at se_X12_at (c_X12_at l G Γ H0 hB.1 hU a0 h0 p2 p3) rfl rfl ⟨Nat.le_of_ble_eq_true rfl, Nat.le_of_ble_eq_true rfl⟩ hB.1 h0 ro_46 rfl rfl hl.1 rfl (Nat.le_of_ble_eq_true rfl) dX12_carpetBehind_3 ⟨Nat.le_refl _, Nat.le_refl _⟩) hB.2.1 (fun v3 H3 locs hp hz hS => ?_)
  obtain ⟨x1, rfl, lx1, ux1, q3_0, rfl⟩ := hp
  have hB := th_B_s hB hS
  replace hF := hF.trans (dv_bn2 (q3_0))
  refine W.eq (g2 := F0 m 6 ls [.int x1]) rfl ?_
  refine lv_istore (lv' := [(4, .int x1), (0, .ref a0), (1, .int p1), (2, .int p2), (3, .int p3)]) hx hb dX12_carpetBehind_6 hl (by decide) rfl (fun ls hl => ?_)
  refine lv_iconst (v := 0) hx hb dX12_carpetBehind_8 (by decide) ?_
  refine lv_istore (lv' := [(5, .int 0), (4, .int x1), (0, .ref a0), (1, .int p1), (2, .int p2), (3, .int p3)]) hx hb dX12_carpetBehind_9 hl (by decide) rfl (fun ls hl => ?_)
  have lp11 : ∀ (n11 : Nat) (locs : List Loc) (ls : Array Slot) (j11_4 : Int32) (j11_5 : Int32), th_B G Γ Γ [] H0 H0 locs → lv_has ls 8 [(0, .ref a0), (1, .int p1), (2, .int p2), (3, .int p3), (4, .int j11_4), (5, .int j11_5)] → F = dv_lp f_X12_carpetBehind_11b (dv G Γ H0, (a0 : Int), p1.toInt, p2.toInt, p3.toInt, j11_4.toInt, j11_5.toInt) → (-1) ≤ j11_4.toInt → j11_4.toInt ≤ 8 → 0 ≤ j11_5.toInt → j11_5.toInt ≤ 9 → (2147483648 : Int) - j11_5.toInt ≤ (n11 : Int) → W p l e ({ frames := 3, cells := 0, slots := 0, locals := 69 } : Room) s m ([.ref a0, .int p1, .int p2, .int p3] : List Value).toArray below meth c H0 locs 0 0 (MQ below (th_Q (fun (v : Option Value) (H1 : Heap) => ∃ r : Int32, v = some (.int r) ∧ (-1) ≤ r.toInt ∧ r.toInt ≤ 8 ∧ (f_X12_carpetBehind (dv G Γ H0) (a0 : Int) p1.toInt p2.toInt p3.toInt = (r.toInt, ())) ∧ H0 = H1) G) ([.ref a0, .int p1, .int p2, .int p3] : List Value).toArray s 0 0 (fun q => G.2.2 ≤ q)) (F0 m 11 ls []) := by
    intro n11
    induction n11 with
    | zero => intro locs ls j11_4 j11_5 hB hl hF g11_0 g11_1 g11_2 g11_3 hm11; exact absurd hm11 (by have := ti_hi j11_5; omega)
    | succ n11 ih11 =>
      intro locs ls j11_4 j11_5 hB hl hF g11_0 g11_1 g11_2 g11_3 hm11
      have lj11_4 := ti_lo j11_4; have uj11_4 := ti_hi j11_4
      have lj11_5 := ti_lo j11_5; have uj11_5 := ti_hi j11_5
      have hm11 : (2147483648 : Int) - j11_5.toInt ≤ (n11 : Int) + 1 := by omega
      replace hF := hF.trans (dv_lp_eq)
      replace hF := hF.trans (congrArg (dv_k f_X12_carpetBehind_11b) (f_X12_carpetBehind_11c.eq_1 (dv G Γ H0) ((a0 : Int)) (p1.toInt) (p2.toInt) (p3.toInt) (j11_4.toInt) (j11_5.toInt)))
      refine lv_iload hx hb dX12_carpetBehind_11 (lv_at hl 5 rfl) ?_
      refine lv_iload_n hx hb dX12_carpetBehind_13 rfl (lv_at hl 1 rfl) ?_
      refine tr_icmp_ge (tgt := 112) hx hb dX12_carpetBehind_14 (by decide) (Eq.refl _) (Eq.refl _) (fun c14 => ?_) (fun c14 => ?_)
      · replace hF := hF.trans (congrArg (dv_k f_X12_carpetBehind_11b) (if_pos c14))
        refine lv_iload hx hb dX12_carpetBehind_112 (lv_at hl 4 rfl) ?_
        replace hF := hF.trans (dv_kr)
        exact th_iret hC hH hr hlocks rfl hB.2.1 ⟨_, rfl, by omega, by omega, (hF0.symm.trans hF), rfl⟩ dX12_carpetBehind_114
      · replace hF := hF.trans (congrArg (dv_k f_X12_carpetBehind_11b) (if_neg (Int.not_le.mpr c14)))
        refine lv_aload_n hx hb dX12_carpetBehind_17 rfl (lv_at hl 0 rfl) ?_
        refine th_getO (j := 2) (r2 := 48) hC cf_X12 hB.1 h0 ro_46 rfl rfl kf_X12_28 dX12_carpetBehind_18 (fun b2 mb2 hb2 => ?_)
        refine lv_bipush (v := 29) hx hb dX12_carpetBehind_21 (by decide) ?_
        refine lv_aload_n hx hb dX12_carpetBehind_23 rfl (lv_at hl 0 rfl) ?_
        refine th_getO (j := 35) (r2 := 64) hC cf_X12 hB.1 h0 ro_46 rfl rfl kf_X12_81 dX12_carpetBehind_24 (fun b3 mb3 hb3 => ?_)
        refine lv_iload hx hb dX12_carpetBehind_27 (lv_at hl 5 rfl) ?_
        refine th_ialdF hC hB.1 hb3 ro_64 rfl (Eq.refl _) (by omega) (by omega) rfl dX12_carpetBehind_29 (fun x4 mx4 lx4 ux4 => ?_)
        replace hF := hF.trans (congrArg (dv_k f_X12_carpetBehind_11b) (dv_bn (dv_aldI hB.1 hU hb3 ow_64 (z := j11_5.toInt) mx4 (by omega))))
        refine tr_iadd hx hb dX12_carpetBehind_30 tk_29 (Eq.refl _) (by omega) (by omega) (fun x5 ex5 => ?_)
        replace hF := hF.trans (congrArg (dv_k f_X12_carpetBehind_11b) (dv_bn (ex5.symm)))
        refine th_ialdF hC hB.1 hb2 ro_48 rfl (Eq.refl _) (by omega) (by omega) (ek_side (by omega) (by omega)) dX12_carpetBehind_31 (fun x6 mx6 lx6 ux6 => ?_)
        replace hF := hF.trans (congrArg (dv_k f_X12_carpetBehind_11b) (dv_bn (dv_aldI hB.1 hU hb2 ow_48 (z := x5.toInt) mx6 (by omega))))
        refine lv_istore (lv' := [(6, .int x6), (0, .ref a0), (1, .int p1), (2, .int p2), (3, .int p3), (4, .int j11_4), (5, .int j11_5)]) hx hb dX12_carpetBehind_32 hl (by decide) rfl (fun ls hl => ?_)
        refine lv_iload_n hx hb dX12_carpetBehind_34 rfl (lv_at hl 3 rfl) ?_
        refine lv_aload_n hx hb dX12_carpetBehind_35 rfl (lv_at hl 1 rfl) ?_
        refine th_getO (j := 36) (r2 := 65) hC cf_X12 hB.1 h0 ro_46 rfl rfl kf_X12_84 dX12_carpetBehind_36 (fun b7 mb7 hb7 => ?_)
        refine lv_iload hx hb dX12_carpetBehind_39 (lv_at hl 6 rfl) ?_
        refine th_ialdF hC hB.1 hb7 ro_65 rfl (Eq.refl _) (by omega) (by omega) rfl dX12_carpetBehind_41 (fun x8 mx8 lx8 ux8 => ?_)
        replace hF := hF.trans (congrArg (dv_k f_X12_carpetBehind_11b) (dv_bn (dv_aldI hB.1 hU hb7 ow_65 (z := j11_5.toInt) mx8 (by omega))))
        refine lv_bipush (v := 12) hx hb dX12_carpetBehind_42 (by decide) ?_
        refine tr_irem hx hb dX12_carpetBehind_44 (Eq.refl _) tk_12 (by omega) (by omega) (fun x9 ex9 => ?_)
        replace hF := hF.trans (congrArg (dv_k f_X12_carpetBehind_11b) (dv_bn (ex9.symm)))
        refine lv_isub hx hb dX12_carpetBehind_45 ?_
        refine lv_topi (fun x10 ex10 => ?_)
        have lx10 := ti_lo x10; have ux10 := ti_hi x10
        replace hF := hF.trans (congrArg (dv_k f_X12_carpetBehind_11b) (dv_bn (dv_sub_e (Eq.refl _) (Eq.refl _) ex10)))
        refine lv_iconst (v := 0) hx hb dX12_carpetBehind_46 (by decide) ?_
        refine lv_iload hx hb dX12_carpetBehind_47 (lv_at hl 0 rfl) ?_
        refine lv_iconst (v := 1) hx hb dX12_carpetBehind_49 (by decide) ?_
        refine tr_isub hx hb dX12_carpetBehind_50 (Eq.refl _) tk_1 (by omega) (by omega) (fun x11 ex11 => ?_)
        replace hF := hF.trans (congrArg (dv_k f_X12_carpetBehind_11b) (dv_bn (ex11.symm)))
        refine th_call (th_runS (As := [.int x10, .int 0, .int x11]) (rest := []) hC mf_X12_lies km_X12_18 st_X12_lies (c_X12_lies l G Γ H0 hB.1 hU x10 0 x11) rfl rfl ⟨Nat.le_of_ble_eq_true rfl, Nat.le_of_ble_eq_true rfl⟩ rfl hl.1 rfl (Nat.le_of_ble_eq_true rfl) dX12_carpetBehind_51 ⟨Nat.le_refl _, Nat.le_refl _⟩) hB.2.1 (fun v51 H51 locs hp hz hS => ?_)
        obtain ⟨x12, rfl, lx12, ux12, q51_0, q51_1, q51_2, rfl⟩ := hp
        have hB := th_B_s hB hS
        have w51_1 := tk_0
        have zf51 := q51_2
        rw [tk_0] at zf51
        replace hF := hF.trans (congrArg (dv_k f_X12_carpetBehind_11b) (dv_bn2 (zf51)))
        refine W.eq (g2 := F0 m 54 ls [.int x12]) rfl ?_
        have jn85 : ∀ (locs : List Loc) (ls : Array Slot) (s85_0 : Int32), th_B G Γ Γ [] H0 H0 locs → lv_has ls 8 [(0, .ref a0), (1, .int p1), (2, .int p2), (3, .int p3), (4, .int j11_4), (5, .int j11_5)] → F = dv_k f_X12_carpetBehind_11b (f_X12_carpetBehind_85 (dv G Γ H0) ((a0 : Int)) (p1.toInt) (p2.toInt) (p3.toInt) (j11_4.toInt) (j11_5.toInt) (s85_0.toInt)) → 0 ≤ s85_0.toInt → s85_0.toInt ≤ 1 → W p l e ({ frames := 3, cells := 0, slots := 0, locals := 69 } : Room) s m ([.ref a0, .int p1, .int p2, .int p3] : List Value).toArray below meth c H0 locs 0 0 (MQ below (th_Q (fun (v : Option Value) (H1 : Heap) => ∃ r : Int32, v = some (.int r) ∧ (-1) ≤ r.toInt ∧ r.toInt ≤ 8 ∧ (f_X12_carpetBehind (dv G Γ H0) (a0 : Int) p1.toInt p2.toInt p3.toInt = (r.toInt, ())) ∧ H0 = H1) G) ([.ref a0, .int p1, .int p2, .int p3] : List Value).toArray s 0 0 (fun q => G.2.2 ≤ q)) (F0 m 85 ls [.int s85_0]) := by
          intro locs ls s85_0 hB hl hF g85_0 g85_1
          have ls85_0 := ti_lo s85_0; have us85_0 := ti_hi s85_0
          replace hF := hF.trans (congrArg (dv_k f_X12_carpetBehind_11b) (f_X12_carpetBehind_85.eq_1 (dv G Γ H0) ((a0 : Int)) (p1.toInt) (p2.toInt) (p3.toInt) (j11_4.toInt) (j11_5.toInt) (s85_0.toInt)))
          refine lv_istore (lv' := [(7, .int s85_0), (0, .ref a0), (1, .int p1), (2, .int p2), (3, .int p3), (4, .int j11_4), (5, .int j11_5)]) hx hb dX12_carpetBehind_85 hl (by decide) rfl (fun ls hl => ?_)
          refine lv_iload hx hb dX12_carpetBehind_87 (lv_at hl 0 rfl) ?_
          have jn104 : ∀ (locs : List Loc) (ls : Array Slot) (s104_0 : Int32), th_B G Γ Γ [] H0 H0 locs → lv_has ls 8 [(0, .ref a0), (1, .int p1), (2, .int p2), (3, .int p3), (5, .int j11_5)] → F = dv_k f_X12_carpetBehind_11b (f_X12_carpetBehind_104 (dv G Γ H0) ((a0 : Int)) (p1.toInt) (p2.toInt) (p3.toInt) (j11_5.toInt) (s104_0.toInt)) → (-1) ≤ s104_0.toInt → s104_0.toInt ≤ 8 → W p l e ({ frames := 3, cells := 0, slots := 0, locals := 69 } : Room) s m ([.ref a0, .int p1, .int p2, .int p3] : List Value).toArray below meth c H0 locs 0 0 (MQ below (th_Q (fun (v : Option Value) (H1 : Heap) => ∃ r : Int32, v = some (.int r) ∧ (-1) ≤ r.toInt ∧ r.toInt ≤ 8 ∧ (f_X12_carpetBehind (dv G Γ H0) (a0 : Int) p1.toInt p2.toInt p3.toInt = (r.toInt, ())) ∧ H0 = H1) G) ([.ref a0, .int p1, .int p2, .int p3] : List Value).toArray s 0 0 (fun q => G.2.2 ≤ q)) (F0 m 104 ls [.int s104_0]) := by
            intro locs ls s104_0 hB hl hF g104_0 g104_1
            have ls104_0 := ti_lo s104_0; have us104_0 := ti_hi s104_0
            replace hF := hF.trans (congrArg (dv_k f_X12_carpetBehind_11b) (f_X12_carpetBehind_104.eq_1 (dv G Γ H0) ((a0 : Int)) (p1.toInt) (p2.toInt) (p3.toInt) (j11_5.toInt) (s104_0.toInt)))
            refine lv_istore (lv' := [(4, .int s104_0), (0, .ref a0), (1, .int p1), (2, .int p2), (3, .int p3), (5, .int j11_5)]) hx hb dX12_carpetBehind_104 hl (by decide) rfl (fun ls hl => ?_)
            refine tr_iinc (fun x13 => [(5, .int x13), (4, .int s104_0), (0, .ref a0), (1, .int p1), (2, .int p2), (3, .int p3)]) hx hb dX12_carpetBehind_106 hl (k := 5) rfl (Eq.refl _) tk_1 (by omega) (by omega) (by decide) (fun _ => rfl) (fun x13 ls ex13 hl => ?_)
            replace hF := hF.trans (congrArg (dv_k f_X12_carpetBehind_11b) (dv_bn (ex13.symm)))
            refine lv_goto (tgt := 11) hx hb dX12_carpetBehind_109 (by decide) ?_
            replace hF := hF.trans (dv_kl)
            exact ih11 locs ls s104_0 x13 hB (lv_sub hl [2, 3, 4, 5, 1, 0] rfl) hF (by omega) (by omega) (by omega) (by omega) (by omega)
          refine tr_if_eq (tgt := 102) hx hb dX12_carpetBehind_89 (by decide) (Eq.refl _) (fun c89 => ?_) (fun c89 => ?_)
          · replace hF := hF.trans (congrArg (dv_k f_X12_carpetBehind_11b) (if_pos c89))
            refine lv_iload hx hb dX12_carpetBehind_102 (lv_at hl 5 rfl) ?_
            exact jn104 locs ls j11_4 hB (lv_sub hl [1, 2, 3, 4, 6] rfl) hF (by omega) (by omega)
          · replace hF := hF.trans (congrArg (dv_k f_X12_carpetBehind_11b) (if_neg c89))
            refine lv_aload_n hx hb dX12_carpetBehind_92 rfl (lv_at hl 1 rfl) ?_
            refine th_getK hC cf_X12 hB.1 h0 ro_46 rfl (j := 35) (by decide) mb3 kf_X12_81 dX12_carpetBehind_93 ?_
            refine lv_iload hx hb dX12_carpetBehind_96 (lv_at hl 6 rfl) ?_
            refine th_ialdF hC hB.1 hb3 ro_64 rfl (Eq.refl _) (by omega) (by omega) rfl dX12_carpetBehind_98 (fun x14 mx14 lx14 ux14 => ?_)
            replace hF := hF.trans (congrArg (dv_k f_X12_carpetBehind_11b) (dv_bn (dv_aldI hB.1 hU hb3 ow_64 (z := j11_5.toInt) mx14 (by omega))))
            have qx14 : x14.toInt = x4.toInt := by rw [show x14 = x4 from Value.int.inj (mx14.symm.trans mx4)]
            refine lv_goto (tgt := 104) hx hb dX12_carpetBehind_99 (by decide) ?_
            exact jn104 locs ls x14 hB (lv_sub hl [1, 2, 3, 4, 6] rfl) hF (by omega) (by omega)
        have jn84 : ∀ (locs : List Loc) (ls : Array Slot) , th_B G Γ Γ [] H0 H0 locs → lv_has ls 8 [(0, .ref a0), (1, .int p1), (2, .int p2), (3, .int p3), (4, .int j11_4), (5, .int j11_5)] → F = dv_k f_X12_carpetBehind_11b (f_X12_carpetBehind_84 (dv G Γ H0) ((a0 : Int)) (p1.toInt) (p2.toInt) (p3.toInt) (j11_4.toInt) (j11_5.toInt)) → W p l e ({ frames := 3, cells := 0, slots := 0, locals := 69 } : Room) s m ([.ref a0, .int p1, .int p2, .int p3] : List Value).toArray below meth c H0 locs 0 0 (MQ below (th_Q (fun (v : Option Value) (H1 : Heap) => ∃ r : Int32, v = some (.int r) ∧ (-1) ≤ r.toInt ∧ r.toInt ≤ 8 ∧ (f_X12_carpetBehind (dv G Γ H0) (a0 : Int) p1.toInt p2.toInt p3.toInt = (r.toInt, ())) ∧ H0 = H1) G) ([.ref a0, .int p1, .int p2, .int p3] : List Value).toArray s 0 0 (fun q => G.2.2 ≤ q)) (F0 m 84 ls []) := by
          intro locs ls hB hl hF
          replace hF := hF.trans (congrArg (dv_k f_X12_carpetBehind_11b) (f_X12_carpetBehind_84.eq_1 (dv G Γ H0) ((a0 : Int)) (p1.toInt) (p2.toInt) (p3.toInt) (j11_4.toInt) (j11_5.toInt)))
          refine lv_iconst (v := 0) hx hb dX12_carpetBehind_84 (by decide) ?_
          exact jn85 locs ls 0 hB (lv_sub hl [0, 1, 2, 3, 4, 5] rfl) (by rw [tk_0]; exact hF) (by decide) (by decide)
        refine tr_if_eq (tgt := 84) hx hb dX12_carpetBehind_54 (by decide) (Eq.refl _) (fun c54 => ?_) (fun c54 => ?_)
        · replace hF := hF.trans (congrArg (dv_k f_X12_carpetBehind_11b) (if_pos c54))
          exact jn84 locs ls hB (lv_sub hl [1, 2, 3, 4, 5, 6] rfl) hF
        · replace hF := hF.trans (congrArg (dv_k f_X12_carpetBehind_11b) (if_neg c54))
          refine lv_iload_n hx hb dX12_carpetBehind_57 rfl (lv_at hl 4 rfl) ?_
          refine lv_aload_n hx hb dX12_carpetBehind_58 rfl (lv_at hl 1 rfl) ?_
          refine th_getK hC cf_X12 hB.1 h0 ro_46 rfl (j := 36) (by decide) mb7 kf_X12_84 dX12_carpetBehind_59 ?_
          refine lv_iload hx hb dX12_carpetBehind_62 (lv_at hl 6 rfl) ?_
          refine th_ialdF hC hB.1 hb7 ro_65 rfl (Eq.refl _) (by omega) (by omega) rfl dX12_carpetBehind_64 (fun x15 mx15 lx15 ux15 => ?_)
          replace hF := hF.trans (congrArg (dv_k f_X12_carpetBehind_11b) (dv_bn (dv_aldI hB.1 hU hb7 ow_65 (z := j11_5.toInt) mx15 (by omega))))
          have qx15 : x15.toInt = x8.toInt := by rw [show x15 = x8 from Value.int.inj (mx15.symm.trans mx8)]
          refine lv_bipush (v := 12) hx hb dX12_carpetBehind_65 (by decide) ?_
          refine tr_idiv hx hb dX12_carpetBehind_67 (Eq.refl _) tk_12 (by omega) (by omega) (fun x16 ex16 => ?_)
          replace hF := hF.trans (congrArg (dv_k f_X12_carpetBehind_11b) (dv_bn (ex16.symm)))
          refine lv_isub hx hb dX12_carpetBehind_68 ?_
          refine lv_topi (fun x17 ex17 => ?_)
          have lx17 := ti_lo x17; have ux17 := ti_hi x17
          replace hF := hF.trans (congrArg (dv_k f_X12_carpetBehind_11b) (dv_bn (dv_sub_e (Eq.refl _) (Eq.refl _) ex17)))
          refine lv_iconst (v := 0) hx hb dX12_carpetBehind_69 (by decide) ?_
          refine lv_iload hx hb dX12_carpetBehind_70 (lv_at hl 0 rfl) ?_
          refine lv_iconst (v := 1) hx hb dX12_carpetBehind_72 (by decide) ?_
          refine tr_isub hx hb dX12_carpetBehind_73 (Eq.refl _) tk_1 (by omega) (by omega) (fun x18 ex18 => ?_)
          replace hF := hF.trans (congrArg (dv_k f_X12_carpetBehind_11b) (dv_bn (ex18.symm)))
          refine th_call (th_runS (As := [.int x17, .int 0, .int x18]) (rest := []) hC mf_X12_lies km_X12_18 st_X12_lies (c_X12_lies l G Γ H0 hB.1 hU x17 0 x18) rfl rfl ⟨Nat.le_of_ble_eq_true rfl, Nat.le_of_ble_eq_true rfl⟩ rfl hl.1 rfl (Nat.le_of_ble_eq_true rfl) dX12_carpetBehind_74 ⟨Nat.le_refl _, Nat.le_refl _⟩) hB.2.1 (fun v74 H74 locs hp hz hS => ?_)
          obtain ⟨x19, rfl, lx19, ux19, q74_0, q74_1, q74_2, rfl⟩ := hp
          have hB := th_B_s hB hS
          have w74_1 := tk_0
          have zf74 := q74_2
          rw [tk_0] at zf74
          replace hF := hF.trans (congrArg (dv_k f_X12_carpetBehind_11b) (dv_bn2 (zf74)))
          refine W.eq (g2 := F0 m 77 ls [.int x19]) rfl ?_
          refine tr_if_eq (tgt := 84) hx hb dX12_carpetBehind_77 (by decide) (Eq.refl _) (fun c77 => ?_) (fun c77 => ?_)
          · replace hF := hF.trans (congrArg (dv_k f_X12_carpetBehind_11b) (if_pos c77))
            exact jn84 locs ls hB (lv_sub hl [1, 2, 3, 4, 5, 6] rfl) hF
          · replace hF := hF.trans (congrArg (dv_k f_X12_carpetBehind_11b) (if_neg c77))
            refine lv_iconst (v := 1) hx hb dX12_carpetBehind_80 (by decide) ?_
            refine lv_goto (tgt := 85) hx hb dX12_carpetBehind_81 (by decide) ?_
            exact jn85 locs ls 1 hB (lv_sub hl [1, 2, 3, 4, 5, 6] rfl) (by rw [tk_1]; exact hF) (by decide) (by decide)
  exact lp11 ((2147483648 : Int) - (0)).toNat locs ls x1 0 hB (lv_sub hl [2, 3, 4, 5, 1, 0] rfl) (by rw [tk_0]; exact hF) (by omega) (by omega) (by decide) (by decide) (by have w0 := tk_0; omega)

set_option maxHeartbeats 4000000 in
set_option maxRecDepth 100000 in
theorem c_X12_isSeenSo (l : Launch) (G : th_G) (Γ : th_Ga) (H0 : Heap) (hI : th_I G Γ H0) (hU : dv_U Γ) (a0 : Nat) (h0 : Γ a0 = (46, 0)) (p1 : Int32) (f1 : 0 ≤ p1.toInt) (g1 : p1.toInt ≤ 9) : Met l yX12_isSeenSo (.code yX12_isSeenSo cX12_isSeenSo 5 (some FieldType.boolean) :: th_tb) ({ frames := 4, cells := 0, slots := 0, locals := 96 } : Room) (th_P [.ref a0, .int p1] G H0) (th_Q (fun (v : Option Value) (H1 : Heap) => ∃ r : Int32, v = some (.int r) ∧ 0 ≤ r.toInt ∧ r.toInt ≤ 1 ∧ (f_X12_isSeenSo (dv G Γ H0) (a0 : Int) p1.toInt = (r.toInt, ())) ∧ H0 = H1) G) 0 0 (fun q => G.2.2 ≤ q) := by
  refine th_met RX12 (by decide) rfl (Nat.le_of_ble_eq_true rfl) ?_
  intro p e s m below meth c hC hH hr hlocks hnm ls hl
  have hx := hC.1
  have hb := hC.2.1
  have hB : th_B G Γ Γ [] H0 H0 [] := ⟨hI, va_S.rf, th_F_rf⟩
  have hl : lv_has ls 5 [(0, .ref a0), (1, .int p1)] := hl
  have lp1 := ti_lo p1; have up1 := ti_hi p1
  obtain ⟨F, hF0⟩ : ∃ F, F = f_X12_isSeenSo (dv G Γ H0) ((a0 : Int)) (p1.toInt) := ⟨_, rfl⟩
  have hF := hF0.trans (f_X12_isSeenSo.eq_1 (dv G Γ H0) ((a0 : Int)) (p1.toInt))
  refine lv_iconst (v := 1) hx hb dX12_isSeenSo_0 (by decide) ?_
  refine lv_istore_n (lv' := [(2, .int 1), (0, .ref a0), (1, .int p1)]) hx hb dX12_isSeenSo_1 rfl hl (by decide) rfl (fun ls hl => ?_)
  refine lv_iconst (v := 0) hx hb dX12_isSeenSo_2 (by decide) ?_
  refine lv_istore_n (lv' := [(3, .int 0), (2, .int 1), (0, .ref a0), (1, .int p1)]) hx hb dX12_isSeenSo_3 rfl hl (by decide) rfl (fun ls hl => ?_)
  have lp4 : ∀ (n4 : Nat) (locs : List Loc) (ls : Array Slot) (j4_2 : Int32) (j4_3 : Int32), th_B G Γ Γ [] H0 H0 locs → lv_has ls 5 [(0, .ref a0), (1, .int p1), (2, .int j4_2), (3, .int j4_3)] → F = dv_lp f_X12_isSeenSo_4b (dv G Γ H0, (a0 : Int), p1.toInt, j4_2.toInt, j4_3.toInt) → 0 ≤ j4_2.toInt → j4_2.toInt ≤ 1 → 0 ≤ j4_3.toInt → j4_3.toInt ≤ 6 → (2147483648 : Int) - j4_3.toInt ≤ (n4 : Int) → W p l e ({ frames := 4, cells := 0, slots := 0, locals := 96 } : Room) s m ([.ref a0, .int p1] : List Value).toArray below meth c H0 locs 0 0 (MQ below (th_Q (fun (v : Option Value) (H1 : Heap) => ∃ r : Int32, v = some (.int r) ∧ 0 ≤ r.toInt ∧ r.toInt ≤ 1 ∧ (f_X12_isSeenSo (dv G Γ H0) (a0 : Int) p1.toInt = (r.toInt, ())) ∧ H0 = H1) G) ([.ref a0, .int p1] : List Value).toArray s 0 0 (fun q => G.2.2 ≤ q)) (F0 m 4 ls []) := by
    intro n4
    induction n4 with
    | zero => intro locs ls j4_2 j4_3 hB hl hF g4_0 g4_1 g4_2 g4_3 hm4; exact absurd hm4 (by have := ti_hi j4_3; omega)
    | succ n4 ih4 =>
      intro locs ls j4_2 j4_3 hB hl hF g4_0 g4_1 g4_2 g4_3 hm4
      have lj4_2 := ti_lo j4_2; have uj4_2 := ti_hi j4_2
      have lj4_3 := ti_lo j4_3; have uj4_3 := ti_hi j4_3
      have hm4 : (2147483648 : Int) - j4_3.toInt ≤ (n4 : Int) + 1 := by omega
      replace hF := hF.trans (dv_lp_eq)
      replace hF := hF.trans (congrArg (dv_k f_X12_isSeenSo_4b) (f_X12_isSeenSo_4c.eq_1 (dv G Γ H0) ((a0 : Int)) (p1.toInt) (j4_2.toInt) (j4_3.toInt)))
      refine lv_iload_n hx hb dX12_isSeenSo_4 rfl (lv_at hl 3 rfl) ?_
      refine lv_aload_n hx hb dX12_isSeenSo_5 rfl (lv_at hl 0 rfl) ?_
      refine th_getO (j := 2) (r2 := 48) hC cf_X12 hB.1 h0 ro_46 rfl rfl kf_X12_28 dX12_isSeenSo_6 (fun b1 mb1 hb1 => ?_)
      refine lv_bipush (v := 70) hx hb dX12_isSeenSo_9 (by decide) ?_
      refine th_ialdF hC hB.1 hb1 ro_48 rfl tk_70 (by omega) (by omega) (ek_seen (by omega) (by omega)) dX12_isSeenSo_11 (fun x2 mx2 lx2 ux2 => ?_)
      replace hF := hF.trans (congrArg (dv_k f_X12_isSeenSo_4b) (dv_bn (dv_aldI hB.1 hU hb1 ow_48 (z := 70) mx2 (by omega))))
      refine tr_icmp_ge (tgt := 94) hx hb dX12_isSeenSo_12 (by decide) (Eq.refl _) (Eq.refl _) (fun c12 => ?_) (fun c12 => ?_)
      · replace hF := hF.trans (congrArg (dv_k f_X12_isSeenSo_4b) (if_pos c12))
        refine lv_iload_n hx hb dX12_isSeenSo_94 rfl (lv_at hl 2 rfl) ?_
        replace hF := hF.trans (dv_kr)
        exact th_iret hC hH hr hlocks (th_nb (by omega) (by omega)) hB.2.1 ⟨_, rfl, by omega, by omega, (hF0.symm.trans hF), rfl⟩ dX12_isSeenSo_95
      · replace hF := hF.trans (congrArg (dv_k f_X12_isSeenSo_4b) (if_neg (Int.not_le.mpr c12)))
        refine lv_iload_n hx hb dX12_isSeenSo_15 rfl (lv_at hl 2 rfl) ?_
        refine tr_if_eq (tgt := 94) hx hb dX12_isSeenSo_16 (by decide) (Eq.refl _) (fun c16 => ?_) (fun c16 => ?_)
        · replace hF := hF.trans (congrArg (dv_k f_X12_isSeenSo_4b) (if_pos c16))
          refine lv_iload_n hx hb dX12_isSeenSo_94 rfl (lv_at hl 2 rfl) ?_
          replace hF := hF.trans (dv_kr)
          exact th_iret hC hH hr hlocks (th_nb (by omega) (by omega)) hB.2.1 ⟨_, rfl, by omega, by omega, (hF0.symm.trans hF), rfl⟩ dX12_isSeenSo_95
        · replace hF := hF.trans (congrArg (dv_k f_X12_isSeenSo_4b) (if_neg c16))
          refine lv_aload_n hx hb dX12_isSeenSo_19 rfl (lv_at hl 0 rfl) ?_
          refine lv_iload_n hx hb dX12_isSeenSo_20 rfl (lv_at hl 1 rfl) ?_
          refine lv_aload_n hx hb dX12_isSeenSo_21 rfl (lv_at hl 0 rfl) ?_
          refine th_getK hC cf_X12 hB.1 h0 ro_46 rfl (j := 2) (by decide) mb1 kf_X12_28 dX12_isSeenSo_22 ?_
          refine lv_bipush (v := 47) hx hb dX12_isSeenSo_25 (by decide) ?_
          refine lv_iconst (v := 3) hx hb dX12_isSeenSo_27 (by decide) ?_
          refine lv_iload_n hx hb dX12_isSeenSo_28 rfl (lv_at hl 3 rfl) ?_
          refine tr_imul hx hb dX12_isSeenSo_29 tk_3 (Eq.refl _) (by omega) (by omega) (fun x3 ex3 => ?_)
          replace hF := hF.trans (congrArg (dv_k f_X12_isSeenSo_4b) (dv_bn (ex3.symm)))
          refine tr_iadd hx hb dX12_isSeenSo_30 tk_47 (Eq.refl _) (by omega) (by omega) (fun x4 ex4 => ?_)
          replace hF := hF.trans (congrArg (dv_k f_X12_isSeenSo_4b) (dv_bn (ex4.symm)))
          refine th_ialdF hC hB.1 hb1 ro_48 rfl (Eq.refl _) (by omega) (by omega) (ek_b (by omega) (by omega)) dX12_isSeenSo_31 (fun x5 mx5 lx5 ux5 => ?_)
          replace hF := hF.trans (congrArg (dv_k f_X12_isSeenSo_4b) (dv_bn (dv_aldI hB.1 hU hb1 ow_48 (z := x4.toInt) mx5 (by omega))))
          refine lv_aload_n hx hb dX12_isSeenSo_32 rfl (lv_at hl 0 rfl) ?_
          refine th_getK hC cf_X12 hB.1 h0 ro_46 rfl (j := 2) (by decide) mb1 kf_X12_28 dX12_isSeenSo_33 ?_
          refine lv_bipush (v := 47) hx hb dX12_isSeenSo_36 (by decide) ?_
          refine lv_iconst (v := 3) hx hb dX12_isSeenSo_38 (by decide) ?_
          refine lv_iload_n hx hb dX12_isSeenSo_39 rfl (lv_at hl 3 rfl) ?_
          refine tr_imul hx hb dX12_isSeenSo_40 tk_3 (Eq.refl _) (by omega) (by omega) (fun x6 ex6 => ?_)
          replace hF := hF.trans (congrArg (dv_k f_X12_isSeenSo_4b) (dv_bn (ex6.symm)))
          refine tr_iadd hx hb dX12_isSeenSo_41 tk_47 (Eq.refl _) (by omega) (by omega) (fun x7 ex7 => ?_)
          replace hF := hF.trans (congrArg (dv_k f_X12_isSeenSo_4b) (dv_bn (ex7.symm)))
          refine lv_iconst (v := 1) hx hb dX12_isSeenSo_42 (by decide) ?_
          refine tr_iadd hx hb dX12_isSeenSo_43 (Eq.refl _) tk_1 (by omega) (by omega) (fun x8 ex8 => ?_)
          replace hF := hF.trans (congrArg (dv_k f_X12_isSeenSo_4b) (dv_bn (ex8.symm)))
          refine th_ialdF hC hB.1 hb1 ro_48 rfl (Eq.refl _) (by omega) (by omega) (ek_b (by omega) (by omega)) dX12_isSeenSo_44 (fun x9 mx9 lx9 ux9 => ?_)
          replace hF := hF.trans (congrArg (dv_k f_X12_isSeenSo_4b) (dv_bn (dv_aldI hB.1 hU hb1 ow_48 (z := x8.toInt) mx9 (by omega))))
          refine th_call (th_runV (As := [.int p1, .int x5, .int x9]) (rest := []) hC mf_X12_carpetBehind km_X12_397 im_X12_carpetBehind se_X12_carpetBehind (c_X12_carpetBehind l G Γ H0 hB.1 hU a0 h0 p1 (by omega) (by omega) x5 x9) rfl rfl ⟨Nat.le_of_ble_eq_true rfl, Nat.le_of_ble_eq_true rfl⟩ hB.1 h0 ro_46 rfl rfl hl.1 rfl (Nat.le_of_ble_eq_true rfl) dX12_isSeenSo_45 ⟨Nat.le_refl _, Nat.le_refl _⟩) hB.2.1 (fun v45 H45 locs hp hz hS => ?_)
          obtain ⟨x10, rfl, lx10, ux10, q45_0, rfl⟩ := hp
          have hB := th_B_s hB hS
          replace hF := hF.trans (congrArg (dv_k f_X12_isSeenSo_4b) (dv_bn2 (q45_0)))
          refine W.eq (g2 := F0 m 48 ls [.int x10]) rfl ?_
          refine lv_istore (lv' := [(4, .int x10), (0, .ref a0), (1, .int p1), (2, .int j4_2), (3, .int j4_3)]) hx hb dX12_isSeenSo_48 hl (by decide) rfl (fun ls hl => ?_)
          refine lv_iload hx hb dX12_isSeenSo_50 (lv_at hl 0 rfl) ?_
          refine lv_iconst (v := (-1)) hx hb dX12_isSeenSo_52 (by decide) ?_
          have jn87 : ∀ (locs : List Loc) (ls : Array Slot) (s87_0 : Int32), th_B G Γ Γ [] H0 H0 locs → lv_has ls 5 [(0, .ref a0), (1, .int p1), (3, .int j4_3)] → F = dv_k f_X12_isSeenSo_4b (f_X12_isSeenSo_87 (dv G Γ H0) ((a0 : Int)) (p1.toInt) (j4_3.toInt) (s87_0.toInt)) → 0 ≤ s87_0.toInt → s87_0.toInt ≤ 1 → W p l e ({ frames := 4, cells := 0, slots := 0, locals := 96 } : Room) s m ([.ref a0, .int p1] : List Value).toArray below meth c H0 locs 0 0 (MQ below (th_Q (fun (v : Option Value) (H1 : Heap) => ∃ r : Int32, v = some (.int r) ∧ 0 ≤ r.toInt ∧ r.toInt ≤ 1 ∧ (f_X12_isSeenSo (dv G Γ H0) (a0 : Int) p1.toInt = (r.toInt, ())) ∧ H0 = H1) G) ([.ref a0, .int p1] : List Value).toArray s 0 0 (fun q => G.2.2 ≤ q)) (F0 m 87 ls [.int s87_0]) := by
            intro locs ls s87_0 hB hl hF g87_0 g87_1
            have ls87_0 := ti_lo s87_0; have us87_0 := ti_hi s87_0
            replace hF := hF.trans (congrArg (dv_k f_X12_isSeenSo_4b) (f_X12_isSeenSo_87.eq_1 (dv G Γ H0) ((a0 : Int)) (p1.toInt) (j4_3.toInt) (s87_0.toInt)))
            refine lv_istore_n (lv' := [(2, .int s87_0), (0, .ref a0), (1, .int p1), (3, .int j4_3)]) hx hb dX12_isSeenSo_87 rfl hl (by decide) rfl (fun ls hl => ?_)
            refine tr_iinc (fun x11 => [(3, .int x11), (2, .int s87_0), (0, .ref a0), (1, .int p1)]) hx hb dX12_isSeenSo_88 hl (k := 3) rfl (Eq.refl _) tk_1 (by omega) (by omega) (by decide) (fun _ => rfl) (fun x11 ls ex11 hl => ?_)
            replace hF := hF.trans (congrArg (dv_k f_X12_isSeenSo_4b) (dv_bn (ex11.symm)))
            refine lv_goto (tgt := 4) hx hb dX12_isSeenSo_91 (by decide) ?_
            replace hF := hF.trans (dv_kl)
            exact ih4 locs ls s87_0 x11 hB (lv_sub hl [2, 3, 1, 0] rfl) hF (by omega) (by omega) (by omega) (by omega) (by omega)
          have jn86 : ∀ (locs : List Loc) (ls : Array Slot) , th_B G Γ Γ [] H0 H0 locs → lv_has ls 5 [(0, .ref a0), (1, .int p1), (3, .int j4_3)] → F = dv_k f_X12_isSeenSo_4b (f_X12_isSeenSo_86 (dv G Γ H0) ((a0 : Int)) (p1.toInt) (j4_3.toInt)) → W p l e ({ frames := 4, cells := 0, slots := 0, locals := 96 } : Room) s m ([.ref a0, .int p1] : List Value).toArray below meth c H0 locs 0 0 (MQ below (th_Q (fun (v : Option Value) (H1 : Heap) => ∃ r : Int32, v = some (.int r) ∧ 0 ≤ r.toInt ∧ r.toInt ≤ 1 ∧ (f_X12_isSeenSo (dv G Γ H0) (a0 : Int) p1.toInt = (r.toInt, ())) ∧ H0 = H1) G) ([.ref a0, .int p1] : List Value).toArray s 0 0 (fun q => G.2.2 ≤ q)) (F0 m 86 ls []) := by
            intro locs ls hB hl hF
            replace hF := hF.trans (congrArg (dv_k f_X12_isSeenSo_4b) (f_X12_isSeenSo_86.eq_1 (dv G Γ H0) ((a0 : Int)) (p1.toInt) (j4_3.toInt)))
            refine lv_iconst (v := 0) hx hb dX12_isSeenSo_86 (by decide) ?_
            exact jn87 locs ls 0 hB (lv_sub hl [0, 1, 2] rfl) (by rw [tk_0]; exact hF) (by decide) (by decide)
          refine tr_icmp_eq (tgt := 86) hx hb dX12_isSeenSo_53 (by decide) (Eq.refl _) tk_m1 (fun c53 => ?_) (fun c53 => ?_)
          · replace hF := hF.trans (congrArg (dv_k f_X12_isSeenSo_4b) (if_pos c53))
            exact jn86 locs ls hB (lv_sub hl [1, 2, 4] rfl) hF
          · replace hF := hF.trans (congrArg (dv_k f_X12_isSeenSo_4b) (if_neg c53))
            refine lv_aload_n hx hb dX12_isSeenSo_56 rfl (lv_at hl 1 rfl) ?_
            refine th_getK hC cf_X12 hB.1 h0 ro_46 rfl (j := 2) (by decide) mb1 kf_X12_28 dX12_isSeenSo_57 ?_
            refine lv_bipush (v := 29) hx hb dX12_isSeenSo_60 (by decide) ?_
            refine lv_iload hx hb dX12_isSeenSo_62 (lv_at hl 0 rfl) ?_
            refine tr_iadd hx hb dX12_isSeenSo_64 tk_29 (Eq.refl _) (by omega) (by omega) (fun x12 ex12 => ?_)
            replace hF := hF.trans (congrArg (dv_k f_X12_isSeenSo_4b) (dv_bn (ex12.symm)))
            refine th_ialdF hC hB.1 hb1 ro_48 rfl (Eq.refl _) (by omega) (by omega) (ek_side (by omega) (by omega)) dX12_isSeenSo_65 (fun x13 mx13 lx13 ux13 => ?_)
            replace hF := hF.trans (congrArg (dv_k f_X12_isSeenSo_4b) (dv_bn (dv_aldI hB.1 hU hb1 ow_48 (z := x12.toInt) mx13 (by omega))))
            refine lv_aload_n hx hb dX12_isSeenSo_66 rfl (lv_at hl 1 rfl) ?_
            refine th_getK hC cf_X12 hB.1 h0 ro_46 rfl (j := 2) (by decide) mb1 kf_X12_28 dX12_isSeenSo_67 ?_
            refine lv_bipush (v := 47) hx hb dX12_isSeenSo_70 (by decide) ?_
            refine lv_iconst (v := 3) hx hb dX12_isSeenSo_72 (by decide) ?_
            refine lv_iload_n hx hb dX12_isSeenSo_73 rfl (lv_at hl 4 rfl) ?_
            refine tr_imul hx hb dX12_isSeenSo_74 tk_3 (Eq.refl _) (by omega) (by omega) (fun x14 ex14 => ?_)
            replace hF := hF.trans (congrArg (dv_k f_X12_isSeenSo_4b) (dv_bn (ex14.symm)))
            refine tr_iadd hx hb dX12_isSeenSo_75 tk_47 (Eq.refl _) (by omega) (by omega) (fun x15 ex15 => ?_)
            replace hF := hF.trans (congrArg (dv_k f_X12_isSeenSo_4b) (dv_bn (ex15.symm)))
            refine lv_iconst (v := 2) hx hb dX12_isSeenSo_76 (by decide) ?_
            refine tr_iadd hx hb dX12_isSeenSo_77 (Eq.refl _) tk_2 (by omega) (by omega) (fun x16 ex16 => ?_)
            replace hF := hF.trans (congrArg (dv_k f_X12_isSeenSo_4b) (dv_bn (ex16.symm)))
            refine th_ialdF hC hB.1 hb1 ro_48 rfl (Eq.refl _) (by omega) (by omega) (ek_b (by omega) (by omega)) dX12_isSeenSo_78 (fun x17 mx17 lx17 ux17 => ?_)
            replace hF := hF.trans (congrArg (dv_k f_X12_isSeenSo_4b) (dv_bn (dv_aldI hB.1 hU hb1 ow_48 (z := x16.toInt) mx17 (by omega))))
            refine tr_icmp_ne (tgt := 86) hx hb dX12_isSeenSo_79 (by decide) (Eq.refl _) (Eq.refl _) (fun c79 => ?_) (fun c79 => ?_)
            · replace hF := hF.trans (congrArg (dv_k f_X12_isSeenSo_4b) (if_pos c79))
              exact jn86 locs ls hB (lv_sub hl [1, 2, 4] rfl) hF
            · replace hF := hF.trans (congrArg (dv_k f_X12_isSeenSo_4b) (if_neg (not_not_intro c79)))
              refine lv_iconst (v := 1) hx hb dX12_isSeenSo_82 (by decide) ?_
              refine lv_goto (tgt := 87) hx hb dX12_isSeenSo_83 (by decide) ?_
              exact jn87 locs ls 1 hB (lv_sub hl [1, 2, 4] rfl) (by rw [tk_1]; exact hF) (by decide) (by decide)
  exact lp4 ((2147483648 : Int) - (0)).toNat [] ls 1 0 hB (lv_sub hl [2, 3, 1, 0] rfl) (by rw [tk_1, tk_0]; exact hF) (by decide) (by decide) (by decide) (by decide) (by have w0 := tk_0; have w1 := tk_1; omega)

set_option maxHeartbeats 4000000 in
set_option maxRecDepth 100000 in
theorem c_X12_count (l : Launch) (G : th_G) (Γ : th_Ga) (H0 : Heap) (hI : th_I G Γ H0) (hU : dv_U Γ) (a0 : Nat) (h0 : Γ a0 = (46, 0)) (p1 : Int32) : Met l yX12_count (.code yX12_count cX12_count 2 (some FieldType.int) :: th_tb) ({ frames := 2, cells := 0, slots := 0, locals := 43 } : Room) (th_P [.ref a0, .int p1] G H0) (th_Q (fun (v : Option Value) (H1 : Heap) => ∃ r : Int32, v = some (.int r) ∧ (f_X12_count (dv G Γ H0) (a0 : Int) p1.toInt = (r.toInt, ())) ∧ H0 = H1) G) 0 0 (fun q => G.2.2 ≤ q) := by
  refine th_met RX12 (by decide) rfl (Nat.le_of_ble_eq_true rfl) ?_
  intro p e s m below meth c hC hH hr hlocks hnm ls hl
  have hx := hC.1
  have hb := hC.2.1
  have hB : th_B G Γ Γ [] H0 H0 [] := ⟨hI, va_S.rf, th_F_rf⟩
  have hl : lv_has ls 2 [(0, .ref a0), (1, .int p1)] := hl
  have lp1 := ti_lo p1; have up1 := ti_hi p1
  obtain ⟨F, hF0⟩ : ∃ F, F = f_X12_count (dv G Γ H0) ((a0 : Int)) (p1.toInt) := ⟨_, rfl⟩
  have hF := hF0.trans (f_X12_count.eq_1 (dv G Γ H0) ((a0 : Int)) (p1.toInt))
  refine lv_iload_n hx hb dX12_count_0 rfl (lv_at hl 1 rfl) ?_
  by_cases k1_0 : p1.toInt = 0
  · replace hF := hF.trans (if_pos k1_0)
    refine lv_tableIn (off := 91) (tgt := 92) hx hb dX12_count_1 (by omega) (by omega) (by rw [show p1.toInt = 0 from k1_0]; decide) (by decide) ?_
    refine lv_aload_n hx hb dX12_count_92 rfl (lv_at hl 0 rfl) ?_
    refine th_call (th_runV (As := []) (rest := []) hC mf_X12_many km_X12_115 im_X12_many se_X12_many (c_X12_many l G Γ H0 hB.1 hU a0 h0) rfl rfl ⟨Nat.le_of_ble_eq_true rfl, Nat.le_of_ble_eq_true rfl⟩ hB.1 h0 ro_46 rfl rfl hl.1 rfl (Nat.le_of_ble_eq_true rfl) dX12_count_93 ⟨Nat.le_refl _, Nat.le_refl _⟩) hB.2.1 (fun v93 H93 locs hp hz hS => ?_)
    obtain ⟨x1, rfl, lx1, ux1, q93_0, q93_1, rfl⟩ := hp
    have hB := th_B_s hB hS
    replace hF := hF.trans (dv_bn2 (q93_1))
    refine W.eq (g2 := F0 m 96 ls [.int x1]) rfl ?_
    exact th_iret hC hH hr hlocks rfl hB.2.1 ⟨_, rfl, (hF0.symm.trans hF), rfl⟩ dX12_count_96
  replace hF := hF.trans (if_neg k1_0)
  by_cases k1_1 : p1.toInt = 1
  · replace hF := hF.trans (if_pos k1_1)
    refine lv_tableIn (off := 96) (tgt := 97) hx hb dX12_count_1 (by omega) (by omega) (by rw [show p1.toInt = 1 from k1_1]; decide) (by decide) ?_
    refine lv_aload_n hx hb dX12_count_97 rfl (lv_at hl 0 rfl) ?_
    refine th_call (th_runV (As := []) (rest := []) hC mf_X12_laidMany km_X12_143 im_X12_laidMany se_X12_laidMany (c_X12_laidMany l G Γ H0 hB.1 hU a0 h0) rfl rfl ⟨Nat.le_of_ble_eq_true rfl, Nat.le_of_ble_eq_true rfl⟩ hB.1 h0 ro_46 rfl rfl hl.1 rfl (Nat.le_of_ble_eq_true rfl) dX12_count_98 ⟨Nat.le_refl _, Nat.le_refl _⟩) hB.2.1 (fun v98 H98 locs hp hz hS => ?_)
    obtain ⟨x2, rfl, lx2, ux2, q98_0, q98_1, rfl⟩ := hp
    have hB := th_B_s hB hS
    replace hF := hF.trans (dv_bn2 (q98_1))
    refine W.eq (g2 := F0 m 101 ls [.int x2]) rfl ?_
    exact th_iret hC hH hr hlocks rfl hB.2.1 ⟨_, rfl, (hF0.symm.trans hF), rfl⟩ dX12_count_101
  replace hF := hF.trans (if_neg k1_1)
  by_cases k1_2 : p1.toInt = 2
  · replace hF := hF.trans (if_pos k1_2)
    refine lv_tableIn (off := 101) (tgt := 102) hx hb dX12_count_1 (by omega) (by omega) (by rw [show p1.toInt = 2 from k1_2]; decide) (by decide) ?_
    refine lv_aload_n hx hb dX12_count_102 rfl (lv_at hl 0 rfl) ?_
    refine th_call (th_runV (As := []) (rest := []) hC mf_X12_ragMany km_X12_526 im_X12_ragMany se_X12_ragMany (c_X12_ragMany l G Γ H0 hB.1 hU a0 h0) rfl rfl ⟨Nat.le_of_ble_eq_true rfl, Nat.le_of_ble_eq_true rfl⟩ hB.1 h0 ro_46 rfl rfl hl.1 rfl (Nat.le_of_ble_eq_true rfl) dX12_count_103 ⟨Nat.le_refl _, Nat.le_refl _⟩) hB.2.1 (fun v103 H103 locs hp hz hS => ?_)
    obtain ⟨x3, rfl, q103_0, rfl⟩ := hp
    have hB := th_B_s hB hS
    replace hF := hF.trans (dv_bn2 (q103_0))
    refine W.eq (g2 := F0 m 106 ls [.int x3]) rfl ?_
    exact th_iret hC hH hr hlocks rfl hB.2.1 ⟨_, rfl, (hF0.symm.trans hF), rfl⟩ dX12_count_106
  replace hF := hF.trans (if_neg k1_2)
  by_cases k1_3 : p1.toInt = 3
  · replace hF := hF.trans (if_pos k1_3)
    refine lv_tableIn (off := 106) (tgt := 107) hx hb dX12_count_1 (by omega) (by omega) (by rw [show p1.toInt = 3 from k1_3]; decide) (by decide) ?_
    refine lv_aload_n hx hb dX12_count_107 rfl (lv_at hl 0 rfl) ?_
    refine th_getO (j := 2) (r2 := 48) hC cf_X12 hB.1 h0 ro_46 rfl rfl kf_X12_28 dX12_count_108 (fun b4 mb4 hb4 => ?_)
    refine lv_bipush (v := 27) hx hb dX12_count_111 (by decide) ?_
    refine th_ialdF hC hB.1 hb4 ro_48 rfl tk_27 (by omega) (by omega) (ek_a (by omega) (by omega)) dX12_count_113 (fun x5 mx5 lx5 ux5 => ?_)
    replace hF := hF.trans (dv_bn (dv_aldI hB.1 hU hb4 ow_48 (z := 27) mx5 (by omega)))
    exact th_iret hC hH hr hlocks rfl hB.2.1 ⟨_, rfl, (hF0.symm.trans hF), rfl⟩ dX12_count_114
  replace hF := hF.trans (if_neg k1_3)
  by_cases k1_4 : p1.toInt = 4
  · replace hF := hF.trans (if_pos k1_4)
    refine lv_tableIn (off := 114) (tgt := 115) hx hb dX12_count_1 (by omega) (by omega) (by rw [show p1.toInt = 4 from k1_4]; decide) (by decide) ?_
    refine lv_aload_n hx hb dX12_count_115 rfl (lv_at hl 0 rfl) ?_
    refine th_getO (j := 2) (r2 := 48) hC cf_X12 hB.1 h0 ro_46 rfl rfl kf_X12_28 dX12_count_116 (fun b6 mb6 hb6 => ?_)
    refine lv_bipush (v := 70) hx hb dX12_count_119 (by decide) ?_
    refine th_ialdF hC hB.1 hb6 ro_48 rfl tk_70 (by omega) (by omega) (ek_seen (by omega) (by omega)) dX12_count_121 (fun x7 mx7 lx7 ux7 => ?_)
    replace hF := hF.trans (dv_bn (dv_aldI hB.1 hU hb6 ow_48 (z := 70) mx7 (by omega)))
    exact th_iret hC hH hr hlocks rfl hB.2.1 ⟨_, rfl, (hF0.symm.trans hF), rfl⟩ dX12_count_122
  replace hF := hF.trans (if_neg k1_4)
  by_cases k1_5 : p1.toInt = 5
  · replace hF := hF.trans (if_pos k1_5)
    refine lv_tableIn (off := 122) (tgt := 123) hx hb dX12_count_1 (by omega) (by omega) (by rw [show p1.toInt = 5 from k1_5]; decide) (by decide) ?_
    refine lv_aload_n hx hb dX12_count_123 rfl (lv_at hl 0 rfl) ?_
    refine th_getO (j := 2) (r2 := 48) hC cf_X12 hB.1 h0 ro_46 rfl rfl kf_X12_28 dX12_count_124 (fun b8 mb8 hb8 => ?_)
    refine lv_bipush (v := 71) hx hb dX12_count_127 (by decide) ?_
    refine th_ialdF hC hB.1 hb8 ro_48 rfl tk_71 (by omega) (by omega) (ek_told (by omega) (by omega)) dX12_count_129 (fun x9 mx9 lx9 ux9 => ?_)
    replace hF := hF.trans (dv_bn (dv_aldI hB.1 hU hb8 ow_48 (z := 71) mx9 (by omega)))
    exact th_iret hC hH hr hlocks rfl hB.2.1 ⟨_, rfl, (hF0.symm.trans hF), rfl⟩ dX12_count_130
  replace hF := hF.trans (if_neg k1_5)
  by_cases k1_6 : p1.toInt = 6
  · replace hF := hF.trans (if_pos k1_6)
    refine lv_tableIn (off := 130) (tgt := 131) hx hb dX12_count_1 (by omega) (by omega) (by rw [show p1.toInt = 6 from k1_6]; decide) (by decide) ?_
    refine lv_aload_n hx hb dX12_count_131 rfl (lv_at hl 0 rfl) ?_
    refine th_getI (j := 33) hC cf_X12 hB.1 h0 ro_46 rfl rfl kf_X12_11 dX12_count_132 (fun x10 mx10 lx10 ux10 => ?_)
    replace hF := hF.trans (dv_bn (dv_getI h0 ro_46 (j := 33) rfl mx10 (by decide)))
    exact th_iret hC hH hr hlocks rfl hB.2.1 ⟨_, rfl, (hF0.symm.trans hF), rfl⟩ dX12_count_135
  replace hF := hF.trans (if_neg k1_6)
  by_cases k1_7 : p1.toInt = 7
  · replace hF := hF.trans (if_pos k1_7)
    refine lv_tableIn (off := 135) (tgt := 136) hx hb dX12_count_1 (by omega) (by omega) (by rw [show p1.toInt = 7 from k1_7]; decide) (by decide) ?_
    refine lv_aload_n hx hb dX12_count_136 rfl (lv_at hl 0 rfl) ?_
    refine th_getI (j := 13) hC cf_X12 hB.1 h0 ro_46 rfl rfl kf_X12_169 dX12_count_137 (fun x11 mx11 lx11 ux11 => ?_)
    replace hF := hF.trans (dv_bn (dv_getI h0 ro_46 (j := 13) rfl mx11 (by decide)))
    exact th_iret hC hH hr hlocks rfl hB.2.1 ⟨_, rfl, (hF0.symm.trans hF), rfl⟩ dX12_count_140
  replace hF := hF.trans (if_neg k1_7)
  by_cases k1_8 : p1.toInt = 8
  · replace hF := hF.trans (if_pos k1_8)
    refine lv_tableIn (off := 140) (tgt := 141) hx hb dX12_count_1 (by omega) (by omega) (by rw [show p1.toInt = 8 from k1_8]; decide) (by decide) ?_
    refine lv_aload_n hx hb dX12_count_141 rfl (lv_at hl 0 rfl) ?_
    refine th_getO (j := 1) (r2 := 47) hC cf_X12 hB.1 h0 ro_46 rfl rfl kf_X12_7 dX12_count_142 (fun b12 mb12 hb12 => ?_)
    refine lv_iload_n hx hb dX12_count_145 rfl (lv_at hl 1 rfl) ?_
    refine lv_bipush (v := 7) hx hb dX12_count_146 (by decide) ?_
    refine tr_isub hx hb dX12_count_148 (Eq.refl _) tk_7 (by omega) (by omega) (fun x13 ex13 => ?_)
    replace hF := hF.trans (dv_bn (ex13.symm))
    refine th_ialdF hC hB.1 hb12 ro_47 rfl (Eq.refl _) (by omega) (by omega) rfl dX12_count_149 (fun x14 mx14 lx14 ux14 => ?_)
    replace hF := hF.trans (dv_bn (dv_aldI hB.1 hU hb12 ow_47 (z := x13.toInt) mx14 (by omega)))
    exact th_iret hC hH hr hlocks rfl hB.2.1 ⟨_, rfl, (hF0.symm.trans hF), rfl⟩ dX12_count_150
  replace hF := hF.trans (if_neg k1_8)
  by_cases k1_9 : p1.toInt = 9
  · replace hF := hF.trans (if_pos k1_9)
    refine lv_tableIn (off := 140) (tgt := 141) hx hb dX12_count_1 (by omega) (by omega) (by rw [show p1.toInt = 9 from k1_9]; decide) (by decide) ?_
    refine lv_aload_n hx hb dX12_count_141 rfl (lv_at hl 0 rfl) ?_
    refine th_getO (j := 1) (r2 := 47) hC cf_X12 hB.1 h0 ro_46 rfl rfl kf_X12_7 dX12_count_142 (fun b15 mb15 hb15 => ?_)
    refine lv_iload_n hx hb dX12_count_145 rfl (lv_at hl 1 rfl) ?_
    refine lv_bipush (v := 7) hx hb dX12_count_146 (by decide) ?_
    refine tr_isub hx hb dX12_count_148 (Eq.refl _) tk_7 (by omega) (by omega) (fun x16 ex16 => ?_)
    replace hF := hF.trans (dv_bn (ex16.symm))
    refine th_ialdF hC hB.1 hb15 ro_47 rfl (Eq.refl _) (by omega) (by omega) rfl dX12_count_149 (fun x17 mx17 lx17 ux17 => ?_)
    replace hF := hF.trans (dv_bn (dv_aldI hB.1 hU hb15 ow_47 (z := x16.toInt) mx17 (by omega)))
    exact th_iret hC hH hr hlocks rfl hB.2.1 ⟨_, rfl, (hF0.symm.trans hF), rfl⟩ dX12_count_150
  replace hF := hF.trans (if_neg k1_9)
  by_cases k1_10 : p1.toInt = 10
  · replace hF := hF.trans (if_pos k1_10)
    refine lv_tableIn (off := 140) (tgt := 141) hx hb dX12_count_1 (by omega) (by omega) (by rw [show p1.toInt = 10 from k1_10]; decide) (by decide) ?_
    refine lv_aload_n hx hb dX12_count_141 rfl (lv_at hl 0 rfl) ?_
    refine th_getO (j := 1) (r2 := 47) hC cf_X12 hB.1 h0 ro_46 rfl rfl kf_X12_7 dX12_count_142 (fun b18 mb18 hb18 => ?_)
    refine lv_iload_n hx hb dX12_count_145 rfl (lv_at hl 1 rfl) ?_
    refine lv_bipush (v := 7) hx hb dX12_count_146 (by decide) ?_
    refine tr_isub hx hb dX12_count_148 (Eq.refl _) tk_7 (by omega) (by omega) (fun x19 ex19 => ?_)
    replace hF := hF.trans (dv_bn (ex19.symm))
    refine th_ialdF hC hB.1 hb18 ro_47 rfl (Eq.refl _) (by omega) (by omega) rfl dX12_count_149 (fun x20 mx20 lx20 ux20 => ?_)
    replace hF := hF.trans (dv_bn (dv_aldI hB.1 hU hb18 ow_47 (z := x19.toInt) mx20 (by omega)))
    exact th_iret hC hH hr hlocks rfl hB.2.1 ⟨_, rfl, (hF0.symm.trans hF), rfl⟩ dX12_count_150
  replace hF := hF.trans (if_neg k1_10)
  by_cases k1_11 : p1.toInt = 11
  · replace hF := hF.trans (if_pos k1_11)
    refine lv_tableIn (off := 150) (tgt := 151) hx hb dX12_count_1 (by omega) (by omega) (by rw [show p1.toInt = 11 from k1_11]; decide) (by decide) ?_
    refine lv_aload_n hx hb dX12_count_151 rfl (lv_at hl 0 rfl) ?_
    refine th_getO (j := 1) (r2 := 47) hC cf_X12 hB.1 h0 ro_46 rfl rfl kf_X12_7 dX12_count_152 (fun b21 mb21 hb21 => ?_)
    refine lv_iconst (v := 5) hx hb dX12_count_155 (by decide) ?_
    refine th_ialdF hC hB.1 hb21 ro_47 rfl tk_5 (by omega) (by omega) rfl dX12_count_156 (fun x22 mx22 lx22 ux22 => ?_)
    replace hF := hF.trans (dv_bn (dv_aldI hB.1 hU hb21 ow_47 (z := 5) mx22 (by omega)))
    exact th_iret hC hH hr hlocks rfl hB.2.1 ⟨_, rfl, (hF0.symm.trans hF), rfl⟩ dX12_count_157
  replace hF := hF.trans (if_neg k1_11)
  by_cases k1_12 : p1.toInt = 12
  · replace hF := hF.trans (if_pos k1_12)
    refine lv_tableIn (off := 157) (tgt := 158) hx hb dX12_count_1 (by omega) (by omega) (by rw [show p1.toInt = 12 from k1_12]; decide) (by decide) ?_
    refine lv_aload_n hx hb dX12_count_158 rfl (lv_at hl 0 rfl) ?_
    refine th_getO (j := 1) (r2 := 47) hC cf_X12 hB.1 h0 ro_46 rfl rfl kf_X12_7 dX12_count_159 (fun b23 mb23 hb23 => ?_)
    refine lv_bipush (v := 6) hx hb dX12_count_162 (by decide) ?_
    refine th_ialdF hC hB.1 hb23 ro_47 rfl tk_6 (by omega) (by omega) rfl dX12_count_164 (fun x24 mx24 lx24 ux24 => ?_)
    replace hF := hF.trans (dv_bn (dv_aldI hB.1 hU hb23 ow_47 (z := 6) mx24 (by omega)))
    exact th_iret hC hH hr hlocks rfl hB.2.1 ⟨_, rfl, (hF0.symm.trans hF), rfl⟩ dX12_count_165
  replace hF := hF.trans (if_neg k1_12)
  by_cases k1_13 : p1.toInt = 13
  · replace hF := hF.trans (if_pos k1_13)
    refine lv_tableIn (off := 165) (tgt := 166) hx hb dX12_count_1 (by omega) (by omega) (by rw [show p1.toInt = 13 from k1_13]; decide) (by decide) ?_
    refine lv_aload_n hx hb dX12_count_166 rfl (lv_at hl 0 rfl) ?_
    refine th_getO (j := 2) (r2 := 48) hC cf_X12 hB.1 h0 ro_46 rfl rfl kf_X12_28 dX12_count_167 (fun b25 mb25 hb25 => ?_)
    refine lv_bipush (v := 72) hx hb dX12_count_170 (by decide) ?_
    refine th_ialdF hC hB.1 hb25 ro_48 rfl tk_72 (by omega) (by omega) (ek_force (by omega) (by omega)) dX12_count_172 (fun x26 mx26 lx26 ux26 => ?_)
    replace hF := hF.trans (dv_bn (dv_aldI hB.1 hU hb25 ow_48 (z := 72) mx26 (by omega)))
    exact th_iret hC hH hr hlocks rfl hB.2.1 ⟨_, rfl, (hF0.symm.trans hF), rfl⟩ dX12_count_173
  replace hF := hF.trans (if_neg k1_13)
  by_cases k1_14 : p1.toInt = 14
  · replace hF := hF.trans (if_pos k1_14)
    refine lv_tableIn (off := 173) (tgt := 174) hx hb dX12_count_1 (by omega) (by omega) (by rw [show p1.toInt = 14 from k1_14]; decide) (by decide) ?_
    refine lv_aload_n hx hb dX12_count_174 rfl (lv_at hl 0 rfl) ?_
    refine th_getO (j := 2) (r2 := 48) hC cf_X12 hB.1 h0 ro_46 rfl rfl kf_X12_28 dX12_count_175 (fun b27 mb27 hb27 => ?_)
    refine lv_iload_n hx hb dX12_count_178 rfl (lv_at hl 1 rfl) ?_
    refine lv_bipush (v := 14) hx hb dX12_count_179 (by decide) ?_
    refine tr_isub hx hb dX12_count_181 (Eq.refl _) tk_14 (by omega) (by omega) (fun x28 ex28 => ?_)
    replace hF := hF.trans (dv_bn (ex28.symm))
    refine th_call (th_runS (As := [.int x28]) (rest := [.ref b27]) hC mf_X12_termAt km_X12_166 st_X12_termAt (c_X12_termAt l G Γ H0 hB.1 hU x28) rfl rfl ⟨Nat.le_of_ble_eq_true rfl, Nat.le_of_ble_eq_true rfl⟩ rfl hl.1 rfl (Nat.le_of_ble_eq_true rfl) dX12_count_182 ⟨Nat.le_refl _, Nat.le_refl _⟩) hB.2.1 (fun v182 H182 locs hp hz hS => ?_)
    obtain ⟨x29, rfl, lx29, ux29, q182_0, q182_1, rfl⟩ := hp
    have hB := th_B_s hB hS
    replace hF := hF.trans (dv_bn2 (q182_1))
    refine W.eq (g2 := F0 m 185 ls [.int x29, .ref b27]) rfl ?_
    refine th_ialdF hC hB.1 hb27 ro_48 rfl (Eq.refl _) (by omega) (by omega) (ek_t (by omega) (by omega)) dX12_count_185 (fun x30 mx30 lx30 ux30 => ?_)
    replace hF := hF.trans (dv_bn (dv_aldI hB.1 hU hb27 ow_48 (z := x29.toInt) mx30 (by omega)))
    exact th_iret hC hH hr hlocks rfl hB.2.1 ⟨_, rfl, (hF0.symm.trans hF), rfl⟩ dX12_count_186
  replace hF := hF.trans (if_neg k1_14)
  by_cases k1_15 : p1.toInt = 15
  · replace hF := hF.trans (if_pos k1_15)
    refine lv_tableIn (off := 173) (tgt := 174) hx hb dX12_count_1 (by omega) (by omega) (by rw [show p1.toInt = 15 from k1_15]; decide) (by decide) ?_
    refine lv_aload_n hx hb dX12_count_174 rfl (lv_at hl 0 rfl) ?_
    refine th_getO (j := 2) (r2 := 48) hC cf_X12 hB.1 h0 ro_46 rfl rfl kf_X12_28 dX12_count_175 (fun b31 mb31 hb31 => ?_)
    refine lv_iload_n hx hb dX12_count_178 rfl (lv_at hl 1 rfl) ?_
    refine lv_bipush (v := 14) hx hb dX12_count_179 (by decide) ?_
    refine tr_isub hx hb dX12_count_181 (Eq.refl _) tk_14 (by omega) (by omega) (fun x32 ex32 => ?_)
    replace hF := hF.trans (dv_bn (ex32.symm))
    refine th_call (th_runS (As := [.int x32]) (rest := [.ref b31]) hC mf_X12_termAt km_X12_166 st_X12_termAt (c_X12_termAt l G Γ H0 hB.1 hU x32) rfl rfl ⟨Nat.le_of_ble_eq_true rfl, Nat.le_of_ble_eq_true rfl⟩ rfl hl.1 rfl (Nat.le_of_ble_eq_true rfl) dX12_count_182 ⟨Nat.le_refl _, Nat.le_refl _⟩) hB.2.1 (fun v182 H182 locs hp hz hS => ?_)
    obtain ⟨x33, rfl, lx33, ux33, q182_0, q182_1, rfl⟩ := hp
    have hB := th_B_s hB hS
    replace hF := hF.trans (dv_bn2 (q182_1))
    refine W.eq (g2 := F0 m 185 ls [.int x33, .ref b31]) rfl ?_
    refine th_ialdF hC hB.1 hb31 ro_48 rfl (Eq.refl _) (by omega) (by omega) (ek_t (by omega) (by omega)) dX12_count_185 (fun x34 mx34 lx34 ux34 => ?_)
    replace hF := hF.trans (dv_bn (dv_aldI hB.1 hU hb31 ow_48 (z := x33.toInt) mx34 (by omega)))
    exact th_iret hC hH hr hlocks rfl hB.2.1 ⟨_, rfl, (hF0.symm.trans hF), rfl⟩ dX12_count_186
  replace hF := hF.trans (if_neg k1_15)
  by_cases k1_16 : p1.toInt = 16
  · replace hF := hF.trans (if_pos k1_16)
    refine lv_tableIn (off := 173) (tgt := 174) hx hb dX12_count_1 (by omega) (by omega) (by rw [show p1.toInt = 16 from k1_16]; decide) (by decide) ?_
    refine lv_aload_n hx hb dX12_count_174 rfl (lv_at hl 0 rfl) ?_
    refine th_getO (j := 2) (r2 := 48) hC cf_X12 hB.1 h0 ro_46 rfl rfl kf_X12_28 dX12_count_175 (fun b35 mb35 hb35 => ?_)
    refine lv_iload_n hx hb dX12_count_178 rfl (lv_at hl 1 rfl) ?_
    refine lv_bipush (v := 14) hx hb dX12_count_179 (by decide) ?_
    refine tr_isub hx hb dX12_count_181 (Eq.refl _) tk_14 (by omega) (by omega) (fun x36 ex36 => ?_)
    replace hF := hF.trans (dv_bn (ex36.symm))
    refine th_call (th_runS (As := [.int x36]) (rest := [.ref b35]) hC mf_X12_termAt km_X12_166 st_X12_termAt (c_X12_termAt l G Γ H0 hB.1 hU x36) rfl rfl ⟨Nat.le_of_ble_eq_true rfl, Nat.le_of_ble_eq_true rfl⟩ rfl hl.1 rfl (Nat.le_of_ble_eq_true rfl) dX12_count_182 ⟨Nat.le_refl _, Nat.le_refl _⟩) hB.2.1 (fun v182 H182 locs hp hz hS => ?_)
    obtain ⟨x37, rfl, lx37, ux37, q182_0, q182_1, rfl⟩ := hp
    have hB := th_B_s hB hS
    replace hF := hF.trans (dv_bn2 (q182_1))
    refine W.eq (g2 := F0 m 185 ls [.int x37, .ref b35]) rfl ?_
    refine th_ialdF hC hB.1 hb35 ro_48 rfl (Eq.refl _) (by omega) (by omega) (ek_t (by omega) (by omega)) dX12_count_185 (fun x38 mx38 lx38 ux38 => ?_)
    replace hF := hF.trans (dv_bn (dv_aldI hB.1 hU hb35 ow_48 (z := x37.toInt) mx38 (by omega)))
    exact th_iret hC hH hr hlocks rfl hB.2.1 ⟨_, rfl, (hF0.symm.trans hF), rfl⟩ dX12_count_186
  replace hF := hF.trans (if_neg k1_16)
  by_cases k1_17 : p1.toInt = 17
  · replace hF := hF.trans (if_pos k1_17)
    refine lv_tableIn (off := 186) (tgt := 187) hx hb dX12_count_1 (by omega) (by omega) (by rw [show p1.toInt = 17 from k1_17]; decide) (by decide) ?_
    refine lv_aload_n hx hb dX12_count_187 rfl (lv_at hl 0 rfl) ?_
    refine th_getO (j := 2) (r2 := 48) hC cf_X12 hB.1 h0 ro_46 rfl rfl kf_X12_28 dX12_count_188 (fun b39 mb39 hb39 => ?_)
    refine lv_bipush (v := 67) hx hb dX12_count_191 (by decide) ?_
    refine th_ialdF hC hB.1 hb39 ro_48 rfl tk_67 (by omega) (by omega) (ek_hall (by omega) (by omega)) dX12_count_193 (fun x40 mx40 lx40 ux40 => ?_)
    replace hF := hF.trans (dv_bn (dv_aldI hB.1 hU hb39 ow_48 (z := 67) mx40 (by omega)))
    exact th_iret hC hH hr hlocks rfl hB.2.1 ⟨_, rfl, (hF0.symm.trans hF), rfl⟩ dX12_count_194
  replace hF := hF.trans (if_neg k1_17)
  by_cases k1_18 : p1.toInt = 18
  · replace hF := hF.trans (if_pos k1_18)
    refine lv_tableIn (off := 194) (tgt := 195) hx hb dX12_count_1 (by omega) (by omega) (by rw [show p1.toInt = 18 from k1_18]; decide) (by decide) ?_
    refine lv_aload_n hx hb dX12_count_195 rfl (lv_at hl 0 rfl) ?_
    refine th_getO (j := 2) (r2 := 48) hC cf_X12 hB.1 h0 ro_46 rfl rfl kf_X12_28 dX12_count_196 (fun b41 mb41 hb41 => ?_)
    refine lv_bipush (v := 68) hx hb dX12_count_199 (by decide) ?_
    refine th_ialdF hC hB.1 hb41 ro_48 rfl tk_68 (by omega) (by omega) (ek_hall (by omega) (by omega)) dX12_count_201 (fun x42 mx42 lx42 ux42 => ?_)
    replace hF := hF.trans (dv_bn (dv_aldI hB.1 hU hb41 ow_48 (z := 68) mx42 (by omega)))
    exact th_iret hC hH hr hlocks rfl hB.2.1 ⟨_, rfl, (hF0.symm.trans hF), rfl⟩ dX12_count_202
  replace hF := hF.trans (if_neg k1_18)
  refine lv_tableOut (tgt := 203) hx hb dX12_count_1 (by omega) (by decide) ?_
  refine lv_iconst (v := (-1)) hx hb dX12_count_203 (by decide) ?_
  exact th_iret hC hH hr hlocks rfl hB.2.1 ⟨_, rfl, (hF0.symm.trans (hF.trans (by rw [tk_m1]))), rfl⟩ dX12_count_204
