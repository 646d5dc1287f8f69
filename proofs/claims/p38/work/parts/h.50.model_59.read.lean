section
section TMO
theorem ek_a {b : Int} (h0 : 0 ≤ b) (h1 : b ≤ 28) : th_esk b.toNat = (0, (-2147483648), 2147483647) := by
  unfold th_esk th_any; (repeat' split) <;> first | rfl | omega
theorem ek_side {b : Int} (h0 : 29 ≤ b) (h1 : b ≤ 37) : th_esk b.toNat = (0, 0, 12) := by
  unfold th_esk th_any; (repeat' split) <;> first | rfl | omega
theorem ek_b {b : Int} (h0 : 38 ≤ b) (h1 : b ≤ 66) : th_esk b.toNat = (0, (-2147483648), 2147483647) := by
  unfold th_esk th_any; (repeat' split) <;> first | rfl | omega
theorem ek_t {b : Int} (h0 : b = 28 ∨ 65 ≤ b) (h1 : b ≤ 66) : th_esk b.toNat = (0, (-2147483648), 2147483647) := by
  unfold th_esk th_any; (repeat' split) <;> first | rfl | omega
theorem ek_hall {b : Int} (h0 : 67 ≤ b) (h1 : b ≤ 68) : th_esk b.toNat = (0, 0, 12) := by
  unfold th_esk th_any; (repeat' split) <;> first | rfl | omega
theorem ek_many {b : Int} (h0 : 69 ≤ b) (h1 : b ≤ 69) : th_esk b.toNat = (0, 0, 9) := by
  unfold th_esk th_any; (repeat' split) <;> first | rfl | omega
theorem ek_seen {b : Int} (h0 : 70 ≤ b) (h1 : b ≤ 70) : th_esk b.toNat = (0, 0, 6) := by
  unfold th_esk th_any; (repeat' split) <;> first | rfl | omega
theorem ek_told {b : Int} (h0 : 71 ≤ b) (h1 : b ≤ 71) : th_esk b.toNat = (0, 0, 6) := by
  unfold th_esk th_any; (repeat' split) <;> first | rfl | omega
theorem ek_force {b : Int} (h0 : 72 ≤ b) (h1 : b ≤ 72) : th_esk b.toNat = (0, (-1), 5) := by
  unfold th_esk th_any; (repeat' split) <;> first | rfl | omega
theorem ek_size {b : Int} (h0 : 73 ≤ b) (h1 : b ≤ 79) : th_esk b.toNat = (0, 0, 400) := by
  unfold th_esk th_any; (repeat' split) <;> first | rfl | omega
theorem ek_c {b : Int} (h0 : 80 ≤ b) (h1 : b ≤ 5679) : th_esk b.toNat = (0, (-2147483648), 2147483647) := by
  unfold th_esk th_any; (repeat' split) <;> first | rfl | omega
end TMO
set_option maxHeartbeats 4000000 in
set_option maxRecDepth 100000 in
theorem c_X12_lies (l : Launch) (G : th_G) (Γ : th_Ga) (H0 : Heap) (hI : th_I G Γ H0) (hU : dv_U Γ) (p1 : Int32) (p2 : Int32) (p3 : Int32) : Met l yX12_lies (.code yX12_lies cX12_lies 3 (some FieldType.boolean) :: th_tb) ({ frames := 0, cells := 0, slots := 0, locals := 0 } : Room) (th_P [.int p1, .int p2, .int p3] G H0) (th_Q (fun (v : Option Value) (H1 : Heap) => ∃ r : Int32, v = some (.int r) ∧ 0 ≤ r.toInt ∧ r.toInt ≤ 1 ∧ (r.toInt = 1 → p2.toInt ≤ p1.toInt ∧ p1.toInt ≤ p3.toInt) ∧ (r.toInt = 0 → p1.toInt < p2.toInt ∨ p3.toInt < p1.toInt) ∧ (f_X12_lies (dv G Γ H0) p1.toInt p2.toInt p3.toInt = (r.toInt, ())) ∧ H0 = H1) G) 0 0 (fun q => G.1.2.2 ≤ q) := by
  refine th_met RX12 (by decide) rfl (Nat.le_of_ble_eq_true rfl) ?_
  intro p e s m below meth c hC hH hr hlocks hnm ls hl
  have hx := hC.1
  have hb := hC.2.1
  have hB : th_B G Γ Γ [] H0 H0 [] := ⟨hI, va_S.rf, th_F_rf⟩
  have hl : lv_has ls 3 [(0, .int p1), (1, .int p2), (2, .int p3)] := hl
  have lp1 := ti_lo p1; have up1 := ti_hi p1
  have lp2 := ti_lo p2; have up2 := ti_hi p2
  have lp3 := ti_lo p3; have up3 := ti_hi p3
  obtain ⟨F, hF0⟩ : ∃ F, F = f_X12_lies (dv G Γ H0) (p1.toInt) (p2.toInt) (p3.toInt) := ⟨_, rfl⟩
  have hF := hF0.trans (f_X12_lies.eq_1 (dv G Γ H0) (p1.toInt) (p2.toInt) (p3.toInt))
  refine lv_iload_n hx hb gX12_lies_0.1 rfl (lv_at hl 0 rfl) ?_
  refine lv_iload_n hx hb gX12_lies_0.2.1 rfl (lv_at hl 1 rfl) ?_
  refine tr_icmp_lt (tgt := 14) hx hb gX12_lies_0.2.2.1 (by decide) (Eq.refl _) (Eq.refl _) (fun c2 => ?_) (fun c2 => ?_)
  · replace hF := hF.trans (if_pos c2)
    refine lv_iconst (v := 0) hx hb gX12_lies_1.1 (by decide) ?_
    exact th_iret hC hH hr hlocks narrow_b0 hB.2.1 ⟨_, rfl, by decide, by decide, by first | (intro h9; exact absurd h9 (by decide)) | (have w9 := tk_0; intros; omega), by first | (intro h9; exact absurd h9 (by decide)) | (have w9 := tk_0; intros; omega), (hF0.symm.trans (hF.trans (by rw [tk_0]))), rfl⟩ gX12_lies_1.2
  · replace hF := hF.trans (if_neg (Int.not_lt.mpr c2))
    refine lv_iload_n hx hb gX12_lies_0.2.2.2.1 rfl (lv_at hl 0 rfl) ?_
    refine lv_iload_n hx hb gX12_lies_0.2.2.2.2.1 rfl (lv_at hl 2 rfl) ?_
    refine tr_icmp_gt (tgt := 14) hx hb gX12_lies_0.2.2.2.2.2.1 (by decide) (Eq.refl _) (Eq.refl _) (fun c7 => ?_) (fun c7 => ?_)
    · replace hF := hF.trans (if_pos c7)
      refine lv_iconst (v := 0) hx hb gX12_lies_1.1 (by decide) ?_
      exact th_iret hC hH hr hlocks narrow_b0 hB.2.1 ⟨_, rfl, by decide, by decide, by first | (intro h9; exact absurd h9 (by decide)) | (have w9 := tk_0; intros; omega), by first | (intro h9; exact absurd h9 (by decide)) | (have w9 := tk_0; intros; omega), (hF0.symm.trans (hF.trans (by rw [tk_0]))), rfl⟩ gX12_lies_1.2
    · replace hF := hF.trans (if_neg (Int.not_lt.mpr c7))
      refine lv_iconst (v := 1) hx hb gX12_lies_0.2.2.2.2.2.2.1 (by decide) ?_
      refine lv_goto (tgt := 15) hx hb gX12_lies_0.2.2.2.2.2.2.2 (by decide) ?_
      exact th_iret hC hH hr hlocks narrow_b1 hB.2.1 ⟨_, rfl, by decide, by decide, by first | (intro h9; exact absurd h9 (by decide)) | (have w9 := tk_1; intros; omega), by first | (intro h9; exact absurd h9 (by decide)) | (have w9 := tk_1; intros; omega), (hF0.symm.trans (hF.trans (by rw [tk_1]))), rfl⟩ gX12_lies_1.2

set_option maxHeartbeats 4000000 in
set_option maxRecDepth 100000 in
theorem c_X12_lesser (l : Launch) (G : th_G) (Γ : th_Ga) (H0 : Heap) (hI : th_I G Γ H0) (hU : dv_U Γ) (p1 : Int32) (p2 : Int32) : Met l yX12_lesser (.code yX12_lesser cX12_lesser 2 (some FieldType.int) :: th_tb) ({ frames := 0, cells := 0, slots := 0, locals := 0 } : Room) (th_P [.int p1, .int p2] G H0) (th_Q (fun (v : Option Value) (H1 : Heap) => ∃ r : Int32, v = some (.int r) ∧ (r.toInt = p1.toInt ∨ r.toInt = p2.toInt) ∧ (f_X12_lesser (dv G Γ H0) p1.toInt p2.toInt = (r.toInt, ())) ∧ H0 = H1) G) 0 0 (fun q => G.1.2.2 ≤ q) := by
  refine th_met RX12 (by decide) rfl (Nat.le_of_ble_eq_true rfl) ?_
  intro p e s m below meth c hC hH hr hlocks hnm ls hl
  have hx := hC.1
  have hb := hC.2.1
  have hB : th_B G Γ Γ [] H0 H0 [] := ⟨hI, va_S.rf, th_F_rf⟩
  have hl : lv_has ls 2 [(0, .int p1), (1, .int p2)] := hl
  have lp1 := ti_lo p1; have up1 := ti_hi p1
  have lp2 := ti_lo p2; have up2 := ti_hi p2
  obtain ⟨F, hF0⟩ : ∃ F, F = f_X12_lesser (dv G Γ H0) (p1.toInt) (p2.toInt) := ⟨_, rfl⟩
  have hF := hF0.trans (f_X12_lesser.eq_1 (dv G Γ H0) (p1.toInt) (p2.toInt))
  refine lv_iload_n hx hb gX12_lesser_0.1 rfl (lv_at hl 0 rfl) ?_
  refine lv_iload_n hx hb gX12_lesser_0.2.1 rfl (lv_at hl 1 rfl) ?_
  refine tr_icmp_ge (tgt := 9) hx hb gX12_lesser_0.2.2.1 (by decide) (Eq.refl _) (Eq.refl _) (fun c2 => ?_) (fun c2 => ?_)
  · replace hF := hF.trans (if_pos c2)
    refine lv_iload_n hx hb gX12_lesser_0.2.2.2.2.2.1 rfl (lv_at hl 1 rfl) ?_
    exact th_iret hC hH hr hlocks rfl hB.2.1 ⟨_, rfl, by intros; omega, (hF0.symm.trans hF), rfl⟩ gX12_lesser_0.2.2.2.2.2.2
  · replace hF := hF.trans (if_neg (Int.not_le.mpr c2))
    refine lv_iload_n hx hb gX12_lesser_0.2.2.2.1 rfl (lv_at hl 0 rfl) ?_
    refine lv_goto (tgt := 10) hx hb gX12_lesser_0.2.2.2.2.1 (by decide) ?_
    exact th_iret hC hH hr hlocks rfl hB.2.1 ⟨_, rfl, by intros; omega, (hF0.symm.trans hF), rfl⟩ gX12_lesser_0.2.2.2.2.2.2

set_option maxHeartbeats 4000000 in
set_option maxRecDepth 100000 in
theorem c_X12_greater (l : Launch) (G : th_G) (Γ : th_Ga) (H0 : Heap) (hI : th_I G Γ H0) (hU : dv_U Γ) (p1 : Int32) (p2 : Int32) : Met l yX12_greater (.code yX12_greater cX12_greater 2 (some FieldType.int) :: th_tb) ({ frames := 0, cells := 0, slots := 0, locals := 0 } : Room) (th_P [.int p1, .int p2] G H0) (th_Q (fun (v : Option Value) (H1 : Heap) => ∃ r : Int32, v = some (.int r) ∧ (r.toInt = p1.toInt ∨ r.toInt = p2.toInt) ∧ (f_X12_greater (dv G Γ H0) p1.toInt p2.toInt = (r.toInt, ())) ∧ H0 = H1) G) 0 0 (fun q => G.1.2.2 ≤ q) := by
  refine th_met RX12 (by decide) rfl (Nat.le_of_ble_eq_true rfl) ?_
  intro p e s m below meth c hC hH hr hlocks hnm ls hl
  have hx := hC.1
  have hb := hC.2.1
  have hB : th_B G Γ Γ [] H0 H0 [] := ⟨hI, va_S.rf, th_F_rf⟩
  have hl : lv_has ls 2 [(0, .int p1), (1, .int p2)] := hl
  have lp1 := ti_lo p1; have up1 := ti_hi p1
  have lp2 := ti_lo p2; have up2 := ti_hi p2
  obtain ⟨F, hF0⟩ : ∃ F, F = f_X12_greater (dv G Γ H0) (p1.toInt) (p2.toInt) := ⟨_, rfl⟩
  have hF := hF0.trans (f_X12_greater.eq_1 (dv G Γ H0) (p1.toInt) (p2.toInt))
  refine lv_iload_n hx hb gX12_greater_0.1 rfl (lv_at hl 0 rfl) ?_
  refine lv_iload_n hx hb gX12_greater_0.2.1 rfl (lv_at hl 1 rfl) ?_
  refine tr_icmp_le (tgt := 9) hx hb gX12_greater_0.2.2.1 (by decide) (Eq.refl _) (Eq.refl _) (fun c2 => ?_) (fun c2 => ?_)
  · replace hF := hF.trans (if_pos c2)
    refine lv_iload_n hx hb gX12_greater_0.2.2.2.2.2.1 rfl (lv_at hl 1 rfl) ?_
    exact th_iret hC hH hr hlocks rfl hB.2.1 ⟨_, rfl, by intros; omega, (hF0.symm.trans hF), rfl⟩ gX12_greater_0.2.2.2.2.2.2
  · replace hF := hF.trans (if_neg (Int.not_le.mpr c2))
    refine lv_iload_n hx hb gX12_greater_0.2.2.2.1 rfl (lv_at hl 0 rfl) ?_
    refine lv_goto (tgt := 10) hx hb gX12_greater_0.2.2.2.2.1 (by decide) ?_
    exact th_iret hC hH hr hlocks rfl hB.2.1 ⟨_, rfl, by intros; omega, (hF0.symm.trans hF), rfl⟩ gX12_greater_0.2.2.2.2.2.2

set_option maxHeartbeats 4000000 in
set_option maxRecDepth 100000 in
theorem c_X12_isIn (l : Launch) (G : th_G) (Γ : th_Ga) (H0 : Heap) (hI : th_I G Γ H0) (hU : dv_U Γ) (p1 : Int32) (p2 : Int32) (f2 : 0 ≤ p2.toInt) (g2 : p2.toInt ≤ 11) : Met l yX12_isIn (.code yX12_isIn cX12_isIn 2 (some FieldType.boolean) :: th_tb) ({ frames := 0, cells := 0, slots := 0, locals := 0 } : Room) (th_P [.int p1, .int p2] G H0) (th_Q (fun (v : Option Value) (H1 : Heap) => ∃ r : Int32, v = some (.int r) ∧ 0 ≤ r.toInt ∧ r.toInt ≤ 1 ∧ (r.toInt = 1 → mo_bt p1 p2.toInt) ∧ (f_X12_isIn (dv G Γ H0) p1.toInt p2.toInt = (r.toInt, ())) ∧ H0 = H1) G) 0 0 (fun q => G.1.2.2 ≤ q) := by
  refine th_met RX12 (by decide) rfl (Nat.le_of_ble_eq_true rfl) ?_
  intro p e s m below meth c hC hH hr hlocks hnm ls hl
  have hx := hC.1
  have hb := hC.2.1
  have hB : th_B G Γ Γ [] H0 H0 [] := ⟨hI, va_S.rf, th_F_rf⟩
  have hl : lv_has ls 2 [(0, .int p1), (1, .int p2)] := hl
  have lp1 := ti_lo p1; have up1 := ti_hi p1
  have lp2 := ti_lo p2; have up2 := ti_hi p2
  obtain ⟨F, hF0⟩ : ∃ F, F = f_X12_isIn (dv G Γ H0) (p1.toInt) (p2.toInt) := ⟨_, rfl⟩
  have hF := hF0.trans (f_X12_isIn.eq_1 (dv G Γ H0) (p1.toInt) (p2.toInt))
  refine lv_iload_n hx hb gX12_isIn_0.1 rfl (lv_at hl 0 rfl) ?_
  refine lv_iload_n hx hb gX12_isIn_0.2.1 rfl (lv_at hl 1 rfl) ?_
  refine lv_ishr hx hb gX12_isIn_0.2.2.1 ?_
  refine lv_topi (fun x1 ex1 => ?_)
  have lx1 := ti_lo x1; have ux1 := ti_hi x1
  replace hF := hF.trans (dv_bn (dv_shr_e (Eq.refl _) (Eq.refl _) ex1))
  refine lv_iconst (v := 1) hx hb gX12_isIn_0.2.2.2.1 (by decide) ?_
  refine lv_iand hx hb gX12_isIn_0.2.2.2.2.1 ?_
  refine lv_topi (fun x2 ex2 => ?_)
  have lx2 := ti_lo x2; have ux2 := ti_hi x2
  replace hF := hF.trans (dv_bn (dv_and_e (Eq.refl _) tk_1 ex2))
  have fx2 := ti_and x1 1 (m := 1) (by decide) (by decide)
  rw [← ex2] at fx2
  refine lv_iconst (v := 1) hx hb gX12_isIn_0.2.2.2.2.2.1 (by decide) ?_
  refine tr_icmp_ne (tgt := 13) hx hb gX12_isIn_0.2.2.2.2.2.2.1 (by decide) (Eq.refl _) tk_1 (fun c6 => ?_) (fun c6 => ?_)
  · replace hF := hF.trans (if_pos c6)
    refine lv_iconst (v := 0) hx hb gX12_isIn_1.2.1 (by decide) ?_
    exact th_iret hC hH hr hlocks narrow_b0 hB.2.1 ⟨_, rfl, by decide, by decide, by first | (intro h9; exact absurd h9 (by decide)) | (intro _; exact mo_bt_of (by omega) (by omega) ex1 ex2 (by omega)), (hF0.symm.trans (hF.trans (by rw [tk_0]))), rfl⟩ gX12_isIn_1.2.2
  · replace hF := hF.trans (if_neg (not_not_intro c6))
    refine lv_iconst (v := 1) hx hb gX12_isIn_0.2.2.2.2.2.2.2 (by decide) ?_
    refine lv_goto (tgt := 14) hx hb gX12_isIn_1.1 (by decide) ?_
    exact th_iret hC hH hr hlocks narrow_b1 hB.2.1 ⟨_, rfl, by decide, by decide, by first | (intro h9; exact absurd h9 (by decide)) | (intro _; exact mo_bt_of (by omega) (by omega) ex1 ex2 (by omega)), (hF0.symm.trans (hF.trans (by rw [tk_1]))), rfl⟩ gX12_isIn_1.2.2

set_option maxHeartbeats 4000000 in
set_option maxRecDepth 100000 in
theorem c_X12_isSide (l : Launch) (G : th_G) (Γ : th_Ga) (H0 : Heap) (hI : th_I G Γ H0) (hU : dv_U Γ) (p1 : Int32) : Met l yX12_isSide (.code yX12_isSide cX12_isSide 1 (some FieldType.boolean) :: th_tb) ({ frames := 1, cells := 0, slots := 0, locals := 22 } : Room) (th_P [.int p1] G H0) (th_Q (fun (v : Option Value) (H1 : Heap) => ∃ r : Int32, v = some (.int r) ∧ 0 ≤ r.toInt ∧ r.toInt ≤ 1 ∧ (r.toInt = 1 → 1 ≤ p1.toInt ∧ p1.toInt ≤ 12) ∧ (f_X12_isSide (dv G Γ H0) p1.toInt = (r.toInt, ())) ∧ H0 = H1) G) 0 0 (fun q => G.1.2.2 ≤ q) := by
  refine th_met RX12 (by decide) rfl (Nat.le_of_ble_eq_true rfl) ?_
  intro p e s m below meth c hC hH hr hlocks hnm ls hl
  have hx := hC.1
  have hb := hC.2.1
  have hB : th_B G Γ Γ [] H0 H0 [] := ⟨hI, va_S.rf, th_F_rf⟩
  have hl : lv_has ls 1 [(0, .int p1)] := hl
  have lp1 := ti_lo p1; have up1 := ti_hi p1
  obtain ⟨F, hF0⟩ : ∃ F, F = f_X12_isSide (dv G Γ H0) (p1.toInt) := ⟨_, rfl⟩
  have hF := hF0.trans (f_X12_isSide.eq_1 (dv G Γ H0) (p1.toInt))
  refine lv_iload_n hx hb gX12_isSide_0.1 rfl (lv_at hl 0 rfl) ?_
  refine lv_iconst (v := 1) hx hb gX12_isSide_0.2.1 (by decide) ?_
  refine lv_bipush (v := 12) hx hb gX12_isSide_0.2.2.1 (by decide) ?_
  refine th_call (th_runS (As := [.int p1, .int 1, .int 12]) (rest := []) hC mf_X12_lies km_X12_18 st_X12_lies (c_X12_lies l G Γ H0 hB.1 hU p1 1 12) rfl rfl ⟨Nat.le_of_ble_eq_true rfl, Nat.le_of_ble_eq_true rfl⟩ rfl hl.1 rfl (Nat.le_of_ble_eq_true rfl) gX12_isSide_0.2.2.2.1 ⟨Nat.le_refl _, Nat.le_refl _⟩) hB.2.1 (fun v4 H4 locs hp hz hS => ?_)
  obtain ⟨x1, rfl, lx1, ux1, q4_0, q4_1, q4_2, rfl⟩ := hp
  have hB := th_B_s hB hS
  have w4_1 := tk_1
  have w4_2 := tk_12
  have zf4 := q4_2
  rw [tk_1, tk_12] at zf4
  replace hF := hF.trans (dv_bn2 (zf4))
  refine W.eq (g2 := F0 m 7 ls [.int x1]) rfl ?_
  exact th_iret hC hH hr hlocks (th_nb (by omega) (by omega)) hB.2.1 ⟨_, rfl, by omega, by omega, by intros; omega, (hF0.symm.trans hF), rfl⟩ gX12_isSide_0.2.2.2.2

set_option maxHeartbeats 4000000 in
set_option maxRecDepth 100000 in
theorem c_X12_isAlong (l : Launch) (G : th_G) (Γ : th_Ga) (H0 : Heap) (hI : th_I G Γ H0) (hU : dv_U Γ) (p1 : Int32) : Met l yX12_isAlong (.code yX12_isAlong cX12_isAlong 1 (some FieldType.boolean) :: th_tb) ({ frames := 1, cells := 0, slots := 0, locals := 22 } : Room) (th_P [.int p1] G H0) (th_Q (fun (v : Option Value) (H1 : Heap) => ∃ r : Int32, v = some (.int r) ∧ 0 ≤ r.toInt ∧ r.toInt ≤ 1 ∧ (r.toInt = 1 → 0 ≤ p1.toInt ∧ p1.toInt ≤ 11) ∧ (f_X12_isAlong (dv G Γ H0) p1.toInt = (r.toInt, ())) ∧ H0 = H1) G) 0 0 (fun q => G.1.2.2 ≤ q) := by
  refine th_met RX12 (by decide) rfl (Nat.le_of_ble_eq_true rfl) ?_
  intro p e s m below meth c hC hH hr hlocks hnm ls hl
  have hx := hC.1
  have hb := hC.2.1
  have hB : th_B G Γ Γ [] H0 H0 [] := ⟨hI, va_S.rf, th_F_rf⟩
  have hl : lv_has ls 1 [(0, .int p1)] := hl
  have lp1 := ti_lo p1; have up1 := ti_hi p1
  obtain ⟨F, hF0⟩ : ∃ F, F = f_X12_isAlong (dv G Γ H0) (p1.toInt) := ⟨_, rfl⟩
  have hF := hF0.trans (f_X12_isAlong.eq_1 (dv G Γ H0) (p1.toInt))
  refine lv_iload_n hx hb gX12_isAlong_0.1 rfl (lv_at hl 0 rfl) ?_
  refine lv_iconst (v := 0) hx hb gX12_isAlong_0.2.1 (by decide) ?_
  refine lv_bipush (v := 11) hx hb gX12_isAlong_0.2.2.1 (by decide) ?_
  refine th_call (th_runS (As := [.int p1, .int 0, .int 11]) (rest := []) hC mf_X12_lies km_X12_18 st_X12_lies (c_X12_lies l G Γ H0 hB.1 hU p1 0 11) rfl rfl ⟨Nat.le_of_ble_eq_true rfl, Nat.le_of_ble_eq_true rfl⟩ rfl hl.1 rfl (Nat.le_of_ble_eq_true rfl) gX12_isAlong_0.2.2.2.1 ⟨Nat.le_refl _, Nat.le_refl _⟩) hB.2.1 (fun v4 H4 locs hp hz hS => ?_)
  obtain ⟨x1, rfl, lx1, ux1, q4_0, q4_1, q4_2, rfl⟩ := hp
  have hB := th_B_s hB hS
  have w4_1 := tk_0
  have w4_2 := tk_11
  have zf4 := q4_2
  rw [tk_0, tk_11] at zf4
  replace hF := hF.trans (dv_bn2 (zf4))
  refine W.eq (g2 := F0 m 7 ls [.int x1]) rfl ?_
  exact th_iret hC hH hr hlocks (th_nb (by omega) (by omega)) hB.2.1 ⟨_, rfl, by omega, by omega, by intros; omega, (hF0.symm.trans hF), rfl⟩ gX12_isAlong_0.2.2.2.2

set_option maxHeartbeats 4000000 in
set_option maxRecDepth 100000 in
theorem c_X12_canBe (l : Launch) (G : th_G) (Γ : th_Ga) (H0 : Heap) (hI : th_I G Γ H0) (hU : dv_U Γ) (p1 : Int32) (p2 : Int32) (p3 : Int32) : Met l yX12_canBe (.code yX12_canBe cX12_canBe 3 (some FieldType.boolean) :: th_tb) ({ frames := 2, cells := 0, slots := 0, locals := 42 } : Room) (th_P [.int p1, .int p2, .int p3] G H0) (th_Q (fun (v : Option Value) (H1 : Heap) => ∃ r : Int32, v = some (.int r) ∧ 0 ≤ r.toInt ∧ r.toInt ≤ 1 ∧ (r.toInt = 1 → 1 ≤ p1.toInt ∧ p1.toInt ≤ 12) ∧ (f_X12_canBe (dv G Γ H0) p1.toInt p2.toInt p3.toInt = (r.toInt, ())) ∧ H0 = H1) G) 0 0 (fun q => G.1.2.2 ≤ q) := by
  refine th_met RX12 (by decide) rfl (Nat.le_of_ble_eq_true rfl) ?_
  intro p e s m below meth c hC hH hr hlocks hnm ls hl
  have hx := hC.1
  have hb := hC.2.1
  have hB : th_B G Γ Γ [] H0 H0 [] := ⟨hI, va_S.rf, th_F_rf⟩
  have hl : lv_has ls 3 [(0, .int p1), (1, .int p2), (2, .int p3)] := hl
  have lp1 := ti_lo p1; have up1 := ti_hi p1
  have lp2 := ti_lo p2; have up2 := ti_hi p2
  have lp3 := ti_lo p3; have up3 := ti_hi p3
  obtain ⟨F, hF0⟩ : ∃ F, F = f_X12_canBe (dv G Γ H0) (p1.toInt) (p2.toInt) (p3.toInt) := ⟨_, rfl⟩
  have hF := hF0.trans (f_X12_canBe.eq_1 (dv G Γ H0) (p1.toInt) (p2.toInt) (p3.toInt))
  refine lv_iload_n hx hb gX12_canBe_0.1 rfl (lv_at hl 0 rfl) ?_
  refine th_call (th_runS (As := [.int p1]) (rest := []) hC mf_X12_isSide km_X12_119 st_X12_isSide (c_X12_isSide l G Γ H0 hB.1 hU p1) rfl rfl ⟨Nat.le_of_ble_eq_true rfl, Nat.le_of_ble_eq_true rfl⟩ rfl hl.1 rfl (Nat.le_of_ble_eq_true rfl) gX12_canBe_0.2.1 ⟨Nat.le_refl _, Nat.le_refl _⟩) hB.2.1 (fun v1 H1 locs hp hz hS => ?_)
  obtain ⟨x1, rfl, lx1, ux1, q1_0, q1_1, rfl⟩ := hp
  have hB := th_B_s hB hS
  replace hF := hF.trans (dv_bn2 (q1_1))
  refine W.eq (g2 := F0 m 4 ls [.int x1]) rfl ?_
  refine tr_if_eq (tgt := 30) hx hb gX12_canBe_0.2.2.1 (by decide) (Eq.refl _) (fun c4 => ?_) (fun c4 => ?_)
  · replace hF := hF.trans (if_pos c4)
    refine lv_iconst (v := 0) hx hb gX12_canBe_1.2.2.2.2.2.2.2 (by decide) ?_
    exact th_iret hC hH hr hlocks narrow_b0 hB.2.1 ⟨_, rfl, by decide, by decide, by first | (intro h9; exact absurd h9 (by decide)) | (have w9 := tk_0; intros; omega), (hF0.symm.trans (hF.trans (by rw [tk_0]))), rfl⟩ gX12_canBe_2
  · replace hF := hF.trans (if_neg c4)
    refine lv_iload_n hx hb gX12_canBe_0.2.2.2.1 rfl (lv_at hl 1 rfl) ?_
    refine lv_iconst (v := 0) hx hb gX12_canBe_0.2.2.2.2.1 (by decide) ?_
    refine lv_iconst (v := 3) hx hb gX12_canBe_0.2.2.2.2.2.1 (by decide) ?_
    refine th_call (th_runS (As := [.int p2, .int 0, .int 3]) (rest := []) hC mf_X12_lies km_X12_18 st_X12_lies (c_X12_lies l G Γ H0 hB.1 hU p2 0 3) rfl rfl ⟨Nat.le_of_ble_eq_true rfl, Nat.le_of_ble_eq_true rfl⟩ rfl hl.1 rfl (Nat.le_of_ble_eq_true rfl) gX12_canBe_0.2.2.2.2.2.2.1 ⟨Nat.le_refl _, Nat.le_refl _⟩) hB.2.1 (fun v10 H10 locs hp hz hS => ?_)
    obtain ⟨x2, rfl, lx2, ux2, q10_0, q10_1, q10_2, rfl⟩ := hp
    have hB := th_B_s hB hS
    have w10_1 := tk_0
    have w10_2 := tk_3
    have zf10 := q10_2
    rw [tk_0, tk_3] at zf10
    replace hF := hF.trans (dv_bn2 (zf10))
    refine W.eq (g2 := F0 m 13 ls [.int x2]) rfl ?_
    refine tr_if_eq (tgt := 30) hx hb gX12_canBe_0.2.2.2.2.2.2.2 (by decide) (Eq.refl _) (fun c13 => ?_) (fun c13 => ?_)
    · replace hF := hF.trans (if_pos c13)
      refine lv_iconst (v := 0) hx hb gX12_canBe_1.2.2.2.2.2.2.2 (by decide) ?_
      exact th_iret hC hH hr hlocks narrow_b0 hB.2.1 ⟨_, rfl, by decide, by decide, by first | (intro h9; exact absurd h9 (by decide)) | (have w9 := tk_0; intros; omega), (hF0.symm.trans (hF.trans (by rw [tk_0]))), rfl⟩ gX12_canBe_2
    · replace hF := hF.trans (if_neg c13)
      refine lv_iload_n hx hb gX12_canBe_1.1 rfl (lv_at hl 2 rfl) ?_
      refine lv_iconst (v := 0) hx hb gX12_canBe_1.2.1 (by decide) ?_
      refine lv_bipush (v := 9) hx hb gX12_canBe_1.2.2.1 (by decide) ?_
      refine th_call (th_runS (As := [.int p3, .int 0, .int 9]) (rest := []) hC mf_X12_lies km_X12_18 st_X12_lies (c_X12_lies l G Γ H0 hB.1 hU p3 0 9) rfl rfl ⟨Nat.le_of_ble_eq_true rfl, Nat.le_of_ble_eq_true rfl⟩ rfl hl.1 rfl (Nat.le_of_ble_eq_true rfl) gX12_canBe_1.2.2.2.1 ⟨Nat.le_refl _, Nat.le_refl _⟩) hB.2.1 (fun v20 H20 locs hp hz hS => ?_)
      obtain ⟨x3, rfl, lx3, ux3, q20_0, q20_1, q20_2, rfl⟩ := hp
      have hB := th_B_s hB hS
      have w20_1 := tk_0
      have w20_2 := tk_9
      have zf20 := q20_2
      rw [tk_0, tk_9] at zf20
      replace hF := hF.trans (dv_bn2 (zf20))
      refine W.eq (g2 := F0 m 23 ls [.int x3]) rfl ?_
      refine tr_if_eq (tgt := 30) hx hb gX12_canBe_1.2.2.2.2.1 (by decide) (Eq.refl _) (fun c23 => ?_) (fun c23 => ?_)
      · replace hF := hF.trans (if_pos c23)
        refine lv_iconst (v := 0) hx hb gX12_canBe_1.2.2.2.2.2.2.2 (by decide) ?_
        exact th_iret hC hH hr hlocks narrow_b0 hB.2.1 ⟨_, rfl, by decide, by decide, by first | (intro h9; exact absurd h9 (by decide)) | (have w9 := tk_0; intros; omega), (hF0.symm.trans (hF.trans (by rw [tk_0]))), rfl⟩ gX12_canBe_2
      · replace hF := hF.trans (if_neg c23)
        refine lv_iconst (v := 1) hx hb gX12_canBe_1.2.2.2.2.2.1 (by decide) ?_
        refine lv_goto (tgt := 31) hx hb gX12_canBe_1.2.2.2.2.2.2.1 (by decide) ?_
        exact th_iret hC hH hr hlocks narrow_b1 hB.2.1 ⟨_, rfl, by decide, by decide, by first | (intro h9; exact absurd h9 (by decide)) | (have w9 := tk_1; intros; omega), (hF0.symm.trans (hF.trans (by rw [tk_1]))), rfl⟩ gX12_canBe_2

set_option maxHeartbeats 4000000 in
set_option maxRecDepth 100000 in
theorem c_X12_isTerm (l : Launch) (G : th_G) (Γ : th_Ga) (H0 : Heap) (hI : th_I G Γ H0) (hU : dv_U Γ) (p1 : Int32) (p2 : Int32) : Met l yX12_isTerm (.code yX12_isTerm cX12_isTerm 2 (some FieldType.boolean) :: th_tb) ({ frames := 1, cells := 0, slots := 0, locals := 22 } : Room) (th_P [.int p1, .int p2] G H0) (th_Q (fun (v : Option Value) (H1 : Heap) => ∃ r : Int32, v = some (.int r) ∧ 0 ≤ r.toInt ∧ r.toInt ≤ 1 ∧ (r.toInt = 1 → 0 ≤ p1.toInt ∧ p1.toInt ≤ 2) ∧ (f_X12_isTerm (dv G Γ H0) p1.toInt p2.toInt = (r.toInt, ())) ∧ H0 = H1) G) 0 0 (fun q => G.1.2.2 ≤ q) := by
  refine th_met RX12 (by decide) rfl (Nat.le_of_ble_eq_true rfl) ?_
  intro p e s m below meth c hC hH hr hlocks hnm ls hl
  have hx := hC.1
  have hb := hC.2.1
  have hB : th_B G Γ Γ [] H0 H0 [] := ⟨hI, va_S.rf, th_F_rf⟩
  have hl : lv_has ls 2 [(0, .int p1), (1, .int p2)] := hl
  have lp1 := ti_lo p1; have up1 := ti_hi p1
  have lp2 := ti_lo p2; have up2 := ti_hi p2
  obtain ⟨F, hF0⟩ : ∃ F, F = f_X12_isTerm (dv G Γ H0) (p1.toInt) (p2.toInt) := ⟨_, rfl⟩
  have hF := hF0.trans (f_X12_isTerm.eq_1 (dv G Γ H0) (p1.toInt) (p2.toInt))
  refine lv_iload_n hx hb gX12_isTerm_0.1 rfl (lv_at hl 0 rfl) ?_
  by_cases k1_0 : p1.toInt = 0
  · replace hF := hF.trans (if_pos k1_0)
    refine lv_tableIn (off := 27) (tgt := 28) hx hb gX12_isTerm_0.2.1 (by omega) (by omega) (by rw [show p1.toInt = 0 from k1_0]; decide) (by decide) ?_
    refine lv_iload_n hx hb gX12_isTerm_0.2.2.1 rfl (lv_at hl 1 rfl) ?_
    refine lv_iconst (v := 0) hx hb gX12_isTerm_0.2.2.2.1 (by decide) ?_
    refine lv_sipush (v := 999) hx hb gX12_isTerm_0.2.2.2.2.1 (by decide) ?_
    refine th_call (th_runS (As := [.int p2, .int 0, .int 999]) (rest := []) hC mf_X12_lies km_X12_18 st_X12_lies (c_X12_lies l G Γ H0 hB.1 hU p2 0 999) rfl rfl ⟨Nat.le_of_ble_eq_true rfl, Nat.le_of_ble_eq_true rfl⟩ rfl hl.1 rfl (Nat.le_of_ble_eq_true rfl) gX12_isTerm_0.2.2.2.2.2.1 ⟨Nat.le_refl _, Nat.le_refl _⟩) hB.2.1 (fun v33 H33 locs hp hz hS => ?_)
    obtain ⟨x1, rfl, lx1, ux1, q33_0, q33_1, q33_2, rfl⟩ := hp
    have hB := th_B_s hB hS
    have w33_1 := tk_0
    have w33_2 := tk_999
    have zf33 := q33_2
    rw [tk_0, tk_999] at zf33
    replace hF := hF.trans (dv_bn2 (zf33))
    refine W.eq (g2 := F0 m 36 ls [.int x1]) rfl ?_
    exact th_iret hC hH hr hlocks (th_nb (by omega) (by omega)) hB.2.1 ⟨_, rfl, by omega, by omega, by intros; omega, (hF0.symm.trans hF), rfl⟩ gX12_isTerm_0.2.2.2.2.2.2.1
  replace hF := hF.trans (if_neg k1_0)
  by_cases k1_1 : p1.toInt = 1
  · replace hF := hF.trans (if_pos k1_1)
    refine lv_tableIn (off := 36) (tgt := 37) hx hb gX12_isTerm_0.2.1 (by omega) (by omega) (by rw [show p1.toInt = 1 from k1_1]; decide) (by decide) ?_
    refine lv_iload_n hx hb gX12_isTerm_0.2.2.2.2.2.2.2 rfl (lv_at hl 1 rfl) ?_
    refine lv_iconst (v := 0) hx hb gX12_isTerm_1.1 (by decide) ?_
    refine lv_bipush (v := 10) hx hb gX12_isTerm_1.2.1 (by decide) ?_
    refine th_call (th_runS (As := [.int p2, .int 0, .int 10]) (rest := []) hC mf_X12_lies km_X12_18 st_X12_lies (c_X12_lies l G Γ H0 hB.1 hU p2 0 10) rfl rfl ⟨Nat.le_of_ble_eq_true rfl, Nat.le_of_ble_eq_true rfl⟩ rfl hl.1 rfl (Nat.le_of_ble_eq_true rfl) gX12_isTerm_1.2.2.1 ⟨Nat.le_refl _, Nat.le_refl _⟩) hB.2.1 (fun v41 H41 locs hp hz hS => ?_)
    obtain ⟨x2, rfl, lx2, ux2, q41_0, q41_1, q41_2, rfl⟩ := hp
    have hB := th_B_s hB hS
    have w41_1 := tk_0
    have w41_2 := tk_10
    have zf41 := q41_2
    rw [tk_0, tk_10] at zf41
    replace hF := hF.trans (dv_bn2 (zf41))
    refine W.eq (g2 := F0 m 44 ls [.int x2]) rfl ?_
    exact th_iret hC hH hr hlocks (th_nb (by omega) (by omega)) hB.2.1 ⟨_, rfl, by omega, by omega, by intros; omega, (hF0.symm.trans hF), rfl⟩ gX12_isTerm_1.2.2.2.1
  replace hF := hF.trans (if_neg k1_1)
  by_cases k1_2 : p1.toInt = 2
  · replace hF := hF.trans (if_pos k1_2)
    refine lv_tableIn (off := 44) (tgt := 45) hx hb gX12_isTerm_0.2.1 (by omega) (by omega) (by rw [show p1.toInt = 2 from k1_2]; decide) (by decide) ?_
    refine lv_iload_n hx hb gX12_isTerm_1.2.2.2.2.1 rfl (lv_at hl 1 rfl) ?_
    refine lv_iconst (v := 0) hx hb gX12_isTerm_1.2.2.2.2.2.1 (by decide) ?_
    refine lv_bipush (v := 9) hx hb gX12_isTerm_1.2.2.2.2.2.2.1 (by decide) ?_
    refine th_call (th_runS (As := [.int p2, .int 0, .int 9]) (rest := []) hC mf_X12_lies km_X12_18 st_X12_lies (c_X12_lies l G Γ H0 hB.1 hU p2 0 9) rfl rfl ⟨Nat.le_of_ble_eq_true rfl, Nat.le_of_ble_eq_true rfl⟩ rfl hl.1 rfl (Nat.le_of_ble_eq_true rfl) gX12_isTerm_1.2.2.2.2.2.2.2 ⟨Nat.le_refl _, Nat.le_refl _⟩) hB.2.1 (fun v49 H49 locs hp hz hS => ?_)
    obtain ⟨x3, rfl, lx3, ux3, q49_0, q49_1, q49_2, rfl⟩ := hp
    have hB := th_B_s hB hS
    have w49_1 := tk_0
    have w49_2 := tk_9
    have zf49 := q49_2
    rw [tk_0, tk_9] at zf49
    replace hF := hF.trans (dv_bn2 (zf49))
    refine W.eq (g2 := F0 m 52 ls [.int x3]) rfl ?_
    exact th_iret hC hH hr hlocks (th_nb (by omega) (by omega)) hB.2.1 ⟨_, rfl, by omega, by omega, by intros; omega, (hF0.symm.trans hF), rfl⟩ gX12_isTerm_2.1
  replace hF := hF.trans (if_neg k1_2)
  refine lv_tableOut (tgt := 53) hx hb gX12_isTerm_0.2.1 (by omega) (by decide) ?_
  refine lv_iconst (v := 0) hx hb gX12_isTerm_2.2.1 (by decide) ?_
  exact th_iret hC hH hr hlocks narrow_b0 hB.2.1 ⟨_, rfl, by decide, by decide, by first | (intro h9; exact absurd h9 (by decide)) | (have w9 := tk_0; intros; omega), (hF0.symm.trans (hF.trans (by rw [tk_0]))), rfl⟩ gX12_isTerm_2.2.2

set_option maxHeartbeats 4000000 in
set_option maxRecDepth 100000 in
theorem c_X12_termAt (l : Launch) (G : th_G) (Γ : th_Ga) (H0 : Heap) (hI : th_I G Γ H0) (hU : dv_U Γ) (p1 : Int32) : Met l yX12_termAt (.code yX12_termAt cX12_termAt 1 (some FieldType.int) :: th_tb) ({ frames := 0, cells := 0, slots := 0, locals := 0 } : Room) (th_P [.int p1] G H0) (th_Q (fun (v : Option Value) (H1 : Heap) => ∃ r : Int32, v = some (.int r) ∧ 28 ≤ r.toInt ∧ r.toInt ≤ 66 ∧ (r.toInt = 28 ∨ 65 ≤ r.toInt) ∧ (f_X12_termAt (dv G Γ H0) p1.toInt = (r.toInt, ())) ∧ H0 = H1) G) 0 0 (fun q => G.1.2.2 ≤ q) := by
  refine th_met RX12 (by decide) rfl (Nat.le_of_ble_eq_true rfl) ?_
  intro p e s m below meth c hC hH hr hlocks hnm ls hl
  have hx := hC.1
  have hb := hC.2.1
  have hB : th_B G Γ Γ [] H0 H0 [] := ⟨hI, va_S.rf, th_F_rf⟩
  have hl : lv_has ls 1 [(0, .int p1)] := hl
  have lp1 := ti_lo p1; have up1 := ti_hi p1
  obtain ⟨F, hF0⟩ : ∃ F, F = f_X12_termAt (dv G Γ H0) (p1.toInt) := ⟨_, rfl⟩
  have hF := hF0.trans (f_X12_termAt.eq_1 (dv G Γ H0) (p1.toInt))
  refine lv_iload_n hx hb gX12_termAt_0.1 rfl (lv_at hl 0 rfl) ?_
  refine tr_if_ne (tgt := 9) hx hb gX12_termAt_0.2.1 (by decide) (Eq.refl _) (fun c1 => ?_) (fun c1 => ?_)
  · replace hF := hF.trans (if_pos c1)
    refine lv_iload_n hx hb gX12_termAt_0.2.2.2.2.1 rfl (lv_at hl 0 rfl) ?_
    refine lv_iconst (v := 1) hx hb gX12_termAt_0.2.2.2.2.2.1 (by decide) ?_
    refine tr_icmp_ne (tgt := 19) hx hb gX12_termAt_0.2.2.2.2.2.2.1 (by decide) (Eq.refl _) tk_1 (fun c11 => ?_) (fun c11 => ?_)
    · replace hF := hF.trans (if_pos c11)
      refine lv_bipush (v := 66) hx hb gX12_termAt_1.2.1 (by decide) ?_
      exact th_iret hC hH hr hlocks rfl hB.2.1 ⟨_, rfl, by decide, by decide, by first | (intro h9; exact absurd h9 (by decide)) | (have w9 := tk_66; intros; omega), (hF0.symm.trans (hF.trans (by rw [tk_66]))), rfl⟩ gX12_termAt_1.2.2
    · replace hF := hF.trans (if_neg (not_not_intro c11))
      refine lv_bipush (v := 65) hx hb gX12_termAt_0.2.2.2.2.2.2.2 (by decide) ?_
      refine lv_goto (tgt := 21) hx hb gX12_termAt_1.1 (by decide) ?_
      exact th_iret hC hH hr hlocks rfl hB.2.1 ⟨_, rfl, by decide, by decide, by first | (intro h9; exact absurd h9 (by decide)) | (have w9 := tk_65; intros; omega), (hF0.symm.trans (hF.trans (by rw [tk_65]))), rfl⟩ gX12_termAt_1.2.2
  · replace hF := hF.trans (if_neg (not_not_intro c1))
    refine lv_bipush (v := 28) hx hb gX12_termAt_0.2.2.1 (by decide) ?_
    refine lv_goto (tgt := 21) hx hb gX12_termAt_0.2.2.2.1 (by decide) ?_
    exact th_iret hC hH hr hlocks rfl hB.2.1 ⟨_, rfl, by decide, by decide, by first | (intro h9; exact absurd h9 (by decide)) | (have w9 := tk_28; intros; omega), (hF0.symm.trans (hF.trans (by rw [tk_28]))), rfl⟩ gX12_termAt_1.2.2

set_option maxHeartbeats 4000000 in
set_option maxRecDepth 100000 in
theorem c_X12_isSmall (l : Launch) (G : th_G) (Γ : th_Ga) (H0 : Heap) (hI : th_I G Γ H0) (hU : dv_U Γ) (p1 : Int32) : Met l yX12_isSmall (.code yX12_isSmall cX12_isSmall 1 (some FieldType.boolean) :: th_tb) ({ frames := 0, cells := 0, slots := 0, locals := 0 } : Room) (th_P [.int p1] G H0) (th_Q (fun (v : Option Value) (H1 : Heap) => ∃ r : Int32, v = some (.int r) ∧ 0 ≤ r.toInt ∧ r.toInt ≤ 1 ∧ (f_X12_isSmall (dv G Γ H0) p1.toInt = (r.toInt, ())) ∧ H0 = H1) G) 0 0 (fun q => G.1.2.2 ≤ q) := by
  refine th_met RX12 (by decide) rfl (Nat.le_of_ble_eq_true rfl) ?_
  intro p e s m below meth c hC hH hr hlocks hnm ls hl
  have hx := hC.1
  have hb := hC.2.1
  have hB : th_B G Γ Γ [] H0 H0 [] := ⟨hI, va_S.rf, th_F_rf⟩
  have hl : lv_has ls 1 [(0, .int p1)] := hl
  have lp1 := ti_lo p1; have up1 := ti_hi p1
  obtain ⟨F, hF0⟩ : ∃ F, F = f_X12_isSmall (dv G Γ H0) (p1.toInt) := ⟨_, rfl⟩
  have hF := hF0.trans (f_X12_isSmall.eq_1 (dv G Γ H0) (p1.toInt))
  refine lv_iload_n hx hb gX12_isSmall_0.1 rfl (lv_at hl 0 rfl) ?_
  refine lv_bipush (v := 97) hx hb gX12_isSmall_0.2.1 (by decide) ?_
  refine tr_icmp_lt (tgt := 16) hx hb gX12_isSmall_0.2.2.1 (by decide) (Eq.refl _) tk_97 (fun c3 => ?_) (fun c3 => ?_)
  · replace hF := hF.trans (if_pos c3)
    refine lv_iconst (v := 0) hx hb gX12_isSmall_1.1 (by decide) ?_
    exact th_iret hC hH hr hlocks narrow_b0 hB.2.1 ⟨_, rfl, by decide, by decide, (hF0.symm.trans (hF.trans (by rw [tk_0]))), rfl⟩ gX12_isSmall_1.2
  · replace hF := hF.trans (if_neg (Int.not_lt.mpr c3))
    refine lv_iload_n hx hb gX12_isSmall_0.2.2.2.1 rfl (lv_at hl 0 rfl) ?_
    refine lv_bipush (v := 122) hx hb gX12_isSmall_0.2.2.2.2.1 (by decide) ?_
    refine tr_icmp_gt (tgt := 16) hx hb gX12_isSmall_0.2.2.2.2.2.1 (by decide) (Eq.refl _) tk_122 (fun c9 => ?_) (fun c9 => ?_)
    · replace hF := hF.trans (if_pos c9)
      refine lv_iconst (v := 0) hx hb gX12_isSmall_1.1 (by decide) ?_
      exact th_iret hC hH hr hlocks narrow_b0 hB.2.1 ⟨_, rfl, by decide, by decide, (hF0.symm.trans (hF.trans (by rw [tk_0]))), rfl⟩ gX12_isSmall_1.2
    · replace hF := hF.trans (if_neg (Int.not_lt.mpr c9))
      refine lv_iconst (v := 1) hx hb gX12_isSmall_0.2.2.2.2.2.2.1 (by decide) ?_
      refine lv_goto (tgt := 17) hx hb gX12_isSmall_0.2.2.2.2.2.2.2 (by decide) ?_
      exact th_iret hC hH hr hlocks narrow_b1 hB.2.1 ⟨_, rfl, by decide, by decide, (hF0.symm.trans (hF.trans (by rw [tk_1]))), rfl⟩ gX12_isSmall_1.2

set_option maxHeartbeats 4000000 in
set_option maxRecDepth 100000 in
theorem c_X12_isDigit (l : Launch) (G : th_G) (Γ : th_Ga) (H0 : Heap) (hI : th_I G Γ H0) (hU : dv_U Γ) (p1 : Int32) : Met l yX12_isDigit (.code yX12_isDigit cX12_isDigit 1 (some FieldType.boolean) :: th_tb) ({ frames := 0, cells := 0, slots := 0, locals := 0 } : Room) (th_P [.int p1] G H0) (th_Q (fun (v : Option Value) (H1 : Heap) => ∃ r : Int32, v = some (.int r) ∧ 0 ≤ r.toInt ∧ r.toInt ≤ 1 ∧ (f_X12_isDigit (dv G Γ H0) p1.toInt = (r.toInt, ())) ∧ H0 = H1) G) 0 0 (fun q => G.1.2.2 ≤ q) := by
  refine th_met RX12 (by decide) rfl (Nat.le_of_ble_eq_true rfl) ?_
  intro p e s m below meth c hC hH hr hlocks hnm ls hl
  have hx := hC.1
  have hb := hC.2.1
  have hB : th_B G Γ Γ [] H0 H0 [] := ⟨hI, va_S.rf, th_F_rf⟩
  have hl : lv_has ls 1 [(0, .int p1)] := hl
  have lp1 := ti_lo p1; have up1 := ti_hi p1
  obtain ⟨F, hF0⟩ : ∃ F, F = f_X12_isDigit (dv G Γ H0) (p1.toInt) := ⟨_, rfl⟩
  have hF := hF0.trans (f_X12_isDigit.eq_1 (dv G Γ H0) (p1.toInt))
  refine lv_iload_n hx hb gX12_isDigit_0.1 rfl (lv_at hl 0 rfl) ?_
  refine lv_bipush (v := 48) hx hb gX12_isDigit_0.2.1 (by decide) ?_
  refine tr_icmp_lt (tgt := 16) hx hb gX12_isDigit_0.2.2.1 (by decide) (Eq.refl _) tk_48 (fun c3 => ?_) (fun c3 => ?_)
  · replace hF := hF.trans (if_pos c3)
    refine lv_iconst (v := 0) hx hb gX12_isDigit_1.1 (by decide) ?_
    exact th_iret hC hH hr hlocks narrow_b0 hB.2.1 ⟨_, rfl, by decide, by decide, (hF0.symm.trans (hF.trans (by rw [tk_0]))), rfl⟩ gX12_isDigit_1.2
  · replace hF := hF.trans (if_neg (Int.not_lt.mpr c3))
    refine lv_iload_n hx hb gX12_isDigit_0.2.2.2.1 rfl (lv_at hl 0 rfl) ?_
    refine lv_bipush (v := 57) hx hb gX12_isDigit_0.2.2.2.2.1 (by decide) ?_
    refine tr_icmp_gt (tgt := 16) hx hb gX12_isDigit_0.2.2.2.2.2.1 (by decide) (Eq.refl _) tk_57 (fun c9 => ?_) (fun c9 => ?_)
    · replace hF := hF.trans (if_pos c9)
      refine lv_iconst (v := 0) hx hb gX12_isDigit_1.1 (by decide) ?_
      exact th_iret hC hH hr hlocks narrow_b0 hB.2.1 ⟨_, rfl, by decide, by decide, (hF0.symm.trans (hF.trans (by rw [tk_0]))), rfl⟩ gX12_isDigit_1.2
    · replace hF := hF.trans (if_neg (Int.not_lt.mpr c9))
      refine lv_iconst (v := 1) hx hb gX12_isDigit_0.2.2.2.2.2.2.1 (by decide) ?_
      refine lv_goto (tgt := 17) hx hb gX12_isDigit_0.2.2.2.2.2.2.2 (by decide) ?_
      exact th_iret hC hH hr hlocks narrow_b1 hB.2.1 ⟨_, rfl, by decide, by decide, (hF0.symm.trans (hF.trans (by rw [tk_1]))), rfl⟩ gX12_isDigit_1.2

set_option maxHeartbeats 4000000 in
set_option maxRecDepth 100000 in
theorem c_X12_sign (l : Launch) (G : th_G) (Γ : th_Ga) (H0 : Heap) (hI : th_I G Γ H0) (hU : dv_U Γ) (p1 : Int32) (f1 : 0 ≤ p1.toInt) (g1 : p1.toInt ≤ 65535) : Met l yX12_sign (.code yX12_sign cX12_sign 1 (some FieldType.int) :: th_tb) ({ frames := 0, cells := 0, slots := 0, locals := 0 } : Room) (th_P [.int p1] G H0) (th_Q (fun (v : Option Value) (H1 : Heap) => ∃ r : Int32, v = some (.int r) ∧ 100 ≤ r.toInt ∧ r.toInt ≤ 65635 ∧ (r.toInt = p1.toInt + 100) ∧ (f_X12_sign (dv G Γ H0) p1.toInt = (r.toInt, ())) ∧ H0 = H1) G) 0 0 (fun q => G.1.2.2 ≤ q) := by
  refine th_met RX12 (by decide) rfl (Nat.le_of_ble_eq_true rfl) ?_
  intro p e s m below meth c hC hH hr hlocks hnm ls hl
  have hx := hC.1
  have hb := hC.2.1
  have hB : th_B G Γ Γ [] H0 H0 [] := ⟨hI, va_S.rf, th_F_rf⟩
  have hl : lv_has ls 1 [(0, .int p1)] := hl
  have lp1 := ti_lo p1; have up1 := ti_hi p1
  obtain ⟨F, hF0⟩ : ∃ F, F = f_X12_sign (dv G Γ H0) (p1.toInt) := ⟨_, rfl⟩
  have hF := hF0.trans (f_X12_sign.eq_1 (dv G Γ H0) (p1.toInt))
  refine lv_bipush (v := 100) hx hb gX12_sign_0.1 (by decide) ?_
  refine lv_iload_n hx hb gX12_sign_0.2.1 rfl (lv_at hl 0 rfl) ?_
  refine tr_iadd hx hb gX12_sign_0.2.2.1 tk_100 (Eq.refl _) (by omega) (by omega) (fun x1 ex1 => ?_)
  replace hF := hF.trans (dv_bn (ex1.symm))
  exact th_iret hC hH hr hlocks rfl hB.2.1 ⟨_, rfl, by omega, by omega, by intros; omega, (hF0.symm.trans hF), rfl⟩ gX12_sign_0.2.2.2

set_option maxHeartbeats 4000000 in
set_option maxRecDepth 100000 in
theorem c_X12_many (l : Launch) (G : th_G) (Γ : th_Ga) (H0 : Heap) (hI : th_I G Γ H0) (hU : dv_U Γ) (a0 : Nat) (h0 : Γ a0 = (46, 0)) : Met l yX12_many (.code yX12_many cX12_many 1 (some FieldType.int) :: th_tb) ({ frames := 0, cells := 0, slots := 0, locals := 0 } : Room) (th_P [.ref a0] G H0) (th_Q (fun (v : Option Value) (H1 : Heap) => ∃ r : Int32, v = some (.int r) ∧ 0 ≤ r.toInt ∧ r.toInt ≤ 9 ∧ (r.toInt = mo_v G H0 a0 2 69) ∧ (f_X12_many (dv G Γ H0) (a0 : Int) = (r.toInt, ())) ∧ H0 = H1) G) 0 0 (fun q => G.1.2.2 ≤ q) := by
  refine th_met RX12 (by decide) rfl (Nat.le_of_ble_eq_true rfl) ?_
  intro p e s m below meth c hC hH hr hlocks hnm ls hl
  have hx := hC.1
  have hb := hC.2.1
  have hB : th_B G Γ Γ [] H0 H0 [] := ⟨hI, va_S.rf, th_F_rf⟩
  have hl : lv_has ls 1 [(0, .ref a0)] := hl
  obtain ⟨F, hF0⟩ : ∃ F, F = f_X12_many (dv G Γ H0) ((a0 : Int)) := ⟨_, rfl⟩
  have hF := hF0.trans (f_X12_many.eq_1 (dv G Γ H0) ((a0 : Int)))
  refine lv_aload_n hx hb gX12_many_0.1 rfl (lv_at hl 0 rfl) ?_
  refine th_getO (j := 2) (r2 := 48) hC cf_X12 hB.1 h0 ro_46 rfl rfl kf_X12_28 gX12_many_0.2.1 (fun b1 mb1 hb1 => ?_)
  refine lv_bipush (v := 69) hx hb gX12_many_0.2.2.1 (by decide) ?_
  refine th_ialdF hC hB.1 hb1 ro_48 rfl tk_69 (by omega) (by omega) (ek_many (by omega) (by omega)) gX12_many_0.2.2.2.1 (fun x2 mx2 lx2 ux2 => ?_)
  replace hF := hF.trans (dv_bn (dv_aldI hB.1 hU hb1 ow_48 (z := 69) mx2 (by omega)))
  have vgx2 : mo_v G H0 a0 2 69 = x2.toInt := by rw [show (69 : Int) = 69 by omega]; exact mo_vat mb1 mx2 (by omega)
  exact th_iret hC hH hr hlocks rfl hB.2.1 ⟨_, rfl, by omega, by omega, by intros; omega, (hF0.symm.trans hF), rfl⟩ gX12_many_0.2.2.2.2

set_option maxHeartbeats 4000000 in
set_option maxRecDepth 100000 in
theorem c_X12_isCarpet (l : Launch) (G : th_G) (Γ : th_Ga) (H0 : Heap) (hI : th_I G Γ H0) (hU : dv_U Γ) (a0 : Nat) (h0 : Γ a0 = (46, 0)) (p1 : Int32) : Met l yX12_isCarpet (.code yX12_isCarpet cX12_isCarpet 2 (some FieldType.boolean) :: th_tb) ({ frames := 1, cells := 0, slots := 0, locals := 22 } : Room) (th_P [.ref a0, .int p1] G H0) (th_Q (fun (v : Option Value) (H1 : Heap) => ∃ r : Int32, v = some (.int r) ∧ 0 ≤ r.toInt ∧ r.toInt ≤ 1 ∧ (r.toInt = 1 → 0 ≤ p1.toInt ∧ p1.toInt ≤ 8 ∧ p1.toInt < mo_v G H0 a0 2 69) ∧ (f_X12_isCarpet (dv G Γ H0) (a0 : Int) p1.toInt = (r.toInt, ())) ∧ H0 = H1) G) 0 0 (fun q => G.1.2.2 ≤ q) := by
  refine th_met RX12 (by decide) rfl (Nat.le_of_ble_eq_true rfl) ?_
  intro p e s m below meth c hC hH hr hlocks hnm ls hl
  have hx := hC.1
  have hb := hC.2.1
  have hB : th_B G Γ Γ [] H0 H0 [] := ⟨hI, va_S.rf, th_F_rf⟩
  have hl : lv_has ls 2 [(0, .ref a0), (1, .int p1)] := hl
  have lp1 := ti_lo p1; have up1 := ti_hi p1
  obtain ⟨F, hF0⟩ : ∃ F, F = f_X12_isCarpet (dv G Γ H0) ((a0 : Int)) (p1.toInt) := ⟨_, rfl⟩
  have hF := hF0.trans (f_X12_isCarpet.eq_1 (dv G Γ H0) ((a0 : Int)) (p1.toInt))
  refine lv_iload_n hx hb gX12_isCarpet_0.1 rfl (lv_at hl 1 rfl) ?_
  refine lv_iconst (v := 0) hx hb gX12_isCarpet_0.2.1 (by decide) ?_
  refine lv_aload_n hx hb gX12_isCarpet_0.2.2.1 rfl (lv_at hl 0 rfl) ?_
  refine th_call (th_runV (As := []) (rest := [.int 0, .int p1]) hC mf_X12_many km_X12_115 im_X12_many se_X12_many (c_X12_many l G Γ H0 hB.1 hU a0 h0) rfl rfl ⟨Nat.le_of_ble_eq_true rfl, Nat.le_of_ble_eq_true rfl⟩ hB.1 h0 ro_46 rfl rfl hl.1 rfl (Nat.le_of_ble_eq_true rfl) gX12_isCarpet_0.2.2.2.1 ⟨Nat.le_refl _, Nat.le_refl _⟩) hB.2.1 (fun v3 H3 locs hp hz hS => ?_)
  obtain ⟨x1, rfl, lx1, ux1, q3_0, q3_1, rfl⟩ := hp
  have hB := th_B_s hB hS
  replace hF := hF.trans (dv_bn2 (q3_1))
  refine W.eq (g2 := F0 m 6 ls [.int x1, .int 0, .int p1]) rfl ?_
  refine lv_iconst (v := 1) hx hb gX12_isCarpet_0.2.2.2.2.1 (by decide) ?_
  refine tr_isub hx hb gX12_isCarpet_0.2.2.2.2.2.1 (Eq.refl _) tk_1 (by omega) (by omega) (fun x2 ex2 => ?_)
  replace hF := hF.trans (dv_bn (ex2.symm))
  refine th_call (th_runS (As := [.int p1, .int 0, .int x2]) (rest := []) hC mf_X12_lies km_X12_18 st_X12_lies (c_X12_lies l G Γ H0 hB.1 hU p1 0 x2) rfl rfl ⟨Nat.le_of_ble_eq_true rfl, Nat.le_of_ble_eq_true rfl⟩ rfl hl.1 rfl (Nat.le_of_ble_eq_true rfl) gX12_isCarpet_0.2.2.2.2.2.2.1 ⟨Nat.le_refl _, Nat.le_refl _⟩) hB.2.1 (fun v8 H8 locs hp hz hS => ?_)
  obtain ⟨x3, rfl, lx3, ux3, q8_0, q8_1, q8_2, rfl⟩ := hp
  have hB := th_B_s hB hS
  have w8_1 := tk_0
  have zf8 := q8_2
  rw [tk_0] at zf8
  replace hF := hF.trans (dv_bn2 (zf8))
  refine W.eq (g2 := F0 m 11 ls [.int x3]) rfl ?_
  exact th_iret hC hH hr hlocks (th_nb (by omega) (by omega)) hB.2.1 ⟨_, rfl, by omega, by omega, by intros; omega, (hF0.symm.trans hF), rfl⟩ gX12_isCarpet_0.2.2.2.2.2.2.2

set_option maxHeartbeats 4000000 in
set_option maxRecDepth 100000 in
theorem c_X12_isLaid (l : Launch) (G : th_G) (Γ : th_Ga) (H0 : Heap) (hI : th_I G Γ H0) (hU : dv_U Γ) (a0 : Nat) (h0 : Γ a0 = (46, 0)) (p1 : Int32) (f1 : 0 ≤ p1.toInt) (g1 : p1.toInt ≤ 8) : Met l yX12_isLaid (.code yX12_isLaid cX12_isLaid 2 (some FieldType.boolean) :: th_tb) ({ frames := 0, cells := 0, slots := 0, locals := 0 } : Room) (th_P [.ref a0, .int p1] G H0) (th_Q (fun (v : Option Value) (H1 : Heap) => ∃ r : Int32, v = some (.int r) ∧ 0 ≤ r.toInt ∧ r.toInt ≤ 1 ∧ (r.toInt = 1 → mo_v G H0 a0 2 (9 + p1.toInt) ≠ -1) ∧ (r.toInt = 0 → mo_v G H0 a0 2 (9 + p1.toInt) = -1) ∧ (f_X12_isLaid (dv G Γ H0) (a0 : Int) p1.toInt = (r.toInt, ())) ∧ H0 = H1) G) 0 0 (fun q => G.1.2.2 ≤ q) := by
  refine th_met RX12 (by decide) rfl (Nat.le_of_ble_eq_true rfl) ?_
  intro p e s m below meth c hC hH hr hlocks hnm ls hl
  have hx := hC.1
  have hb := hC.2.1
  have hB : th_B G Γ Γ [] H0 H0 [] := ⟨hI, va_S.rf, th_F_rf⟩
  have hl : lv_has ls 2 [(0, .ref a0), (1, .int p1)] := hl
  have lp1 := ti_lo p1; have up1 := ti_hi p1
  obtain ⟨F, hF0⟩ : ∃ F, F = f_X12_isLaid (dv G Γ H0) ((a0 : Int)) (p1.toInt) := ⟨_, rfl⟩
  have hF := hF0.trans (f_X12_isLaid.eq_1 (dv G Γ H0) ((a0 : Int)) (p1.toInt))
  refine lv_aload_n hx hb gX12_isLaid_0.1 rfl (lv_at hl 0 rfl) ?_
  refine th_getO (j := 2) (r2 := 48) hC cf_X12 hB.1 h0 ro_46 rfl rfl kf_X12_28 gX12_isLaid_0.2.1 (fun b1 mb1 hb1 => ?_)
  refine lv_bipush (v := 9) hx hb gX12_isLaid_0.2.2.1 (by decide) ?_
  refine lv_iload_n hx hb gX12_isLaid_0.2.2.2.1 rfl (lv_at hl 1 rfl) ?_
  refine tr_iadd hx hb gX12_isLaid_0.2.2.2.2.1 tk_9 (Eq.refl _) (by omega) (by omega) (fun x2 ex2 => ?_)
  replace hF := hF.trans (dv_bn (ex2.symm))
  refine th_ialdF hC hB.1 hb1 ro_48 rfl (Eq.refl _) (by omega) (by omega) (ek_a (by omega) (by omega)) gX12_isLaid_0.2.2.2.2.2.1 (fun x3 mx3 lx3 ux3 => ?_)
  replace hF := hF.trans (dv_bn (dv_aldI hB.1 hU hb1 ow_48 (z := x2.toInt) mx3 (by omega)))
  have vgx3 : mo_v G H0 a0 2 (9 + p1.toInt) = x3.toInt := by rw [show ((9 + p1.toInt) : Int) = x2.toInt by omega]; exact mo_vat mb1 mx3 (by omega)
  refine lv_iconst (v := (-1)) hx hb gX12_isLaid_0.2.2.2.2.2.2.1 (by decide) ?_
  refine tr_icmp_eq (tgt := 17) hx hb gX12_isLaid_0.2.2.2.2.2.2.2 (by decide) (Eq.refl _) tk_m1 (fun c10 => ?_) (fun c10 => ?_)
  · replace hF := hF.trans (if_pos c10)
    refine lv_iconst (v := 0) hx hb gX12_isLaid_1.2.2.1 (by decide) ?_
    exact th_iret hC hH hr hlocks narrow_b0 hB.2.1 ⟨_, rfl, by decide, by decide, by first | (intro h9; exact absurd h9 (by decide)) | (have w9 := tk_0; intros; omega), by first | (intro h9; exact absurd h9 (by decide)) | (have w9 := tk_0; intros; omega), (hF0.symm.trans (hF.trans (by rw [tk_0]))), rfl⟩ gX12_isLaid_1.2.2.2
  · replace hF := hF.trans (if_neg c10)
    refine lv_iconst (v := 1) hx hb gX12_isLaid_1.1 (by decide) ?_
    refine lv_goto (tgt := 18) hx hb gX12_isLaid_1.2.1 (by decide) ?_
    exact th_iret hC hH hr hlocks narrow_b1 hB.2.1 ⟨_, rfl, by decide, by decide, by first | (intro h9; exact absurd h9 (by decide)) | (have w9 := tk_1; intros; omega), by first | (intro h9; exact absurd h9 (by decide)) | (have w9 := tk_1; intros; omega), (hF0.symm.trans (hF.trans (by rw [tk_1]))), rfl⟩ gX12_isLaid_1.2.2.2

set_option maxHeartbeats 4000000 in
set_option maxRecDepth 100000 in
theorem c_X12_isWhole (l : Launch) (G : th_G) (Γ : th_Ga) (H0 : Heap) (hI : th_I G Γ H0) (hU : dv_U Γ) (a0 : Nat) (h0 : Γ a0 = (46, 0)) (p1 : Int32) (f1 : 0 ≤ p1.toInt) (g1 : p1.toInt ≤ 8) : Met l yX12_isWhole (.code yX12_isWhole cX12_isWhole 2 (some FieldType.boolean) :: th_tb) ({ frames := 0, cells := 0, slots := 0, locals := 0 } : Room) (th_P [.ref a0, .int p1] G H0) (th_Q (fun (v : Option Value) (H1 : Heap) => ∃ r : Int32, v = some (.int r) ∧ 0 ≤ r.toInt ∧ r.toInt ≤ 1 ∧ (f_X12_isWhole (dv G Γ H0) (a0 : Int) p1.toInt = (r.toInt, ())) ∧ H0 = H1) G) 0 0 (fun q => G.1.2.2 ≤ q) := by
  refine th_met RX12 (by decide) rfl (Nat.le_of_ble_eq_true rfl) ?_
  intro p e s m below meth c hC hH hr hlocks hnm ls hl
  have hx := hC.1
  have hb := hC.2.1
  have hB : th_B G Γ Γ [] H0 H0 [] := ⟨hI, va_S.rf, th_F_rf⟩
  have hl : lv_has ls 2 [(0, .ref a0), (1, .int p1)] := hl
  have lp1 := ti_lo p1; have up1 := ti_hi p1
  obtain ⟨F, hF0⟩ : ∃ F, F = f_X12_isWhole (dv G Γ H0) ((a0 : Int)) (p1.toInt) := ⟨_, rfl⟩
  have hF := hF0.trans (f_X12_isWhole.eq_1 (dv G Γ H0) ((a0 : Int)) (p1.toInt))
  refine lv_aload_n hx hb gX12_isWhole_0.1 rfl (lv_at hl 0 rfl) ?_
  refine th_getO (j := 2) (r2 := 48) hC cf_X12 hB.1 h0 ro_46 rfl rfl kf_X12_28 gX12_isWhole_0.2.1 (fun b1 mb1 hb1 => ?_)
  refine lv_iconst (v := 0) hx hb gX12_isWhole_0.2.2.1 (by decide) ?_
  refine lv_iload_n hx hb gX12_isWhole_0.2.2.2.1 rfl (lv_at hl 1 rfl) ?_
  refine tr_iadd hx hb gX12_isWhole_0.2.2.2.2.1 tk_0 (Eq.refl _) (by omega) (by omega) (fun x2 ex2 => ?_)
  replace hF := hF.trans (dv_bn (ex2.symm))
  refine th_ialdF hC hB.1 hb1 ro_48 rfl (Eq.refl _) (by omega) (by omega) (ek_a (by omega) (by omega)) gX12_isWhole_0.2.2.2.2.2.1 (fun x3 mx3 lx3 ux3 => ?_)
  replace hF := hF.trans (dv_bn (dv_aldI hB.1 hU hb1 ow_48 (z := x2.toInt) mx3 (by omega)))
  refine tr_if_le (tgt := 15) hx hb gX12_isWhole_0.2.2.2.2.2.2.1 (by decide) (Eq.refl _) (fun c8 => ?_) (fun c8 => ?_)
  · replace hF := hF.trans (if_pos c8)
    refine lv_iconst (v := 0) hx hb gX12_isWhole_1.2.1 (by decide) ?_
    exact th_iret hC hH hr hlocks narrow_b0 hB.2.1 ⟨_, rfl, by decide, by decide, (hF0.symm.trans (hF.trans (by rw [tk_0]))), rfl⟩ gX12_isWhole_1.2.2
  · replace hF := hF.trans (if_neg (Int.not_le.mpr c8))
    refine lv_iconst (v := 1) hx hb gX12_isWhole_0.2.2.2.2.2.2.2 (by decide) ?_
    refine lv_goto (tgt := 16) hx hb gX12_isWhole_1.1 (by decide) ?_
    exact th_iret hC hH hr hlocks narrow_b1 hB.2.1 ⟨_, rfl, by decide, by decide, (hF0.symm.trans (hF.trans (by rw [tk_1]))), rfl⟩ gX12_isWhole_1.2.2

set_option maxHeartbeats 4000000 in
set_option maxRecDepth 100000 in
theorem c_X12_laidMany (l : Launch) (G : th_G) (Γ : th_Ga) (H0 : Heap) (hI : th_I G Γ H0) (hU : dv_U Γ) (a0 : Nat) (h0 : Γ a0 = (46, 0)) : Met l yX12_laidMany (.code yX12_laidMany cX12_laidMany 3 (some FieldType.int) :: th_tb) ({ frames := 1, cells := 0, slots := 0, locals := 21 } : Room) (th_P [.ref a0] G H0) (th_Q (fun (v : Option Value) (H1 : Heap) => ∃ r : Int32, v = some (.int r) ∧ 0 ≤ r.toInt ∧ r.toInt ≤ 9 ∧ (r.toInt = 0 → ∀ c : Int, 0 ≤ c → c < mo_v G H0 a0 2 69 → mo_v G H0 a0 2 (9 + c) = -1) ∧ (f_X12_laidMany (dv G Γ H0) (a0 : Int) = (r.toInt, ())) ∧ H0 = H1) G) 0 0 (fun q => G.1.2.2 ≤ q) := by
  refine th_met RX12 (by decide) rfl (Nat.le_of_ble_eq_true rfl) ?_
  intro p e s m below meth c hC hH hr hlocks hnm ls hl
  have hx := hC.1
  have hb := hC.2.1
  have hB : th_B G Γ Γ [] H0 H0 [] := ⟨hI, va_S.rf, th_F_rf⟩
  have hl : lv_has ls 3 [(0, .ref a0)] := hl
  obtain ⟨F, hF0⟩ : ∃ F, F = f_X12_laidMany (dv G Γ H0) ((a0 : Int)) := ⟨_, rfl⟩
  have hF := hF0.trans (f_X12_laidMany.eq_1 (dv G Γ H0) ((a0 : Int)))
  refine lv_iconst (v := 0) hx hb gX12_laidMany_0.1 (by decide) ?_
  refine lv_istore_n (lv' := [(1, .int 0), (0, .ref a0)]) hx hb gX12_laidMany_0.2.1 rfl hl (by decide) rfl (fun ls hl => ?_)
  refine lv_iconst (v := 0) hx hb gX12_laidMany_0.2.2.1 (by decide) ?_
  refine lv_istore_n (lv' := [(2, .int 0), (1, .int 0), (0, .ref a0)]) hx hb gX12_laidMany_0.2.2.2.1 rfl hl (by decide) rfl (fun ls hl => ?_)
  have lp4 : ∀ (n4 : Nat) (locs : List Loc) (ls : Array Slot) (j4_1 : Int32) (j4_2 : Int32), th_B G Γ Γ [] H0 H0 locs → lv_has ls 3 [(0, .ref a0), (1, .int j4_1), (2, .int j4_2)] → F = dv_lp f_X12_laidMany_4b (dv G Γ H0, (a0 : Int), j4_1.toInt, j4_2.toInt) → 0 ≤ j4_1.toInt → j4_1.toInt ≤ 9 → 0 ≤ j4_2.toInt → j4_2.toInt ≤ 9 → j4_1.toInt ≤ j4_2.toInt → (j4_1.toInt = 0 → ∀ c : Int, 0 ≤ c → c < j4_2.toInt → mo_v G H0 a0 2 (9 + c) = -1) → (2147483648 : Int) - j4_2.toInt ≤ (n4 : Int) → W p l e ({ frames := 1, cells := 0, slots := 0, locals := 21 } : Room) s m ([.ref a0] : List Value).toArray below meth c H0 locs 0 0 (MQ below (th_Q (fun (v : Option Value) (H1 : Heap) => ∃ r : Int32, v = some (.int r) ∧ 0 ≤ r.toInt ∧ r.toInt ≤ 9 ∧ (r.toInt = 0 → ∀ c : Int, 0 ≤ c → c < mo_v G H0 a0 2 69 → mo_v G H0 a0 2 (9 + c) = -1) ∧ (f_X12_laidMany (dv G Γ H0) (a0 : Int) = (r.toInt, ())) ∧ H0 = H1) G) ([.ref a0] : List Value).toArray s 0 0 (fun q => G.1.2.2 ≤ q)) (F0 m 4 ls []) := by
    intro n4
    induction n4 with
    | zero => intro locs ls j4_1 j4_2 hB hl hF g4_0 g4_1 g4_2 g4_3 g4_4 g4_5 hm4; exact absurd hm4 (by have := ti_hi j4_2; omega)
    | succ n4 ih4 =>
      intro locs ls j4_1 j4_2 hB hl hF g4_0 g4_1 g4_2 g4_3 g4_4 g4_5 hm4
      have lj4_1 := ti_lo j4_1; have uj4_1 := ti_hi j4_1
      have lj4_2 := ti_lo j4_2; have uj4_2 := ti_hi j4_2
      have hm4 : (2147483648 : Int) - j4_2.toInt ≤ (n4 : Int) + 1 := by omega
      replace hF := hF.trans (dv_lp_eq)
      replace hF := hF.trans (congrArg (dv_k f_X12_laidMany_4b) (f_X12_laidMany_4c.eq_1 (dv G Γ H0) ((a0 : Int)) (j4_1.toInt) (j4_2.toInt)))
      refine lv_iload_n hx hb gX12_laidMany_0.2.2.2.2.1 rfl (lv_at hl 2 rfl) ?_
      refine lv_aload_n hx hb gX12_laidMany_0.2.2.2.2.2.1 rfl (lv_at hl 0 rfl) ?_
      refine th_call (th_runV (As := []) (rest := [.int j4_2]) hC mf_X12_many km_X12_115 im_X12_many se_X12_many (c_X12_many l G Γ H0 hB.1 hU a0 h0) rfl rfl ⟨Nat.le_of_ble_eq_true rfl, Nat.le_of_ble_eq_true rfl⟩ hB.1 h0 ro_46 rfl rfl hl.1 rfl (Nat.le_of_ble_eq_true rfl) gX12_laidMany_0.2.2.2.2.2.2.1 ⟨Nat.le_refl _, Nat.le_refl _⟩) hB.2.1 (fun v6 H6 locs hp hz hS => ?_)
      obtain ⟨x1, rfl, lx1, ux1, q6_0, q6_1, rfl⟩ := hp
      have hB := th_B_s hB hS
      replace hF := hF.trans (congrArg (dv_k f_X12_laidMany_4b) (dv_bn2 (q6_1)))
      refine W.eq (g2 := F0 m 9 ls [.int x1, .int j4_2]) rfl ?_
      refine tr_icmp_ge (tgt := 34) hx hb gX12_laidMany_0.2.2.2.2.2.2.2 (by decide) (Eq.refl _) (Eq.refl _) (fun c9 => ?_) (fun c9 => ?_)
      · replace hF := hF.trans (congrArg (dv_k f_X12_laidMany_4b) (if_pos c9))
        refine lv_iload_n hx hb gX12_laidMany_2.2.2.2.2.1 rfl (lv_at hl 1 rfl) ?_
        replace hF := hF.trans (dv_kr)
        exact th_iret hC hH hr hlocks rfl hB.2.1 ⟨_, rfl, by omega, by omega, fun h9 c9 a9 b9 => g4_5 h9 c9 a9 (by omega), (hF0.symm.trans hF), rfl⟩ gX12_laidMany_2.2.2.2.2.2
      · replace hF := hF.trans (congrArg (dv_k f_X12_laidMany_4b) (if_neg (Int.not_le.mpr c9)))
        refine lv_iload_n hx hb gX12_laidMany_1.1 rfl (lv_at hl 1 rfl) ?_
        refine lv_aload_n hx hb gX12_laidMany_1.2.1 rfl (lv_at hl 0 rfl) ?_
        refine lv_iload_n hx hb gX12_laidMany_1.2.2.1 rfl (lv_at hl 2 rfl) ?_
        refine th_call (th_runV (As := [.int j4_2]) (rest := [.int j4_1]) hC mf_X12_isLaid km_X12_137 im_X12_isLaid se_X12_isLaid (c_X12_isLaid l G Γ H0 hB.1 hU a0 h0 j4_2 (by omega) (by omega)) rfl rfl ⟨Nat.le_of_ble_eq_true rfl, Nat.le_of_ble_eq_true rfl⟩ hB.1 h0 ro_46 rfl rfl hl.1 rfl (Nat.le_of_ble_eq_true rfl) gX12_laidMany_1.2.2.2.1 ⟨Nat.le_refl _, Nat.le_refl _⟩) hB.2.1 (fun v15 H15 locs hp hz hS => ?_)
        obtain ⟨x2, rfl, lx2, ux2, q15_0, q15_1, q15_2, rfl⟩ := hp
        have hB := th_B_s hB hS
        replace hF := hF.trans (congrArg (dv_k f_X12_laidMany_4b) (dv_bn2 (q15_2)))
        refine W.eq (g2 := F0 m 18 ls [.int x2, .int j4_1]) rfl ?_
        refine tr_if_eq (tgt := 25) hx hb gX12_laidMany_1.2.2.2.2.1 (by decide) (Eq.refl _) (fun c18 => ?_) (fun c18 => ?_)
        · replace hF := hF.trans (congrArg (dv_k f_X12_laidMany_4b) (if_pos c18))
          refine lv_iconst (v := 0) hx hb gX12_laidMany_1.2.2.2.2.2.2.2 (by decide) ?_
          refine tr_iadd hx hb gX12_laidMany_2.1 (Eq.refl _) tk_0 (by omega) (by omega) (fun x3 ex3 => ?_)
          replace hF := hF.trans (congrArg (dv_k f_X12_laidMany_4b) (dv_bn (ex3.symm)))
          refine lv_istore_n (lv' := [(1, .int x3), (0, .ref a0), (2, .int j4_2)]) hx hb gX12_laidMany_2.2.1 rfl hl (by decide) rfl (fun ls hl => ?_)
          refine tr_iinc (fun x4 => [(2, .int x4), (1, .int x3), (0, .ref a0)]) hx hb gX12_laidMany_2.2.2.1 hl (k := 2) rfl (Eq.refl _) tk_1 (by omega) (by omega) (by decide) (fun _ => rfl) (fun x4 ls ex4 hl => ?_)
          replace hF := hF.trans (congrArg (dv_k f_X12_laidMany_4b) (dv_bn (ex4.symm)))
          refine lv_goto (tgt := 4) hx hb gX12_laidMany_2.2.2.2.1 (by decide) ?_
          replace hF := hF.trans (dv_kl)
          exact ih4 locs ls x3 x4 hB (lv_sub hl [2, 1, 0] rfl) hF (by omega) (by omega) (by omega) (by omega) (by omega) (fun h9 c9 a9 b9 => (Int.lt_or_le c9 j4_2.toInt).elim (fun q9 => g4_5 (by omega) c9 a9 q9) (fun q9 => by rw [show c9 = j4_2.toInt by omega]; exact q15_1 (by omega))) (by omega)
        · replace hF := hF.trans (congrArg (dv_k f_X12_laidMany_4b) (if_neg c18))
          refine lv_iconst (v := 1) hx hb gX12_laidMany_1.2.2.2.2.2.1 (by decide) ?_
          refine lv_goto (tgt := 26) hx hb gX12_laidMany_1.2.2.2.2.2.2.1 (by decide) ?_
          refine tr_iadd hx hb gX12_laidMany_2.1 (Eq.refl _) tk_1 (by omega) (by omega) (fun x5 ex5 => ?_)
          replace hF := hF.trans (congrArg (dv_k f_X12_laidMany_4b) (dv_bn (ex5.symm)))
          refine lv_istore_n (lv' := [(1, .int x5), (0, .ref a0), (2, .int j4_2)]) hx hb gX12_laidMany_2.2.1 rfl hl (by decide) rfl (fun ls hl => ?_)
          refine tr_iinc (fun x6 => [(2, .int x6), (1, .int x5), (0, .ref a0)]) hx hb gX12_laidMany_2.2.2.1 hl (k := 2) rfl (Eq.refl _) tk_1 (by omega) (by omega) (by decide) (fun _ => rfl) (fun x6 ls ex6 hl => ?_)
          replace hF := hF.trans (congrArg (dv_k f_X12_laidMany_4b) (dv_bn (ex6.symm)))
          refine lv_goto (tgt := 4) hx hb gX12_laidMany_2.2.2.2.1 (by decide) ?_
          replace hF := hF.trans (dv_kl)
          exact ih4 locs ls x5 x6 hB (lv_sub hl [2, 1, 0] rfl) hF (by omega) (by omega) (by omega) (by omega) (by omega) (fun h9 c9 a9 b9 => (Int.lt_or_le c9 j4_2.toInt).elim (fun q9 => g4_5 (by omega) c9 a9 q9) (fun q9 => by rw [show c9 = j4_2.toInt by omega]; exact q15_1 (by omega))) (by omega)
  exact lp4 ((2147483648 : Int) - (0)).toNat [] ls 0 0 hB (lv_sub hl [2, 1, 0] rfl) (by rw [tk_0]; exact hF) (by decide) (by decide) (by decide) (by decide) (by have w0 := tk_0; omega) (fun _ c9 a9 b9 => by have w0 := tk_0; omega) (by have w0 := tk_0; omega)

set_option maxHeartbeats 4000000 in
set_option maxRecDepth 100000 in
theorem c_X12_covers (l : Launch) (G : th_G) (Γ : th_Ga) (H0 : Heap) (hI : th_I G Γ H0) (hU : dv_U Γ) (a0 : Nat) (h0 : Γ a0 = (46, 0)) (p1 : Int32) (f1 : 0 ≤ p1.toInt) (g1 : p1.toInt ≤ 8) (p2 : Int32) (p3 : Int32) : Met l yX12_covers (.code yX12_covers cX12_covers 4 (some FieldType.boolean) :: th_tb) ({ frames := 1, cells := 0, slots := 0, locals := 22 } : Room) (th_P [.ref a0, .int p1, .int p2, .int p3] G H0) (th_Q (fun (v : Option Value) (H1 : Heap) => ∃ r : Int32, v = some (.int r) ∧ 0 ≤ r.toInt ∧ r.toInt ≤ 1 ∧ (f_X12_covers (dv G Γ H0) (a0 : Int) p1.toInt p2.toInt p3.toInt = (r.toInt, ())) ∧ H0 = H1) G) 0 0 (fun q => G.1.2.2 ≤ q) := by
  refine th_met RX12 (by decide) rfl (Nat.le_of_ble_eq_true rfl) ?_
  intro p e s m below meth c hC hH hr hlocks hnm ls hl
  have hx := hC.1
  have hb := hC.2.1
  have hB : th_B G Γ Γ [] H0 H0 [] := ⟨hI, va_S.rf, th_F_rf⟩
  have hl : lv_has ls 4 [(0, .ref a0), (1, .int p1), (2, .int p2), (3, .int p3)] := hl
  have lp1 := ti_lo p1; have up1 := ti_hi p1
  have lp2 := ti_lo p2; have up2 := ti_hi p2
  have lp3 := ti_lo p3; have up3 := ti_hi p3
  obtain ⟨F, hF0⟩ : ∃ F, F = f_X12_covers (dv G Γ H0) ((a0 : Int)) (p1.toInt) (p2.toInt) (p3.toInt) := ⟨_, rfl⟩
  have hF := hF0.trans (f_X12_covers.eq_1 (dv G Γ H0) ((a0 : Int)) (p1.toInt) (p2.toInt) (p3.toInt))
  refine lv_aload_n hx hb gX12_covers_0.1 rfl (lv_at hl 0 rfl) ?_
  refine lv_iload_n hx hb gX12_covers_0.2.1 rfl (lv_at hl 1 rfl) ?_
  refine th_call (th_runV (As := [.int p1]) (rest := []) hC mf_X12_isLaid km_X12_137 im_X12_isLaid se_X12_isLaid (c_X12_isLaid l G Γ H0 hB.1 hU a0 h0 p1 (by omega) (by omega)) rfl rfl ⟨Nat.le_of_ble_eq_true rfl, Nat.le_of_ble_eq_true rfl⟩ hB.1 h0 ro_46 rfl rfl hl.1 rfl (Nat.le_of_ble_eq_true rfl) gX12_covers_0.2.2.1 ⟨Nat.le_refl _, Nat.le_refl _⟩) hB.2.1 (fun v2 H2 locs hp hz hS => ?_)
  obtain ⟨x1, rfl, lx1, ux1, q2_0, q2_1, q2_2, rfl⟩ := hp
  have hB := th_B_s hB hS
  replace hF := hF.trans (dv_bn2 (q2_2))
  refine W.eq (g2 := F0 m 5 ls [.int x1]) rfl ?_
  refine tr_if_eq (tgt := 86) hx hb gX12_covers_0.2.2.2.1 (by decide) (Eq.refl _) (fun c5 => ?_) (fun c5 => ?_)
  · replace hF := hF.trans (if_pos c5)
    refine lv_iconst (v := 0) hx hb gX12_covers_6.2.2.2.2.2.2.1 (by decide) ?_
    exact th_iret hC hH hr hlocks narrow_b0 hB.2.1 ⟨_, rfl, by decide, by decide, (hF0.symm.trans (hF.trans (by rw [tk_0]))), rfl⟩ gX12_covers_6.2.2.2.2.2.2.2
  · replace hF := hF.trans (if_neg c5)
    refine lv_iload_n hx hb gX12_covers_0.2.2.2.2.1 rfl (lv_at hl 2 rfl) ?_
    refine lv_aload_n hx hb gX12_covers_0.2.2.2.2.2.1 rfl (lv_at hl 0 rfl) ?_
    refine th_getO (j := 2) (r2 := 48) hC cf_X12 hB.1 h0 ro_46 rfl rfl kf_X12_28 gX12_covers_0.2.2.2.2.2.2.1 (fun b2 mb2 hb2 => ?_)
    refine lv_bipush (v := 9) hx hb gX12_covers_0.2.2.2.2.2.2.2 (by decide) ?_
    refine lv_iload_n hx hb gX12_covers_1.1 rfl (lv_at hl 1 rfl) ?_
    refine tr_iadd hx hb gX12_covers_1.2.1 tk_9 (Eq.refl _) (by omega) (by omega) (fun x3 ex3 => ?_)
    replace hF := hF.trans (dv_bn (ex3.symm))
    refine th_ialdF hC hB.1 hb2 ro_48 rfl (Eq.refl _) (by omega) (by omega) (ek_a (by omega) (by omega)) gX12_covers_1.2.2.1 (fun x4 mx4 lx4 ux4 => ?_)
    replace hF := hF.trans (dv_bn (dv_aldI hB.1 hU hb2 ow_48 (z := x3.toInt) mx4 (by omega)))
    refine lv_aload_n hx hb gX12_covers_1.2.2.2.1 rfl (lv_at hl 0 rfl) ?_
    refine th_getK hC cf_X12 hB.1 h0 ro_46 rfl (j := 2) (by decide) mb2 kf_X12_28 gX12_covers_1.2.2.2.2.1 ?_
    refine lv_bipush (v := 9) hx hb gX12_covers_1.2.2.2.2.2.1 (by decide) ?_
    refine lv_iload_n hx hb gX12_covers_1.2.2.2.2.2.2.1 rfl (lv_at hl 1 rfl) ?_
    refine tr_iadd hx hb gX12_covers_1.2.2.2.2.2.2.2 tk_9 (Eq.refl _) (by omega) (by omega) (fun x5 ex5 => ?_)
    replace hF := hF.trans (dv_bn (ex5.symm))
    refine th_ialdF hC hB.1 hb2 ro_48 rfl (Eq.refl _) (by omega) (by omega) (ek_a (by omega) (by omega)) gX12_covers_2.1 (fun x6 mx6 lx6 ux6 => ?_)
    replace hF := hF.trans (dv_bn (dv_aldI hB.1 hU hb2 ow_48 (z := x5.toInt) mx6 (by omega)))
    refine lv_aload_n hx hb gX12_covers_2.2.1 rfl (lv_at hl 0 rfl) ?_
    refine th_getK hC cf_X12 hB.1 h0 ro_46 rfl (j := 2) (by decide) mb2 kf_X12_28 gX12_covers_2.2.2.1 ?_
    refine lv_bipush (v := 29) hx hb gX12_covers_2.2.2.2.1 (by decide) ?_
    refine lv_iload_n hx hb gX12_covers_2.2.2.2.2.1 rfl (lv_at hl 1 rfl) ?_
    refine tr_iadd hx hb gX12_covers_2.2.2.2.2.2.1 tk_29 (Eq.refl _) (by omega) (by omega) (fun x7 ex7 => ?_)
    replace hF := hF.trans (dv_bn (ex7.symm))
    refine th_ialdF hC hB.1 hb2 ro_48 rfl (Eq.refl _) (by omega) (by omega) (ek_side (by omega) (by omega)) gX12_covers_2.2.2.2.2.2.2.1 (fun x8 mx8 lx8 ux8 => ?_)
    replace hF := hF.trans (dv_bn (dv_aldI hB.1 hU hb2 ow_48 (z := x7.toInt) mx8 (by omega)))
    refine lv_iadd hx hb gX12_covers_2.2.2.2.2.2.2.2 ?_
    refine lv_topi (fun x9 ex9 => ?_)
    have lx9 := ti_lo x9; have ux9 := ti_hi x9
    replace hF := hF.trans (dv_bn (dv_add_e (Eq.refl _) (Eq.refl _) ex9))
    refine lv_iconst (v := 1) hx hb gX12_covers_3.1 (by decide) ?_
    refine lv_isub hx hb gX12_covers_3.2.1 ?_
    refine lv_topi (fun x10 ex10 => ?_)
    have lx10 := ti_lo x10; have ux10 := ti_hi x10
    replace hF := hF.trans (dv_bn (dv_sub_e (Eq.refl _) tk_1 ex10))
    refine th_call (th_runS (As := [.int p2, .int x4, .int x10]) (rest := []) hC mf_X12_lies km_X12_18 st_X12_lies (c_X12_lies l G Γ H0 hB.1 hU p2 x4 x10) rfl rfl ⟨Nat.le_of_ble_eq_true rfl, Nat.le_of_ble_eq_true rfl⟩ rfl hl.1 rfl (Nat.le_of_ble_eq_true rfl) gX12_covers_3.2.2.1 ⟨Nat.le_refl _, Nat.le_refl _⟩) hB.2.1 (fun v39 H39 locs hp hz hS => ?_)
    obtain ⟨x11, rfl, lx11, ux11, q39_0, q39_1, q39_2, rfl⟩ := hp
    have hB := th_B_s hB hS
    replace hF := hF.trans (dv_bn2 (q39_2))
    refine W.eq (g2 := F0 m 42 ls [.int x11]) rfl ?_
    refine tr_if_eq (tgt := 86) hx hb gX12_covers_3.2.2.2.1 (by decide) (Eq.refl _) (fun c42 => ?_) (fun c42 => ?_)
    · replace hF := hF.trans (if_pos c42)
      refine lv_iconst (v := 0) hx hb gX12_covers_6.2.2.2.2.2.2.1 (by decide) ?_
      exact th_iret hC hH hr hlocks narrow_b0 hB.2.1 ⟨_, rfl, by decide, by decide, (hF0.symm.trans (hF.trans (by rw [tk_0]))), rfl⟩ gX12_covers_6.2.2.2.2.2.2.2
    · replace hF := hF.trans (if_neg c42)
      refine lv_iload_n hx hb gX12_covers_3.2.2.2.2.1 rfl (lv_at hl 3 rfl) ?_
      refine lv_aload_n hx hb gX12_covers_3.2.2.2.2.2.1 rfl (lv_at hl 0 rfl) ?_
      refine th_getK hC cf_X12 hB.1 h0 ro_46 rfl (j := 2) (by decide) mb2 kf_X12_28 gX12_covers_3.2.2.2.2.2.2.1 ?_
      refine lv_bipush (v := 18) hx hb gX12_covers_3.2.2.2.2.2.2.2 (by decide) ?_
      refine lv_iload_n hx hb gX12_covers_4.1 rfl (lv_at hl 1 rfl) ?_
      refine tr_iadd hx hb gX12_covers_4.2.1 tk_18 (Eq.refl _) (by omega) (by omega) (fun x12 ex12 => ?_)
      replace hF := hF.trans (dv_bn (ex12.symm))
      refine th_ialdF hC hB.1 hb2 ro_48 rfl (Eq.refl _) (by omega) (by omega) (ek_a (by omega) (by omega)) gX12_covers_4.2.2.1 (fun x13 mx13 lx13 ux13 => ?_)
      replace hF := hF.trans (dv_bn (dv_aldI hB.1 hU hb2 ow_48 (z := x12.toInt) mx13 (by omega)))
      refine lv_aload_n hx hb gX12_covers_4.2.2.2.1 rfl (lv_at hl 0 rfl) ?_
      refine th_getK hC cf_X12 hB.1 h0 ro_46 rfl (j := 2) (by decide) mb2 kf_X12_28 gX12_covers_4.2.2.2.2.1 ?_
      refine lv_bipush (v := 18) hx hb gX12_covers_4.2.2.2.2.2.1 (by decide) ?_
      refine lv_iload_n hx hb gX12_covers_4.2.2.2.2.2.2.1 rfl (lv_at hl 1 rfl) ?_
      refine tr_iadd hx hb gX12_covers_4.2.2.2.2.2.2.2 tk_18 (Eq.refl _) (by omega) (by omega) (fun x14 ex14 => ?_)
      replace hF := hF.trans (dv_bn (ex14.symm))
      refine th_ialdF hC hB.1 hb2 ro_48 rfl (Eq.refl _) (by omega) (by omega) (ek_a (by omega) (by omega)) gX12_covers_5.1 (fun x15 mx15 lx15 ux15 => ?_)
      replace hF := hF.trans (dv_bn (dv_aldI hB.1 hU hb2 ow_48 (z := x14.toInt) mx15 (by omega)))
      refine lv_aload_n hx hb gX12_covers_5.2.1 rfl (lv_at hl 0 rfl) ?_
      refine th_getK hC cf_X12 hB.1 h0 ro_46 rfl (j := 2) (by decide) mb2 kf_X12_28 gX12_covers_5.2.2.1 ?_
      refine lv_bipush (v := 29) hx hb gX12_covers_5.2.2.2.1 (by decide) ?_
      refine lv_iload_n hx hb gX12_covers_5.2.2.2.2.1 rfl (lv_at hl 1 rfl) ?_
      refine tr_iadd hx hb gX12_covers_5.2.2.2.2.2.1 tk_29 (Eq.refl _) (by omega) (by omega) (fun x16 ex16 => ?_)
      replace hF := hF.trans (dv_bn (ex16.symm))
      refine th_ialdF hC hB.1 hb2 ro_48 rfl (Eq.refl _) (by omega) (by omega) (ek_side (by omega) (by omega)) gX12_covers_5.2.2.2.2.2.2.1 (fun x17 mx17 lx17 ux17 => ?_)
      replace hF := hF.trans (dv_bn (dv_aldI hB.1 hU hb2 ow_48 (z := x16.toInt) mx17 (by omega)))
      refine lv_iadd hx hb gX12_covers_5.2.2.2.2.2.2.2 ?_
      refine lv_topi (fun x18 ex18 => ?_)
      have lx18 := ti_lo x18; have ux18 := ti_hi x18
      replace hF := hF.trans (dv_bn (dv_add_e (Eq.refl _) (Eq.refl _) ex18))
      refine lv_iconst (v := 1) hx hb gX12_covers_6.1 (by decide) ?_
      refine lv_isub hx hb gX12_covers_6.2.1 ?_
      refine lv_topi (fun x19 ex19 => ?_)
      have lx19 := ti_lo x19; have ux19 := ti_hi x19
      replace hF := hF.trans (dv_bn (dv_sub_e (Eq.refl _) tk_1 ex19))
      refine th_call (th_runS (As := [.int p3, .int x13, .int x19]) (rest := []) hC mf_X12_lies km_X12_18 st_X12_lies (c_X12_lies l G Γ H0 hB.1 hU p3 x13 x19) rfl rfl ⟨Nat.le_of_ble_eq_true rfl, Nat.le_of_ble_eq_true rfl⟩ rfl hl.1 rfl (Nat.le_of_ble_eq_true rfl) gX12_covers_6.2.2.1 ⟨Nat.le_refl _, Nat.le_refl _⟩) hB.2.1 (fun v76 H76 locs hp hz hS => ?_)
      obtain ⟨x20, rfl, lx20, ux20, q76_0, q76_1, q76_2, rfl⟩ := hp
      have hB := th_B_s hB hS
      replace hF := hF.trans (dv_bn2 (q76_2))
      refine W.eq (g2 := F0 m 79 ls [.int x20]) rfl ?_
      refine tr_if_eq (tgt := 86) hx hb gX12_covers_6.2.2.2.1 (by decide) (Eq.refl _) (fun c79 => ?_) (fun c79 => ?_)
      · replace hF := hF.trans (if_pos c79)
        refine lv_iconst (v := 0) hx hb gX12_covers_6.2.2.2.2.2.2.1 (by decide) ?_
        exact th_iret hC hH hr hlocks narrow_b0 hB.2.1 ⟨_, rfl, by decide, by decide, (hF0.symm.trans (hF.trans (by rw [tk_0]))), rfl⟩ gX12_covers_6.2.2.2.2.2.2.2
      · replace hF := hF.trans (if_neg c79)
        refine lv_iconst (v := 1) hx hb gX12_covers_6.2.2.2.2.1 (by decide) ?_
        refine lv_goto (tgt := 87) hx hb gX12_covers_6.2.2.2.2.2.1 (by decide) ?_
        exact th_iret hC hH hr hlocks narrow_b1 hB.2.1 ⟨_, rfl, by decide, by decide, (hF0.symm.trans (hF.trans (by rw [tk_1]))), rfl⟩ gX12_covers_6.2.2.2.2.2.2.2

set_option maxHeartbeats 4000000 in
set_option maxRecDepth 100000 in
theorem c_X12_at (l : Launch) (G : th_G) (Γ : th_Ga) (H0 : Heap) (hI : th_I G Γ H0) (hU : dv_U Γ) (a0 : Nat) (h0 : Γ a0 = (46, 0)) (p1 : Int32) (p2 : Int32) : Met l yX12_at (.code yX12_at cX12_at 5 (some FieldType.int) :: th_tb) ({ frames := 2, cells := 0, slots := 0, locals := 45 } : Room) (th_P [.ref a0, .int p1, .int p2] G H0) (th_Q (fun (v : Option Value) (H1 : Heap) => ∃ r : Int32, v = some (.int r) ∧ (-1) ≤ r.toInt ∧ r.toInt ≤ 8 ∧ (f_X12_at (dv G Γ H0) (a0 : Int) p1.toInt p2.toInt = (r.toInt, ())) ∧ H0 = H1) G) 0 0 (fun q => G.1.2.2 ≤ q) := by
  refine th_met RX12 (by decide) rfl (Nat.le_of_ble_eq_true rfl) ?_
  intro p e s m below meth c hC hH hr hlocks hnm ls hl
  have hx := hC.1
  have hb := hC.2.1
  have hB : th_B G Γ Γ [] H0 H0 [] := ⟨hI, va_S.rf, th_F_rf⟩
  have hl : lv_has ls 5 [(0, .ref a0), (1, .int p1), (2, .int p2)] := hl
  have lp1 := ti_lo p1; have up1 := ti_hi p1
  have lp2 := ti_lo p2; have up2 := ti_hi p2
  obtain ⟨F, hF0⟩ : ∃ F, F = f_X12_at (dv G Γ H0) ((a0 : Int)) (p1.toInt) (p2.toInt) := ⟨_, rfl⟩
  have hF := hF0.trans (f_X12_at.eq_1 (dv G Γ H0) ((a0 : Int)) (p1.toInt) (p2.toInt))
  refine lv_iconst (v := (-1)) hx hb gX12_at_0.1 (by decide) ?_
  refine lv_istore_n (lv' := [(3, .int (-1)), (0, .ref a0), (1, .int p1), (2, .int p2)]) hx hb gX12_at_0.2.1 rfl hl (by decide) rfl (fun ls hl => ?_)
  refine lv_iconst (v := 0) hx hb gX12_at_0.2.2.1 (by decide) ?_
  refine lv_istore (lv' := [(4, .int 0), (3, .int (-1)), (0, .ref a0), (1, .int p1), (2, .int p2)]) hx hb gX12_at_0.2.2.2.1 hl (by decide) rfl (fun ls hl => ?_)
  have lp5 : ∀ (n5 : Nat) (locs : List Loc) (ls : Array Slot) (j5_3 : Int32) (j5_4 : Int32), th_B G Γ Γ [] H0 H0 locs → lv_has ls 5 [(0, .ref a0), (1, .int p1), (2, .int p2), (3, .int j5_3), (4, .int j5_4)] → F = dv_lp f_X12_at_5b (dv G Γ H0, (a0 : Int), p1.toInt, p2.toInt, j5_3.toInt, j5_4.toInt) → (-1) ≤ j5_3.toInt → j5_3.toInt ≤ 8 → 0 ≤ j5_4.toInt → j5_4.toInt ≤ 9 → (2147483648 : Int) - j5_4.toInt ≤ (n5 : Int) → W p l e ({ frames := 2, cells := 0, slots := 0, locals := 45 } : Room) s m ([.ref a0, .int p1, .int p2] : List Value).toArray below meth c H0 locs 0 0 (MQ below (th_Q (fun (v : Option Value) (H1 : Heap) => ∃ r : Int32, v = some (.int r) ∧ (-1) ≤ r.toInt ∧ r.toInt ≤ 8 ∧ (f_X12_at (dv G Γ H0) (a0 : Int) p1.toInt p2.toInt = (r.toInt, ())) ∧ H0 = H1) G) ([.ref a0, .int p1, .int p2] : List Value).toArray s 0 0 (fun q => G.1.2.2 ≤ q)) (F0 m 5 ls []) := by
    intro n5
    induction n5 with
    | zero => intro locs ls j5_3 j5_4 hB hl hF g5_0 g5_1 g5_2 g5_3 hm5; exact absurd hm5 (by have := ti_hi j5_4; omega)
    | succ n5 ih5 =>
      intro locs ls j5_3 j5_4 hB hl hF g5_0 g5_1 g5_2 g5_3 hm5
      have lj5_3 := ti_lo j5_3; have uj5_3 := ti_hi j5_3
      have lj5_4 := ti_lo j5_4; have uj5_4 := ti_hi j5_4
      have hm5 : (2147483648 : Int) - j5_4.toInt ≤ (n5 : Int) + 1 := by omega
      replace hF := hF.trans (dv_lp_eq)
      replace hF := hF.trans (congrArg (dv_k f_X12_at_5b) (f_X12_at_5c.eq_1 (dv G Γ H0) ((a0 : Int)) (p1.toInt) (p2.toInt) (j5_3.toInt) (j5_4.toInt)))
      refine lv_iload hx hb gX12_at_0.2.2.2.2.1 (lv_at hl 4 rfl) ?_
      refine lv_aload_n hx hb gX12_at_0.2.2.2.2.2.1 rfl (lv_at hl 0 rfl) ?_
      refine th_call (th_runV (As := []) (rest := [.int j5_4]) hC mf_X12_many km_X12_115 im_X12_many se_X12_many (c_X12_many l G Γ H0 hB.1 hU a0 h0) rfl rfl ⟨Nat.le_of_ble_eq_true rfl, Nat.le_of_ble_eq_true rfl⟩ hB.1 h0 ro_46 rfl rfl hl.1 rfl (Nat.le_of_ble_eq_true rfl) gX12_at_0.2.2.2.2.2.2.1 ⟨Nat.le_refl _, Nat.le_refl _⟩) hB.2.1 (fun v8 H8 locs hp hz hS => ?_)
      obtain ⟨x1, rfl, lx1, ux1, q8_0, q8_1, rfl⟩ := hp
      have hB := th_B_s hB hS
      replace hF := hF.trans (congrArg (dv_k f_X12_at_5b) (dv_bn2 (q8_1)))
      refine W.eq (g2 := F0 m 11 ls [.int x1, .int j5_4]) rfl ?_
      refine tr_icmp_ge (tgt := 38) hx hb gX12_at_0.2.2.2.2.2.2.2 (by decide) (Eq.refl _) (Eq.refl _) (fun c11 => ?_) (fun c11 => ?_)
      · replace hF := hF.trans (congrArg (dv_k f_X12_at_5b) (if_pos c11))
        refine lv_iload_n hx hb gX12_at_2.2.2.2.2.1 rfl (lv_at hl 3 rfl) ?_
        replace hF := hF.trans (dv_kr)
        exact th_iret hC hH hr hlocks rfl hB.2.1 ⟨_, rfl, by omega, by omega, (hF0.symm.trans hF), rfl⟩ gX12_at_2.2.2.2.2.2
      · replace hF := hF.trans (congrArg (dv_k f_X12_at_5b) (if_neg (Int.not_le.mpr c11)))
        refine lv_aload_n hx hb gX12_at_1.1 rfl (lv_at hl 0 rfl) ?_
        refine lv_iload hx hb gX12_at_1.2.1 (lv_at hl 4 rfl) ?_
        refine lv_iload_n hx hb gX12_at_1.2.2.1 rfl (lv_at hl 1 rfl) ?_
        refine lv_iload_n hx hb gX12_at_1.2.2.2.1 rfl (lv_at hl 2 rfl) ?_
        refine th_call (th_runV (As := [.int j5_4, .int p1, .int p2]) (rest := []) hC mf_X12_covers km_X12_146 im_X12_covers se_X12_covers (c_X12_covers l G Γ H0 hB.1 hU a0 h0 j5_4 (by omega) (by omega) p1 p2) rfl rfl ⟨Nat.le_of_ble_eq_true rfl, Nat.le_of_ble_eq_true rfl⟩ hB.1 h0 ro_46 rfl rfl hl.1 rfl (Nat.le_of_ble_eq_true rfl) gX12_at_1.2.2.2.2.1 ⟨Nat.le_refl _, Nat.le_refl _⟩) hB.2.1 (fun v19 H19 locs hp hz hS => ?_)
        obtain ⟨x2, rfl, lx2, ux2, q19_0, rfl⟩ := hp
        have hB := th_B_s hB hS
        replace hF := hF.trans (congrArg (dv_k f_X12_at_5b) (dv_bn2 (q19_0)))
        refine W.eq (g2 := F0 m 22 ls [.int x2]) rfl ?_
        have jn31 : ∀ (locs : List Loc) (ls : Array Slot) (s31_0 : Int32), th_B G Γ Γ [] H0 H0 locs → lv_has ls 5 [(0, .ref a0), (1, .int p1), (2, .int p2), (4, .int j5_4)] → F = dv_k f_X12_at_5b (f_X12_at_31 (dv G Γ H0) ((a0 : Int)) (p1.toInt) (p2.toInt) (j5_4.toInt) (s31_0.toInt)) → (-1) ≤ s31_0.toInt → s31_0.toInt ≤ 8 → W p l e ({ frames := 2, cells := 0, slots := 0, locals := 45 } : Room) s m ([.ref a0, .int p1, .int p2] : List Value).toArray below meth c H0 locs 0 0 (MQ below (th_Q (fun (v : Option Value) (H1 : Heap) => ∃ r : Int32, v = some (.int r) ∧ (-1) ≤ r.toInt ∧ r.toInt ≤ 8 ∧ (f_X12_at (dv G Γ H0) (a0 : Int) p1.toInt p2.toInt = (r.toInt, ())) ∧ H0 = H1) G) ([.ref a0, .int p1, .int p2] : List Value).toArray s 0 0 (fun q => G.1.2.2 ≤ q)) (F0 m 31 ls [.int s31_0]) := by
          intro locs ls s31_0 hB hl hF g31_0 g31_1
          have ls31_0 := ti_lo s31_0; have us31_0 := ti_hi s31_0
          replace hF := hF.trans (congrArg (dv_k f_X12_at_5b) (f_X12_at_31.eq_1 (dv G Γ H0) ((a0 : Int)) (p1.toInt) (p2.toInt) (j5_4.toInt) (s31_0.toInt)))
          refine lv_istore_n (lv' := [(3, .int s31_0), (0, .ref a0), (1, .int p1), (2, .int p2), (4, .int j5_4)]) hx hb gX12_at_2.2.1 rfl hl (by decide) rfl (fun ls hl => ?_)
          refine tr_iinc (fun x3 => [(4, .int x3), (3, .int s31_0), (0, .ref a0), (1, .int p1), (2, .int p2)]) hx hb gX12_at_2.2.2.1 hl (k := 4) rfl (Eq.refl _) tk_1 (by omega) (by omega) (by decide) (fun _ => rfl) (fun x3 ls ex3 hl => ?_)
          replace hF := hF.trans (congrArg (dv_k f_X12_at_5b) (dv_bn (ex3.symm)))
          refine lv_goto (tgt := 5) hx hb gX12_at_2.2.2.2.1 (by decide) ?_
          replace hF := hF.trans (dv_kl)
          exact ih5 locs ls s31_0 x3 hB (lv_sub hl [2, 3, 4, 1, 0] rfl) hF (by omega) (by omega) (by omega) (by omega) (by omega)
        refine tr_if_eq (tgt := 30) hx hb gX12_at_1.2.2.2.2.2.1 (by decide) (Eq.refl _) (fun c22 => ?_) (fun c22 => ?_)
        · replace hF := hF.trans (congrArg (dv_k f_X12_at_5b) (if_pos c22))
          refine lv_iload_n hx hb gX12_at_2.1 rfl (lv_at hl 3 rfl) ?_
          exact jn31 locs ls j5_3 hB (lv_sub hl [0, 1, 2, 4] rfl) hF (by omega) (by omega)
        · replace hF := hF.trans (congrArg (dv_k f_X12_at_5b) (if_neg c22))
          refine lv_iload hx hb gX12_at_1.2.2.2.2.2.2.1 (lv_at hl 4 rfl) ?_
          refine lv_goto (tgt := 31) hx hb gX12_at_1.2.2.2.2.2.2.2 (by decide) ?_
          exact jn31 locs ls j5_4 hB (lv_sub hl [0, 1, 2, 4] rfl) hF (by omega) (by omega)
  exact lp5 ((2147483648 : Int) - (0)).toNat [] ls (-1) 0 hB (lv_sub hl [2, 3, 4, 1, 0] rfl) (by rw [tk_m1, tk_0]; exact hF) (by decide) (by decide) (by decide) (by decide) (by have w0 := tk_0; have w1 := tk_m1; omega)

set_option maxHeartbeats 4000000 in
set_option maxRecDepth 100000 in
theorem c_X12_isLaw (l : Launch) (G : th_G) (Γ : th_Ga) (H0 : Heap) (hI : th_I G Γ H0) (hU : dv_U Γ) (a0 : Nat) (h0 : Γ a0 = (46, 0)) (p1 : Int32) : Met l yX12_isLaw (.code yX12_isLaw cX12_isLaw 2 (some FieldType.boolean) :: th_tb) ({ frames := 1, cells := 0, slots := 0, locals := 22 } : Room) (th_P [.ref a0, .int p1] G H0) (th_Q (fun (v : Option Value) (H1 : Heap) => ∃ r : Int32, v = some (.int r) ∧ 0 ≤ r.toInt ∧ r.toInt ≤ 1 ∧ (r.toInt = 1 → -1 ≤ p1.toInt ∧ p1.toInt ≤ 5 ∧ p1.toInt < mo_v G H0 a0 2 71) ∧ (f_X12_isLaw (dv G Γ H0) (a0 : Int) p1.toInt = (r.toInt, ())) ∧ H0 = H1) G) 0 0 (fun q => G.1.2.2 ≤ q) := by
  refine th_met RX12 (by decide) rfl (Nat.le_of_ble_eq_true rfl) ?_
  intro p e s m below meth c hC hH hr hlocks hnm ls hl
  have hx := hC.1
  have hb := hC.2.1
  have hB : th_B G Γ Γ [] H0 H0 [] := ⟨hI, va_S.rf, th_F_rf⟩
  have hl : lv_has ls 2 [(0, .ref a0), (1, .int p1)] := hl
  have lp1 := ti_lo p1; have up1 := ti_hi p1
  obtain ⟨F, hF0⟩ : ∃ F, F = f_X12_isLaw (dv G Γ H0) ((a0 : Int)) (p1.toInt) := ⟨_, rfl⟩
  have hF := hF0.trans (f_X12_isLaw.eq_1 (dv G Γ H0) ((a0 : Int)) (p1.toInt))
  refine lv_iload_n hx hb gX12_isLaw_0.1 rfl (lv_at hl 1 rfl) ?_
  refine lv_iconst (v := (-1)) hx hb gX12_isLaw_0.2.1 (by decide) ?_
  refine lv_aload_n hx hb gX12_isLaw_0.2.2.1 rfl (lv_at hl 0 rfl) ?_
  refine th_getO (j := 2) (r2 := 48) hC cf_X12 hB.1 h0 ro_46 rfl rfl kf_X12_28 gX12_isLaw_0.2.2.2.1 (fun b1 mb1 hb1 => ?_)
  refine lv_bipush (v := 71) hx hb gX12_isLaw_0.2.2.2.2.1 (by decide) ?_
  refine th_ialdF hC hB.1 hb1 ro_48 rfl tk_71 (by omega) (by omega) (ek_told (by omega) (by omega)) gX12_isLaw_0.2.2.2.2.2.1 (fun x2 mx2 lx2 ux2 => ?_)
  replace hF := hF.trans (dv_bn (dv_aldI hB.1 hU hb1 ow_48 (z := 71) mx2 (by omega)))
  have vgx2 : mo_v G H0 a0 2 71 = x2.toInt := by rw [show (71 : Int) = 71 by omega]; exact mo_vat mb1 mx2 (by omega)
  refine lv_iconst (v := 1) hx hb gX12_isLaw_0.2.2.2.2.2.2.1 (by decide) ?_
  refine tr_isub hx hb gX12_isLaw_0.2.2.2.2.2.2.2 (Eq.refl _) tk_1 (by omega) (by omega) (fun x3 ex3 => ?_)
  replace hF := hF.trans (dv_bn (ex3.symm))
  refine th_call (th_runS (As := [.int p1, .int (-1), .int x3]) (rest := []) hC mf_X12_lies km_X12_18 st_X12_lies (c_X12_lies l G Γ H0 hB.1 hU p1 (-1) x3) rfl rfl ⟨Nat.le_of_ble_eq_true rfl, Nat.le_of_ble_eq_true rfl⟩ rfl hl.1 rfl (Nat.le_of_ble_eq_true rfl) gX12_isLaw_1.1 ⟨Nat.le_refl _, Nat.le_refl _⟩) hB.2.1 (fun v11 H11 locs hp hz hS => ?_)
  obtain ⟨x4, rfl, lx4, ux4, q11_0, q11_1, q11_2, rfl⟩ := hp
  have hB := th_B_s hB hS
  have w11_1 := tk_m1
  have zf11 := q11_2
  rw [tk_m1] at zf11
  replace hF := hF.trans (dv_bn2 (zf11))
  refine W.eq (g2 := F0 m 14 ls [.int x4]) rfl ?_
  exact th_iret hC hH hr hlocks (th_nb (by omega) (by omega)) hB.2.1 ⟨_, rfl, by omega, by omega, by intros; omega, (hF0.symm.trans hF), rfl⟩ gX12_isLaw_1.2

set_option maxHeartbeats 4000000 in
set_option maxRecDepth 100000 in
theorem c_X12_rolledWhole (l : Launch) (G : th_G) (Γ : th_Ga) (H0 : Heap) (hI : th_I G Γ H0) (hU : dv_U Γ) (a0 : Nat) (h0 : Γ a0 = (46, 0)) : Met l yX12_rolledWhole (.code yX12_rolledWhole cX12_rolledWhole 3 (some FieldType.int) :: th_tb) ({ frames := 1, cells := 0, slots := 0, locals := 21 } : Room) (th_P [.ref a0] G H0) (th_Q (fun (v : Option Value) (H1 : Heap) => ∃ r : Int32, v = some (.int r) ∧ (f_X12_rolledWhole (dv G Γ H0) (a0 : Int) = (r.toInt, ())) ∧ H0 = H1) G) 0 0 (fun q => G.1.2.2 ≤ q) := by
  refine th_met RX12 (by decide) rfl (Nat.le_of_ble_eq_true rfl) ?_
  intro p e s m below meth c hC hH hr hlocks hnm ls hl
  have hx := hC.1
  have hb := hC.2.1
  have hB : th_B G Γ Γ [] H0 H0 [] := ⟨hI, va_S.rf, th_F_rf⟩
  have hl : lv_has ls 3 [(0, .ref a0)] := hl
  obtain ⟨F, hF0⟩ : ∃ F, F = f_X12_rolledWhole (dv G Γ H0) ((a0 : Int)) := ⟨_, rfl⟩
  have hF := hF0.trans (f_X12_rolledWhole.eq_1 (dv G Γ H0) ((a0 : Int)))
  refine lv_iconst (v := 0) hx hb gX12_rolledWhole_0.1 (by decide) ?_
  refine lv_istore_n (lv' := [(1, .int 0), (0, .ref a0)]) hx hb gX12_rolledWhole_0.2.1 rfl hl (by decide) rfl (fun ls hl => ?_)
  refine lv_iconst (v := 0) hx hb gX12_rolledWhole_0.2.2.1 (by decide) ?_
  refine lv_istore_n (lv' := [(2, .int 0), (1, .int 0), (0, .ref a0)]) hx hb gX12_rolledWhole_0.2.2.2.1 rfl hl (by decide) rfl (fun ls hl => ?_)
  have lp4 : ∀ (n4 : Nat) (locs : List Loc) (ls : Array Slot) (j4_1 : Int32) (j4_2 : Int32), th_B G Γ Γ [] H0 H0 locs → lv_has ls 3 [(0, .ref a0), (1, .int j4_1), (2, .int j4_2)] → F = dv_lp f_X12_rolledWhole_4b (dv G Γ H0, (a0 : Int), j4_1.toInt, j4_2.toInt) → 0 ≤ j4_2.toInt → j4_2.toInt ≤ 9 → (2147483648 : Int) - j4_2.toInt ≤ (n4 : Int) → W p l e ({ frames := 1, cells := 0, slots := 0, locals := 21 } : Room) s m ([.ref a0] : List Value).toArray below meth c H0 locs 0 0 (MQ below (th_Q (fun (v : Option Value) (H1 : Heap) => ∃ r : Int32, v = some (.int r) ∧ (f_X12_rolledWhole (dv G Γ H0) (a0 : Int) = (r.toInt, ())) ∧ H0 = H1) G) ([.ref a0] : List Value).toArray s 0 0 (fun q => G.1.2.2 ≤ q)) (F0 m 4 ls []) := by
    intro n4
    induction n4 with
    | zero => intro locs ls j4_1 j4_2 hB hl hF g4_0 g4_1 hm4; exact absurd hm4 (by have := ti_hi j4_2; omega)
    | succ n4 ih4 =>
      intro locs ls j4_1 j4_2 hB hl hF g4_0 g4_1 hm4
      have lj4_1 := ti_lo j4_1; have uj4_1 := ti_hi j4_1
      have lj4_2 := ti_lo j4_2; have uj4_2 := ti_hi j4_2
      have hm4 : (2147483648 : Int) - j4_2.toInt ≤ (n4 : Int) + 1 := by omega
      replace hF := hF.trans (dv_lp_eq)
      replace hF := hF.trans (congrArg (dv_k f_X12_rolledWhole_4b) (f_X12_rolledWhole_4c.eq_1 (dv G Γ H0) ((a0 : Int)) (j4_1.toInt) (j4_2.toInt)))
      refine lv_iload_n hx hb gX12_rolledWhole_0.2.2.2.2.1 rfl (lv_at hl 2 rfl) ?_
      refine lv_aload_n hx hb gX12_rolledWhole_0.2.2.2.2.2.1 rfl (lv_at hl 0 rfl) ?_
      refine th_call (th_runV (As := []) (rest := [.int j4_2]) hC mf_X12_many km_X12_115 im_X12_many se_X12_many (c_X12_many l G Γ H0 hB.1 hU a0 h0) rfl rfl ⟨Nat.le_of_ble_eq_true rfl, Nat.le_of_ble_eq_true rfl⟩ hB.1 h0 ro_46 rfl rfl hl.1 rfl (Nat.le_of_ble_eq_true rfl) gX12_rolledWhole_0.2.2.2.2.2.2.1 ⟨Nat.le_refl _, Nat.le_refl _⟩) hB.2.1 (fun v6 H6 locs hp hz hS => ?_)
      obtain ⟨x1, rfl, lx1, ux1, q6_0, q6_1, rfl⟩ := hp
      have hB := th_B_s hB hS
      replace hF := hF.trans (congrArg (dv_k f_X12_rolledWhole_4b) (dv_bn2 (q6_1)))
      refine W.eq (g2 := F0 m 9 ls [.int x1, .int j4_2]) rfl ?_
      refine tr_icmp_ge (tgt := 44) hx hb gX12_rolledWhole_0.2.2.2.2.2.2.2 (by decide) (Eq.refl _) (Eq.refl _) (fun c9 => ?_) (fun c9 => ?_)
      · replace hF := hF.trans (congrArg (dv_k f_X12_rolledWhole_4b) (if_pos c9))
        refine lv_iload_n hx hb gX12_rolledWhole_3.2.2.1 rfl (lv_at hl 1 rfl) ?_
        replace hF := hF.trans (dv_kr)
        exact th_iret hC hH hr hlocks rfl hB.2.1 ⟨_, rfl, (hF0.symm.trans hF), rfl⟩ gX12_rolledWhole_3.2.2.2
      · replace hF := hF.trans (congrArg (dv_k f_X12_rolledWhole_4b) (if_neg (Int.not_le.mpr c9)))
        refine lv_iload_n hx hb gX12_rolledWhole_1.1 rfl (lv_at hl 1 rfl) ?_
        refine lv_aload_n hx hb gX12_rolledWhole_1.2.1 rfl (lv_at hl 0 rfl) ?_
        refine lv_iload_n hx hb gX12_rolledWhole_1.2.2.1 rfl (lv_at hl 2 rfl) ?_
        refine th_call (th_runV (As := [.int j4_2]) (rest := [.int j4_1]) hC mf_X12_isLaid km_X12_137 im_X12_isLaid se_X12_isLaid (c_X12_isLaid l G Γ H0 hB.1 hU a0 h0 j4_2 (by omega) (by omega)) rfl rfl ⟨Nat.le_of_ble_eq_true rfl, Nat.le_of_ble_eq_true rfl⟩ hB.1 h0 ro_46 rfl rfl hl.1 rfl (Nat.le_of_ble_eq_true rfl) gX12_rolledWhole_1.2.2.2.1 ⟨Nat.le_refl _, Nat.le_refl _⟩) hB.2.1 (fun v15 H15 locs hp hz hS => ?_)
        obtain ⟨x2, rfl, lx2, ux2, q15_0, q15_1, q15_2, rfl⟩ := hp
        have hB := th_B_s hB hS
        replace hF := hF.trans (congrArg (dv_k f_X12_rolledWhole_4b) (dv_bn2 (q15_2)))
        refine W.eq (g2 := F0 m 18 ls [.int x2, .int j4_1]) rfl ?_
        have jn36 : ∀ (locs : List Loc) (ls : Array Slot) (s36_1 : Int32), th_B G Γ Γ [] H0 H0 locs → lv_has ls 3 [(0, .ref a0), (2, .int j4_2)] → F = dv_k f_X12_rolledWhole_4b (f_X12_rolledWhole_36 (dv G Γ H0) ((a0 : Int)) (j4_2.toInt) (j4_1.toInt) (s36_1.toInt)) → W p l e ({ frames := 1, cells := 0, slots := 0, locals := 21 } : Room) s m ([.ref a0] : List Value).toArray below meth c H0 locs 0 0 (MQ below (th_Q (fun (v : Option Value) (H1 : Heap) => ∃ r : Int32, v = some (.int r) ∧ (f_X12_rolledWhole (dv G Γ H0) (a0 : Int) = (r.toInt, ())) ∧ H0 = H1) G) ([.ref a0] : List Value).toArray s 0 0 (fun q => G.1.2.2 ≤ q)) (F0 m 36 ls [.int s36_1, .int j4_1]) := by
          intro locs ls s36_1 hB hl hF
          have ls36_1 := ti_lo s36_1; have us36_1 := ti_hi s36_1
          replace hF := hF.trans (congrArg (dv_k f_X12_rolledWhole_4b) (f_X12_rolledWhole_36.eq_1 (dv G Γ H0) ((a0 : Int)) (j4_2.toInt) (j4_1.toInt) (s36_1.toInt)))
          refine lv_ior hx hb gX12_rolledWhole_2.2.2.2.2.2.2.1 ?_
          refine lv_topi (fun x3 ex3 => ?_)
          have lx3 := ti_lo x3; have ux3 := ti_hi x3
          replace hF := hF.trans (congrArg (dv_k f_X12_rolledWhole_4b) (dv_bn (dv_or_e (Eq.refl _) (Eq.refl _) ex3)))
          refine lv_istore_n (lv' := [(1, .int x3), (0, .ref a0), (2, .int j4_2)]) hx hb gX12_rolledWhole_2.2.2.2.2.2.2.2 rfl hl (by decide) rfl (fun ls hl => ?_)
          refine tr_iinc (fun x4 => [(2, .int x4), (1, .int x3), (0, .ref a0)]) hx hb gX12_rolledWhole_3.1 hl (k := 2) rfl (Eq.refl _) tk_1 (by omega) (by omega) (by decide) (fun _ => rfl) (fun x4 ls ex4 hl => ?_)
          replace hF := hF.trans (congrArg (dv_k f_X12_rolledWhole_4b) (dv_bn (ex4.symm)))
          refine lv_goto (tgt := 4) hx hb gX12_rolledWhole_3.2.1 (by decide) ?_
          replace hF := hF.trans (dv_kl)
          exact ih4 locs ls x3 x4 hB (lv_sub hl [2, 1, 0] rfl) hF (by omega) (by omega) (by omega)
        have jn35 : ∀ (locs : List Loc) (ls : Array Slot) , th_B G Γ Γ [] H0 H0 locs → lv_has ls 3 [(0, .ref a0), (2, .int j4_2)] → F = dv_k f_X12_rolledWhole_4b (f_X12_rolledWhole_35 (dv G Γ H0) ((a0 : Int)) (j4_2.toInt) (j4_1.toInt)) → W p l e ({ frames := 1, cells := 0, slots := 0, locals := 21 } : Room) s m ([.ref a0] : List Value).toArray below meth c H0 locs 0 0 (MQ below (th_Q (fun (v : Option Value) (H1 : Heap) => ∃ r : Int32, v = some (.int r) ∧ (f_X12_rolledWhole (dv G Γ H0) (a0 : Int) = (r.toInt, ())) ∧ H0 = H1) G) ([.ref a0] : List Value).toArray s 0 0 (fun q => G.1.2.2 ≤ q)) (F0 m 35 ls [.int j4_1]) := by
          intro locs ls hB hl hF
          replace hF := hF.trans (congrArg (dv_k f_X12_rolledWhole_4b) (f_X12_rolledWhole_35.eq_1 (dv G Γ H0) ((a0 : Int)) (j4_2.toInt) (j4_1.toInt)))
          refine lv_iconst (v := 0) hx hb gX12_rolledWhole_2.2.2.2.2.2.1 (by decide) ?_
          exact jn36 locs ls 0 hB (lv_sub hl [0, 1] rfl) (by rw [tk_0]; exact hF)
        refine tr_if_ne (tgt := 35) hx hb gX12_rolledWhole_1.2.2.2.2.1 (by decide) (Eq.refl _) (fun c18 => ?_) (fun c18 => ?_)
        · replace hF := hF.trans (congrArg (dv_k f_X12_rolledWhole_4b) (if_pos c18))
          exact jn35 locs ls hB (lv_sub hl [0, 2] rfl) hF
        · replace hF := hF.trans (congrArg (dv_k f_X12_rolledWhole_4b) (if_neg (not_not_intro c18)))
          refine lv_aload_n hx hb gX12_rolledWhole_1.2.2.2.2.2.1 rfl (lv_at hl 0 rfl) ?_
          refine lv_iload_n hx hb gX12_rolledWhole_1.2.2.2.2.2.2.1 rfl (lv_at hl 2 rfl) ?_
          refine th_call (th_runV (As := [.int j4_2]) (rest := [.int j4_1]) hC mf_X12_isWhole km_X12_357 im_X12_isWhole se_X12_isWhole (c_X12_isWhole l G Γ H0 hB.1 hU a0 h0 j4_2 (by omega) (by omega)) rfl rfl ⟨Nat.le_of_ble_eq_true rfl, Nat.le_of_ble_eq_true rfl⟩ hB.1 h0 ro_46 rfl rfl hl.1 rfl (Nat.le_of_ble_eq_true rfl) gX12_rolledWhole_1.2.2.2.2.2.2.2 ⟨Nat.le_refl _, Nat.le_refl _⟩) hB.2.1 (fun v23 H23 locs hp hz hS => ?_)
          obtain ⟨x5, rfl, lx5, ux5, q23_0, rfl⟩ := hp
          have hB := th_B_s hB hS
          replace hF := hF.trans (congrArg (dv_k f_X12_rolledWhole_4b) (dv_bn2 (q23_0)))
          refine W.eq (g2 := F0 m 26 ls [.int x5, .int j4_1]) rfl ?_
          refine tr_if_eq (tgt := 35) hx hb gX12_rolledWhole_2.1 (by decide) (Eq.refl _) (fun c26 => ?_) (fun c26 => ?_)
          · replace hF := hF.trans (congrArg (dv_k f_X12_rolledWhole_4b) (if_pos c26))
            exact jn35 locs ls hB (lv_sub hl [0, 2] rfl) hF
          · replace hF := hF.trans (congrArg (dv_k f_X12_rolledWhole_4b) (if_neg c26))
            refine lv_iconst (v := 1) hx hb gX12_rolledWhole_2.2.1 (by decide) ?_
            refine lv_iload_n hx hb gX12_rolledWhole_2.2.2.1 rfl (lv_at hl 2 rfl) ?_
            refine lv_ishl hx hb gX12_rolledWhole_2.2.2.2.1 ?_
            refine lv_topi (fun x6 ex6 => ?_)
            have lx6 := ti_lo x6; have ux6 := ti_hi x6
            replace hF := hF.trans (congrArg (dv_k f_X12_rolledWhole_4b) (dv_bn (dv_shl_e tk_1 (Eq.refl _) ex6)))
            refine lv_goto (tgt := 36) hx hb gX12_rolledWhole_2.2.2.2.2.1 (by decide) ?_
            exact jn36 locs ls x6 hB (lv_sub hl [0, 2] rfl) hF
  exact lp4 ((2147483648 : Int) - (0)).toNat [] ls 0 0 hB (lv_sub hl [2, 1, 0] rfl) (by rw [tk_0]; exact hF) (by decide) (by decide) (by have w0 := tk_0; omega)

set_option maxHeartbeats 4000000 in
set_option maxRecDepth 100000 in
theorem c_X12_priceAt (l : Launch) (G : th_G) (Γ : th_Ga) (H0 : Heap) (hI : th_I G Γ H0) (hU : dv_U Γ) (a0 : Nat) (h0 : Γ a0 = (46, 0)) (p1 : Int32) (f1 : 0 ≤ p1.toInt) (g1 : p1.toInt ≤ 8) (p2 : Int32) (f2 : 0 ≤ p2.toInt) (g2 : p2.toInt ≤ 143) : Met l yX12_priceAt (.code yX12_priceAt cX12_priceAt 3 (some FieldType.int) :: th_tb) ({ frames := 0, cells := 0, slots := 0, locals := 0 } : Room) (th_P [.ref a0, .int p1, .int p2] G H0) (th_Q (fun (v : Option Value) (H1 : Heap) => ∃ r : Int32, v = some (.int r) ∧ (f_X12_priceAt (dv G Γ H0) (a0 : Int) p1.toInt p2.toInt = (r.toInt, ())) ∧ H0 = H1) G) 0 0 (fun q => G.1.2.2 ≤ q) := by
  refine th_met RX12 (by decide) rfl (Nat.le_of_ble_eq_true rfl) ?_
  intro p e s m below meth c hC hH hr hlocks hnm ls hl
  have hx := hC.1
  have hb := hC.2.1
  have hB : th_B G Γ Γ [] H0 H0 [] := ⟨hI, va_S.rf, th_F_rf⟩
  have hl : lv_has ls 3 [(0, .ref a0), (1, .int p1), (2, .int p2)] := hl
  have lp1 := ti_lo p1; have up1 := ti_hi p1
  have lp2 := ti_lo p2; have up2 := ti_hi p2
  obtain ⟨F, hF0⟩ : ∃ F, F = f_X12_priceAt (dv G Γ H0) ((a0 : Int)) (p1.toInt) (p2.toInt) := ⟨_, rfl⟩
  have hF := hF0.trans (f_X12_priceAt.eq_1 (dv G Γ H0) ((a0 : Int)) (p1.toInt) (p2.toInt))
  refine lv_aload_n hx hb gX12_priceAt_0.1 rfl (lv_at hl 0 rfl) ?_
  refine th_getO (j := 34) (r2 := 63) hC cf_X12 hB.1 h0 ro_46 rfl rfl kf_X12_78 gX12_priceAt_0.2.1 (fun b1 mb1 hb1 => ?_)
  refine lv_sipush (v := 144) hx hb gX12_priceAt_0.2.2.1 (by decide) ?_
  refine lv_iload_n hx hb gX12_priceAt_0.2.2.2.1 rfl (lv_at hl 1 rfl) ?_
  refine tr_imul hx hb gX12_priceAt_0.2.2.2.2.1 tk_144 (Eq.refl _) (by omega) (by omega) (fun x2 ex2 => ?_)
  replace hF := hF.trans (dv_bn (ex2.symm))
  refine lv_iload_n hx hb gX12_priceAt_0.2.2.2.2.2.1 rfl (lv_at hl 2 rfl) ?_
  refine tr_iadd hx hb gX12_priceAt_0.2.2.2.2.2.2.1 (Eq.refl _) (Eq.refl _) (by omega) (by omega) (fun x3 ex3 => ?_)
  replace hF := hF.trans (dv_bn (ex3.symm))
  refine th_ialdF hC hB.1 hb1 ro_63 rfl (Eq.refl _) (by omega) (by omega) rfl gX12_priceAt_0.2.2.2.2.2.2.2 (fun x4 mx4 lx4 ux4 => ?_)
  replace hF := hF.trans (dv_bn (dv_aldI hB.1 hU hb1 ow_63 (z := x3.toInt) mx4 (by omega)))
  exact th_iret hC hH hr hlocks rfl hB.2.1 ⟨_, rfl, (hF0.symm.trans hF), rfl⟩ gX12_priceAt_1

set_option maxHeartbeats 4000000 in
set_option maxRecDepth 100000 in
theorem c_X12_mostAt (l : Launch) (G : th_G) (Γ : th_Ga) (H0 : Heap) (hI : th_I G Γ H0) (hU : dv_U Γ) (a0 : Nat) (h0 : Γ a0 = (46, 0)) (p1 : Int32) (f1 : 0 ≤ p1.toInt) (g1 : p1.toInt ≤ 143) : Met l yX12_mostAt (.code yX12_mostAt cX12_mostAt 4 (some FieldType.int) :: th_tb) ({ frames := 1, cells := 0, slots := 0, locals := 21 } : Room) (th_P [.ref a0, .int p1] G H0) (th_Q (fun (v : Option Value) (H1 : Heap) => ∃ r : Int32, v = some (.int r) ∧ (f_X12_mostAt (dv G Γ H0) (a0 : Int) p1.toInt = (r.toInt, ())) ∧ H0 = H1) G) 0 0 (fun q => G.1.2.2 ≤ q) := by
  refine th_met RX12 (by decide) rfl (Nat.le_of_ble_eq_true rfl) ?_
  intro p e s m below meth c hC hH hr hlocks hnm ls hl
  have hx := hC.1
  have hb := hC.2.1
  have hB : th_B G Γ Γ [] H0 H0 [] := ⟨hI, va_S.rf, th_F_rf⟩
  have hl : lv_has ls 4 [(0, .ref a0), (1, .int p1)] := hl
  have lp1 := ti_lo p1; have up1 := ti_hi p1
  obtain ⟨F, hF0⟩ : ∃ F, F = f_X12_mostAt (dv G Γ H0) ((a0 : Int)) (p1.toInt) := ⟨_, rfl⟩
  have hF := hF0.trans (f_X12_mostAt.eq_1 (dv G Γ H0) ((a0 : Int)) (p1.toInt))
  refine lv_iconst (v := 0) hx hb gX12_mostAt_0.1 (by decide) ?_
  refine lv_istore_n (lv' := [(2, .int 0), (0, .ref a0), (1, .int p1)]) hx hb gX12_mostAt_0.2.1 rfl hl (by decide) rfl (fun ls hl => ?_)
  refine lv_iconst (v := 0) hx hb gX12_mostAt_0.2.2.1 (by decide) ?_
  refine lv_istore_n (lv' := [(3, .int 0), (2, .int 0), (0, .ref a0), (1, .int p1)]) hx hb gX12_mostAt_0.2.2.2.1 rfl hl (by decide) rfl (fun ls hl => ?_)
  have lp4 : ∀ (n4 : Nat) (locs : List Loc) (ls : Array Slot) (j4_2 : Int32) (j4_3 : Int32), th_B G Γ Γ [] H0 H0 locs → lv_has ls 4 [(0, .ref a0), (1, .int p1), (2, .int j4_2), (3, .int j4_3)] → F = dv_lp f_X12_mostAt_4b (dv G Γ H0, (a0 : Int), p1.toInt, j4_2.toInt, j4_3.toInt) → 0 ≤ j4_3.toInt → j4_3.toInt ≤ 9 → (2147483648 : Int) - j4_3.toInt ≤ (n4 : Int) → W p l e ({ frames := 1, cells := 0, slots := 0, locals := 21 } : Room) s m ([.ref a0, .int p1] : List Value).toArray below meth c H0 locs 0 0 (MQ below (th_Q (fun (v : Option Value) (H1 : Heap) => ∃ r : Int32, v = some (.int r) ∧ (f_X12_mostAt (dv G Γ H0) (a0 : Int) p1.toInt = (r.toInt, ())) ∧ H0 = H1) G) ([.ref a0, .int p1] : List Value).toArray s 0 0 (fun q => G.1.2.2 ≤ q)) (F0 m 4 ls []) := by
    intro n4
    induction n4 with
    | zero => intro locs ls j4_2 j4_3 hB hl hF g4_0 g4_1 hm4; exact absurd hm4 (by have := ti_hi j4_3; omega)
    | succ n4 ih4 =>
      intro locs ls j4_2 j4_3 hB hl hF g4_0 g4_1 hm4
      have lj4_2 := ti_lo j4_2; have uj4_2 := ti_hi j4_2
      have lj4_3 := ti_lo j4_3; have uj4_3 := ti_hi j4_3
      have hm4 : (2147483648 : Int) - j4_3.toInt ≤ (n4 : Int) + 1 := by omega
      replace hF := hF.trans (dv_lp_eq)
      replace hF := hF.trans (congrArg (dv_k f_X12_mostAt_4b) (f_X12_mostAt_4c.eq_1 (dv G Γ H0) ((a0 : Int)) (p1.toInt) (j4_2.toInt) (j4_3.toInt)))
      refine lv_iload_n hx hb gX12_mostAt_0.2.2.2.2.1 rfl (lv_at hl 3 rfl) ?_
      refine lv_aload_n hx hb gX12_mostAt_0.2.2.2.2.2.1 rfl (lv_at hl 0 rfl) ?_
      refine th_call (th_runV (As := []) (rest := [.int j4_3]) hC mf_X12_many km_X12_115 im_X12_many se_X12_many (c_X12_many l G Γ H0 hB.1 hU a0 h0) rfl rfl ⟨Nat.le_of_ble_eq_true rfl, Nat.le_of_ble_eq_true rfl⟩ hB.1 h0 ro_46 rfl rfl hl.1 rfl (Nat.le_of_ble_eq_true rfl) gX12_mostAt_0.2.2.2.2.2.2.1 ⟨Nat.le_refl _, Nat.le_refl _⟩) hB.2.1 (fun v6 H6 locs hp hz hS => ?_)
      obtain ⟨x1, rfl, lx1, ux1, q6_0, q6_1, rfl⟩ := hp
      have hB := th_B_s hB hS
      replace hF := hF.trans (congrArg (dv_k f_X12_mostAt_4b) (dv_bn2 (q6_1)))
      refine W.eq (g2 := F0 m 9 ls [.int x1, .int j4_3]) rfl ?_
      refine tr_icmp_ge (tgt := 34) hx hb gX12_mostAt_0.2.2.2.2.2.2.2 (by decide) (Eq.refl _) (Eq.refl _) (fun c9 => ?_) (fun c9 => ?_)
      · replace hF := hF.trans (congrArg (dv_k f_X12_mostAt_4b) (if_pos c9))
        refine lv_iload_n hx hb gX12_mostAt_2.2.2.2.2.2.1 rfl (lv_at hl 2 rfl) ?_
        replace hF := hF.trans (dv_kr)
        exact th_iret hC hH hr hlocks rfl hB.2.1 ⟨_, rfl, (hF0.symm.trans hF), rfl⟩ gX12_mostAt_2.2.2.2.2.2.2
      · replace hF := hF.trans (congrArg (dv_k f_X12_mostAt_4b) (if_neg (Int.not_le.mpr c9)))
        refine lv_iload_n hx hb gX12_mostAt_1.1 rfl (lv_at hl 2 rfl) ?_
        refine lv_aload_n hx hb gX12_mostAt_1.2.1 rfl (lv_at hl 0 rfl) ?_
        refine th_getO (j := 38) (r2 := 67) hC cf_X12 hB.1 h0 ro_46 rfl rfl kf_X12_90 gX12_mostAt_1.2.2.1 (fun b2 mb2 hb2 => ?_)
        refine lv_bipush (v := 9) hx hb gX12_mostAt_1.2.2.2.1 (by decide) ?_
        refine lv_iload_n hx hb gX12_mostAt_1.2.2.2.2.1 rfl (lv_at hl 1 rfl) ?_
        refine tr_imul hx hb gX12_mostAt_1.2.2.2.2.2.1 tk_9 (Eq.refl _) (by omega) (by omega) (fun x3 ex3 => ?_)
        replace hF := hF.trans (congrArg (dv_k f_X12_mostAt_4b) (dv_bn (ex3.symm)))
        refine lv_iload_n hx hb gX12_mostAt_1.2.2.2.2.2.2.1 rfl (lv_at hl 3 rfl) ?_
        refine tr_iadd hx hb gX12_mostAt_1.2.2.2.2.2.2.2 (Eq.refl _) (Eq.refl _) (by omega) (by omega) (fun x4 ex4 => ?_)
        replace hF := hF.trans (congrArg (dv_k f_X12_mostAt_4b) (dv_bn (ex4.symm)))
        refine th_ialdF hC hB.1 hb2 ro_67 rfl (Eq.refl _) (by omega) (by omega) rfl gX12_mostAt_2.1 (fun x5 mx5 lx5 ux5 => ?_)
        replace hF := hF.trans (congrArg (dv_k f_X12_mostAt_4b) (dv_bn (dv_aldI hB.1 hU hb2 ow_67 (z := x4.toInt) mx5 (by omega))))
        refine th_call (th_runS (As := [.int j4_2, .int x5]) (rest := []) hC mf_X12_greater km_X12_367 st_X12_greater (c_X12_greater l G Γ H0 hB.1 hU j4_2 x5) rfl rfl ⟨Nat.le_of_ble_eq_true rfl, Nat.le_of_ble_eq_true rfl⟩ rfl hl.1 rfl (Nat.le_of_ble_eq_true rfl) gX12_mostAt_2.2.1 ⟨Nat.le_refl _, Nat.le_refl _⟩) hB.2.1 (fun v24 H24 locs hp hz hS => ?_)
        obtain ⟨x6, rfl, q24_0, q24_1, rfl⟩ := hp
        have hB := th_B_s hB hS
        replace hF := hF.trans (congrArg (dv_k f_X12_mostAt_4b) (dv_bn2 (q24_1)))
        refine W.eq (g2 := F0 m 27 ls [.int x6]) rfl ?_
        refine lv_istore_n (lv' := [(2, .int x6), (0, .ref a0), (1, .int p1), (3, .int j4_3)]) hx hb gX12_mostAt_2.2.2.1 rfl hl (by decide) rfl (fun ls hl => ?_)
        refine tr_iinc (fun x7 => [(3, .int x7), (2, .int x6), (0, .ref a0), (1, .int p1)]) hx hb gX12_mostAt_2.2.2.2.1 hl (k := 3) rfl (Eq.refl _) tk_1 (by omega) (by omega) (by decide) (fun _ => rfl) (fun x7 ls ex7 hl => ?_)
        replace hF := hF.trans (congrArg (dv_k f_X12_mostAt_4b) (dv_bn (ex7.symm)))
        refine lv_goto (tgt := 4) hx hb gX12_mostAt_2.2.2.2.2.1 (by decide) ?_
        replace hF := hF.trans (dv_kl)
        exact ih4 locs ls x6 x7 hB (lv_sub hl [2, 3, 1, 0] rfl) hF (by omega) (by omega) (by omega)
  exact lp4 ((2147483648 : Int) - (0)).toNat [] ls 0 0 hB (lv_sub hl [2, 3, 1, 0] rfl) (by rw [tk_0]; exact hF) (by decide) (by decide) (by have w0 := tk_0; omega)

set_option maxHeartbeats 4000000 in
set_option maxRecDepth 100000 in
theorem c_X12_ragMany (l : Launch) (G : th_G) (Γ : th_Ga) (H0 : Heap) (hI : th_I G Γ H0) (hU : dv_U Γ) (a0 : Nat) (h0 : Γ a0 = (46, 0)) : Met l yX12_ragMany (.code yX12_ragMany cX12_ragMany 3 (some FieldType.int) :: th_tb) ({ frames := 1, cells := 0, slots := 0, locals := 21 } : Room) (th_P [.ref a0] G H0) (th_Q (fun (v : Option Value) (H1 : Heap) => ∃ r : Int32, v = some (.int r) ∧ (f_X12_ragMany (dv G Γ H0) (a0 : Int) = (r.toInt, ())) ∧ H0 = H1) G) 0 0 (fun q => G.1.2.2 ≤ q) := by
  refine th_met RX12 (by decide) rfl (Nat.le_of_ble_eq_true rfl) ?_
  intro p e s m below meth c hC hH hr hlocks hnm ls hl
  have hx := hC.1
  have hb := hC.2.1
  have hB : th_B G Γ Γ [] H0 H0 [] := ⟨hI, va_S.rf, th_F_rf⟩
  have hl : lv_has ls 3 [(0, .ref a0)] := hl
  obtain ⟨F, hF0⟩ : ∃ F, F = f_X12_ragMany (dv G Γ H0) ((a0 : Int)) := ⟨_, rfl⟩
  have hF := hF0.trans (f_X12_ragMany.eq_1 (dv G Γ H0) ((a0 : Int)))
  refine lv_iconst (v := 0) hx hb gX12_ragMany_0.1 (by decide) ?_
  refine lv_istore_n (lv' := [(1, .int 0), (0, .ref a0)]) hx hb gX12_ragMany_0.2.1 rfl hl (by decide) rfl (fun ls hl => ?_)
  refine lv_iconst (v := 0) hx hb gX12_ragMany_0.2.2.1 (by decide) ?_
  refine lv_istore_n (lv' := [(2, .int 0), (1, .int 0), (0, .ref a0)]) hx hb gX12_ragMany_0.2.2.2.1 rfl hl (by decide) rfl (fun ls hl => ?_)
  have lp4 : ∀ (n4 : Nat) (locs : List Loc) (ls : Array Slot) (j4_1 : Int32) (j4_2 : Int32), th_B G Γ Γ [] H0 H0 locs → lv_has ls 3 [(0, .ref a0), (1, .int j4_1), (2, .int j4_2)] → F = dv_lp f_X12_ragMany_4b (dv G Γ H0, (a0 : Int), j4_1.toInt, j4_2.toInt) → 0 ≤ j4_2.toInt → j4_2.toInt ≤ 9 → (2147483648 : Int) - j4_2.toInt ≤ (n4 : Int) → W p l e ({ frames := 1, cells := 0, slots := 0, locals := 21 } : Room) s m ([.ref a0] : List Value).toArray below meth c H0 locs 0 0 (MQ below (th_Q (fun (v : Option Value) (H1 : Heap) => ∃ r : Int32, v = some (.int r) ∧ (f_X12_ragMany (dv G Γ H0) (a0 : Int) = (r.toInt, ())) ∧ H0 = H1) G) ([.ref a0] : List Value).toArray s 0 0 (fun q => G.1.2.2 ≤ q)) (F0 m 4 ls []) := by
    intro n4
    induction n4 with
    | zero => intro locs ls j4_1 j4_2 hB hl hF g4_0 g4_1 hm4; exact absurd hm4 (by have := ti_hi j4_2; omega)
    | succ n4 ih4 =>
      intro locs ls j4_1 j4_2 hB hl hF g4_0 g4_1 hm4
      have lj4_1 := ti_lo j4_1; have uj4_1 := ti_hi j4_1
      have lj4_2 := ti_lo j4_2; have uj4_2 := ti_hi j4_2
      have hm4 : (2147483648 : Int) - j4_2.toInt ≤ (n4 : Int) + 1 := by omega
      replace hF := hF.trans (dv_lp_eq)
      replace hF := hF.trans (congrArg (dv_k f_X12_ragMany_4b) (f_X12_ragMany_4c.eq_1 (dv G Γ H0) ((a0 : Int)) (j4_1.toInt) (j4_2.toInt)))
      refine lv_iload_n hx hb gX12_ragMany_0.2.2.2.2.1 rfl (lv_at hl 2 rfl) ?_
      refine lv_aload_n hx hb gX12_ragMany_0.2.2.2.2.2.1 rfl (lv_at hl 0 rfl) ?_
      refine th_call (th_runV (As := []) (rest := [.int j4_2]) hC mf_X12_many km_X12_115 im_X12_many se_X12_many (c_X12_many l G Γ H0 hB.1 hU a0 h0) rfl rfl ⟨Nat.le_of_ble_eq_true rfl, Nat.le_of_ble_eq_true rfl⟩ hB.1 h0 ro_46 rfl rfl hl.1 rfl (Nat.le_of_ble_eq_true rfl) gX12_ragMany_0.2.2.2.2.2.2.1 ⟨Nat.le_refl _, Nat.le_refl _⟩) hB.2.1 (fun v6 H6 locs hp hz hS => ?_)
      obtain ⟨x1, rfl, lx1, ux1, q6_0, q6_1, rfl⟩ := hp
      have hB := th_B_s hB hS
      replace hF := hF.trans (congrArg (dv_k f_X12_ragMany_4b) (dv_bn2 (q6_1)))
      refine W.eq (g2 := F0 m 9 ls [.int x1, .int j4_2]) rfl ?_
      refine tr_icmp_ge (tgt := 34) hx hb gX12_ragMany_0.2.2.2.2.2.2.2 (by decide) (Eq.refl _) (Eq.refl _) (fun c9 => ?_) (fun c9 => ?_)
      · replace hF := hF.trans (congrArg (dv_k f_X12_ragMany_4b) (if_pos c9))
        refine lv_iload_n hx hb gX12_ragMany_2.2.2.2.2.1 rfl (lv_at hl 1 rfl) ?_
        replace hF := hF.trans (dv_kr)
        exact th_iret hC hH hr hlocks rfl hB.2.1 ⟨_, rfl, (hF0.symm.trans hF), rfl⟩ gX12_ragMany_2.2.2.2.2.2
      · replace hF := hF.trans (congrArg (dv_k f_X12_ragMany_4b) (if_neg (Int.not_le.mpr c9)))
        refine lv_iload_n hx hb gX12_ragMany_1.1 rfl (lv_at hl 1 rfl) ?_
        refine lv_aload_n hx hb gX12_ragMany_1.2.1 rfl (lv_at hl 0 rfl) ?_
        refine lv_iload_n hx hb gX12_ragMany_1.2.2.1 rfl (lv_at hl 2 rfl) ?_
        refine th_call (th_runV (As := [.int j4_2]) (rest := [.int j4_1]) hC mf_X12_isWhole km_X12_357 im_X12_isWhole se_X12_isWhole (c_X12_isWhole l G Γ H0 hB.1 hU a0 h0 j4_2 (by omega) (by omega)) rfl rfl ⟨Nat.le_of_ble_eq_true rfl, Nat.le_of_ble_eq_true rfl⟩ hB.1 h0 ro_46 rfl rfl hl.1 rfl (Nat.le_of_ble_eq_true rfl) gX12_ragMany_1.2.2.2.1 ⟨Nat.le_refl _, Nat.le_refl _⟩) hB.2.1 (fun v15 H15 locs hp hz hS => ?_)
        obtain ⟨x2, rfl, lx2, ux2, q15_0, rfl⟩ := hp
        have hB := th_B_s hB hS
        replace hF := hF.trans (congrArg (dv_k f_X12_ragMany_4b) (dv_bn2 (q15_0)))
        refine W.eq (g2 := F0 m 18 ls [.int x2, .int j4_1]) rfl ?_
        have jn26 : ∀ (locs : List Loc) (ls : Array Slot) (s26_1 : Int32), th_B G Γ Γ [] H0 H0 locs → lv_has ls 3 [(0, .ref a0), (2, .int j4_2)] → F = dv_k f_X12_ragMany_4b (f_X12_ragMany_26 (dv G Γ H0) ((a0 : Int)) (j4_2.toInt) (j4_1.toInt) (s26_1.toInt)) → 0 ≤ s26_1.toInt → s26_1.toInt ≤ 1 → W p l e ({ frames := 1, cells := 0, slots := 0, locals := 21 } : Room) s m ([.ref a0] : List Value).toArray below meth c H0 locs 0 0 (MQ below (th_Q (fun (v : Option Value) (H1 : Heap) => ∃ r : Int32, v = some (.int r) ∧ (f_X12_ragMany (dv G Γ H0) (a0 : Int) = (r.toInt, ())) ∧ H0 = H1) G) ([.ref a0] : List Value).toArray s 0 0 (fun q => G.1.2.2 ≤ q)) (F0 m 26 ls [.int s26_1, .int j4_1]) := by
          intro locs ls s26_1 hB hl hF g26_0 g26_1
          have ls26_1 := ti_lo s26_1; have us26_1 := ti_hi s26_1
          replace hF := hF.trans (congrArg (dv_k f_X12_ragMany_4b) (f_X12_ragMany_26.eq_1 (dv G Γ H0) ((a0 : Int)) (j4_2.toInt) (j4_1.toInt) (s26_1.toInt)))
          refine lv_iadd hx hb gX12_ragMany_2.1 ?_
          refine lv_topi (fun x3 ex3 => ?_)
          have lx3 := ti_lo x3; have ux3 := ti_hi x3
          replace hF := hF.trans (congrArg (dv_k f_X12_ragMany_4b) (dv_bn (dv_add_e (Eq.refl _) (Eq.refl _) ex3)))
          refine lv_istore_n (lv' := [(1, .int x3), (0, .ref a0), (2, .int j4_2)]) hx hb gX12_ragMany_2.2.1 rfl hl (by decide) rfl (fun ls hl => ?_)
          refine tr_iinc (fun x4 => [(2, .int x4), (1, .int x3), (0, .ref a0)]) hx hb gX12_ragMany_2.2.2.1 hl (k := 2) rfl (Eq.refl _) tk_1 (by omega) (by omega) (by decide) (fun _ => rfl) (fun x4 ls ex4 hl => ?_)
          replace hF := hF.trans (congrArg (dv_k f_X12_ragMany_4b) (dv_bn (ex4.symm)))
          refine lv_goto (tgt := 4) hx hb gX12_ragMany_2.2.2.2.1 (by decide) ?_
          replace hF := hF.trans (dv_kl)
          exact ih4 locs ls x3 x4 hB (lv_sub hl [2, 1, 0] rfl) hF (by omega) (by omega) (by omega)
        refine tr_if_eq (tgt := 25) hx hb gX12_ragMany_1.2.2.2.2.1 (by decide) (Eq.refl _) (fun c18 => ?_) (fun c18 => ?_)
        · replace hF := hF.trans (congrArg (dv_k f_X12_ragMany_4b) (if_pos c18))
          refine lv_iconst (v := 1) hx hb gX12_ragMany_1.2.2.2.2.2.2.2 (by decide) ?_
          exact jn26 locs ls 1 hB (lv_sub hl [0, 2] rfl) (by rw [tk_1]; exact hF) (by decide) (by decide)
        · replace hF := hF.trans (congrArg (dv_k f_X12_ragMany_4b) (if_neg c18))
          refine lv_iconst (v := 0) hx hb gX12_ragMany_1.2.2.2.2.2.1 (by decide) ?_
          refine lv_goto (tgt := 26) hx hb gX12_ragMany_1.2.2.2.2.2.2.1 (by decide) ?_
          exact jn26 locs ls 0 hB (lv_sub hl [0, 2] rfl) (by rw [tk_0]; exact hF) (by decide) (by decide)
  exact lp4 ((2147483648 : Int) - (0)).toNat [] ls 0 0 hB (lv_sub hl [2, 1, 0] rfl) (by rw [tk_0]; exact hF) (by decide) (by decide) (by have w0 := tk_0; omega)

set_option maxHeartbeats 4000000 in
set_option maxRecDepth 100000 in
theorem c_X12_fluff (l : Launch) (G : th_G) (Γ : th_Ga) (H0 : Heap) (hI : th_I G Γ H0) (hU : dv_U Γ) (a0 : Nat) (h0 : Γ a0 = (46, 0)) : Met l yX12_fluff (.code yX12_fluff cX12_fluff 1 (some FieldType.int) :: th_tb) ({ frames := 0, cells := 0, slots := 0, locals := 0 } : Room) (th_P [.ref a0] G H0) (th_Q (fun (v : Option Value) (H1 : Heap) => ∃ r : Int32, v = some (.int r) ∧ (f_X12_fluff (dv G Γ H0) (a0 : Int) = (r.toInt, ())) ∧ H0 = H1) G) 0 0 (fun q => G.1.2.2 ≤ q) := by
  refine th_met RX12 (by decide) rfl (Nat.le_of_ble_eq_true rfl) ?_
  intro p e s m below meth c hC hH hr hlocks hnm ls hl
  have hx := hC.1
  have hb := hC.2.1
  have hB : th_B G Γ Γ [] H0 H0 [] := ⟨hI, va_S.rf, th_F_rf⟩
  have hl : lv_has ls 1 [(0, .ref a0)] := hl
  obtain ⟨F, hF0⟩ : ∃ F, F = f_X12_fluff (dv G Γ H0) ((a0 : Int)) := ⟨_, rfl⟩
  have hF := hF0.trans (f_X12_fluff.eq_1 (dv G Γ H0) ((a0 : Int)))
  refine lv_aload_n hx hb gX12_fluff_0.1 rfl (lv_at hl 0 rfl) ?_
  refine th_getI (j := 6) hC cf_X12 hB.1 h0 ro_46 rfl rfl kf_X12_172 gX12_fluff_0.2.1 (fun x1 mx1 lx1 ux1 => ?_)
  replace hF := hF.trans (dv_bn (dv_getI h0 ro_46 (j := 6) rfl mx1 (by decide)))
  exact th_iret hC hH hr hlocks rfl hB.2.1 ⟨_, rfl, (hF0.symm.trans hF), rfl⟩ gX12_fluff_0.2.2

set_option maxHeartbeats 4000000 in
set_option maxRecDepth 100000 in
theorem c_X12_fault (l : Launch) (G : th_G) (Γ : th_Ga) (H0 : Heap) (hI : th_I G Γ H0) (hU : dv_U Γ) (a0 : Nat) (h0 : Γ a0 = (46, 0)) : Met l yX12_fault (.code yX12_fault cX12_fault 1 (some FieldType.int) :: th_tb) ({ frames := 0, cells := 0, slots := 0, locals := 0 } : Room) (th_P [.ref a0] G H0) (th_Q (fun (v : Option Value) (H1 : Heap) => ∃ r : Int32, v = some (.int r) ∧ (f_X12_fault (dv G Γ H0) (a0 : Int) = (r.toInt, ())) ∧ H0 = H1) G) 0 0 (fun q => G.1.2.2 ≤ q) := by
  refine th_met RX12 (by decide) rfl (Nat.le_of_ble_eq_true rfl) ?_
  intro p e s m below meth c hC hH hr hlocks hnm ls hl
  have hx := hC.1
  have hb := hC.2.1
  have hB : th_B G Γ Γ [] H0 H0 [] := ⟨hI, va_S.rf, th_F_rf⟩
  have hl : lv_has ls 1 [(0, .ref a0)] := hl
  obtain ⟨F, hF0⟩ : ∃ F, F = f_X12_fault (dv G Γ H0) ((a0 : Int)) := ⟨_, rfl⟩
  have hF := hF0.trans (f_X12_fault.eq_1 (dv G Γ H0) ((a0 : Int)))
  refine lv_aload_n hx hb gX12_fault_0.1 rfl (lv_at hl 0 rfl) ?_
  refine th_getI (j := 14) hC cf_X12 hB.1 h0 ro_46 rfl rfl kf_X12_51 gX12_fault_0.2.1 (fun x1 mx1 lx1 ux1 => ?_)
  replace hF := hF.trans (dv_bn (dv_getI h0 ro_46 (j := 14) rfl mx1 (by decide)))
  exact th_iret hC hH hr hlocks rfl hB.2.1 ⟨_, rfl, (hF0.symm.trans hF), rfl⟩ gX12_fault_0.2.2

set_option maxHeartbeats 4000000 in
set_option maxRecDepth 100000 in
theorem c_X12_stopped (l : Launch) (G : th_G) (Γ : th_Ga) (H0 : Heap) (hI : th_I G Γ H0) (hU : dv_U Γ) (a0 : Nat) (h0 : Γ a0 = (46, 0)) : Met l yX12_stopped (.code yX12_stopped cX12_stopped 1 (some FieldType.int) :: th_tb) ({ frames := 0, cells := 0, slots := 0, locals := 0 } : Room) (th_P [.ref a0] G H0) (th_Q (fun (v : Option Value) (H1 : Heap) => ∃ r : Int32, v = some (.int r) ∧ (f_X12_stopped (dv G Γ H0) (a0 : Int) = (r.toInt, ())) ∧ H0 = H1) G) 0 0 (fun q => G.1.2.2 ≤ q) := by
  refine th_met RX12 (by decide) rfl (Nat.le_of_ble_eq_true rfl) ?_
  intro p e s m below meth c hC hH hr hlocks hnm ls hl
  have hx := hC.1
  have hb := hC.2.1
  have hB : th_B G Γ Γ [] H0 H0 [] := ⟨hI, va_S.rf, th_F_rf⟩
  have hl : lv_has ls 1 [(0, .ref a0)] := hl
  obtain ⟨F, hF0⟩ : ∃ F, F = f_X12_stopped (dv G Γ H0) ((a0 : Int)) := ⟨_, rfl⟩
  have hF := hF0.trans (f_X12_stopped.eq_1 (dv G Γ H0) ((a0 : Int)))
  refine lv_aload_n hx hb gX12_stopped_0.1 rfl (lv_at hl 0 rfl) ?_
  refine th_getI (j := 47) hC cf_X12 hB.1 h0 ro_46 rfl rfl kf_X12_97 gX12_stopped_0.2.1 (fun x1 mx1 lx1 ux1 => ?_)
  replace hF := hF.trans (dv_bn (dv_getI h0 ro_46 (j := 47) rfl mx1 (by decide)))
  exact th_iret hC hH hr hlocks rfl hB.2.1 ⟨_, rfl, (hF0.symm.trans hF), rfl⟩ gX12_stopped_0.2.2

set_option maxHeartbeats 4000000 in
set_option maxRecDepth 100000 in
theorem c_X12_status (l : Launch) (G : th_G) (Γ : th_Ga) (H0 : Heap) (hI : th_I G Γ H0) (hU : dv_U Γ) (a0 : Nat) (h0 : Γ a0 = (46, 0)) : Met l yX12_status (.code yX12_status cX12_status 1 (some FieldType.int) :: th_tb) ({ frames := 0, cells := 0, slots := 0, locals := 0 } : Room) (th_P [.ref a0] G H0) (th_Q (fun (v : Option Value) (H1 : Heap) => ∃ r : Int32, v = some (.int r) ∧ (f_X12_status (dv G Γ H0) (a0 : Int) = (r.toInt, ())) ∧ H0 = H1) G) 0 0 (fun q => G.1.2.2 ≤ q) := by
  refine th_met RX12 (by decide) rfl (Nat.le_of_ble_eq_true rfl) ?_
  intro p e s m below meth c hC hH hr hlocks hnm ls hl
  have hx := hC.1
  have hb := hC.2.1
  have hB : th_B G Γ Γ [] H0 H0 [] := ⟨hI, va_S.rf, th_F_rf⟩
  have hl : lv_has ls 1 [(0, .ref a0)] := hl
  obtain ⟨F, hF0⟩ : ∃ F, F = f_X12_status (dv G Γ H0) ((a0 : Int)) := ⟨_, rfl⟩
  have hF := hF0.trans (f_X12_status.eq_1 (dv G Γ H0) ((a0 : Int)))
  refine lv_aload_n hx hb gX12_status_0.1 rfl (lv_at hl 0 rfl) ?_
  refine th_getI (j := 0) hC cf_X12 hB.1 h0 ro_46 rfl rfl kf_X12_3 gX12_status_0.2.1 (fun x1 mx1 lx1 ux1 => ?_)
  replace hF := hF.trans (dv_bn (dv_getI h0 ro_46 (j := 0) rfl mx1 (by decide)))
  exact th_iret hC hH hr hlocks rfl hB.2.1 ⟨_, rfl, (hF0.symm.trans hF), rfl⟩ gX12_status_0.2.2

set_option maxHeartbeats 4000000 in
set_option maxRecDepth 100000 in
theorem c_X12_fine (l : Launch) (G : th_G) (Γ : th_Ga) (H0 : Heap) (hI : th_I G Γ H0) (hU : dv_U Γ) (a0 : Nat) (h0 : Γ a0 = (46, 0)) : Met l yX12_fine (.code yX12_fine cX12_fine 1 (some FieldType.boolean) :: th_tb) ({ frames := 0, cells := 0, slots := 0, locals := 0 } : Room) (th_P [.ref a0] G H0) (th_Q (fun (v : Option Value) (H1 : Heap) => ∃ r : Int32, v = some (.int r) ∧ 0 ≤ r.toInt ∧ r.toInt ≤ 1 ∧ (r.toInt = 1 → mo_f G H0 a0 21 = -1) ∧ (r.toInt = 0 → mo_f G H0 a0 21 ≠ -1) ∧ (f_X12_fine (dv G Γ H0) (a0 : Int) = (r.toInt, ())) ∧ H0 = H1) G) 0 0 (fun q => G.1.2.2 ≤ q) := by
  refine th_met RX12 (by decide) rfl (Nat.le_of_ble_eq_true rfl) ?_
  intro p e s m below meth c hC hH hr hlocks hnm ls hl
  have hx := hC.1
  have hb := hC.2.1
  have hB : th_B G Γ Γ [] H0 H0 [] := ⟨hI, va_S.rf, th_F_rf⟩
  have hl : lv_has ls 1 [(0, .ref a0)] := hl
  obtain ⟨F, hF0⟩ : ∃ F, F = f_X12_fine (dv G Γ H0) ((a0 : Int)) := ⟨_, rfl⟩
  have hF := hF0.trans (f_X12_fine.eq_1 (dv G Γ H0) ((a0 : Int)))
  refine lv_aload_n hx hb gX12_fine_0.1 rfl (lv_at hl 0 rfl) ?_
  refine th_getI (j := 21) hC cf_X12 hB.1 h0 ro_46 rfl rfl kf_X12_189 gX12_fine_0.2.1 (fun x1 mx1 lx1 ux1 => ?_)
  replace hF := hF.trans (dv_bn (dv_getI h0 ro_46 (j := 21) rfl mx1 (by decide)))
  have fg2 : mo_f G H0 a0 21 = x1.toInt := mo_fat mx1
  refine lv_iconst (v := (-1)) hx hb gX12_fine_0.2.2.1 (by decide) ?_
  refine tr_icmp_ne (tgt := 12) hx hb gX12_fine_0.2.2.2.1 (by decide) (Eq.refl _) tk_m1 (fun c5 => ?_) (fun c5 => ?_)
  · replace hF := hF.trans (if_pos c5)
    refine lv_iconst (v := 0) hx hb gX12_fine_0.2.2.2.2.2.2.1 (by decide) ?_
    exact th_iret hC hH hr hlocks narrow_b0 hB.2.1 ⟨_, rfl, by decide, by decide, by first | (intro h9; exact absurd h9 (by decide)) | (have w9 := tk_0; intros; omega), by first | (intro h9; exact absurd h9 (by decide)) | (have w9 := tk_0; intros; omega), (hF0.symm.trans (hF.trans (by rw [tk_0]))), rfl⟩ gX12_fine_0.2.2.2.2.2.2.2
  · replace hF := hF.trans (if_neg (not_not_intro c5))
    refine lv_iconst (v := 1) hx hb gX12_fine_0.2.2.2.2.1 (by decide) ?_
    refine lv_goto (tgt := 13) hx hb gX12_fine_0.2.2.2.2.2.1 (by decide) ?_
    exact th_iret hC hH hr hlocks narrow_b1 hB.2.1 ⟨_, rfl, by decide, by decide, by first | (intro h9; exact absurd h9 (by decide)) | (have w9 := tk_1; intros; omega), by first | (intro h9; exact absurd h9 (by decide)) | (have w9 := tk_1; intros; omega), (hF0.symm.trans (hF.trans (by rw [tk_1]))), rfl⟩ gX12_fine_0.2.2.2.2.2.2.2

set_option maxHeartbeats 4000000 in
set_option maxRecDepth 100000 in
theorem c_X12_drawn (l : Launch) (G : th_G) (Γ : th_Ga) (H0 : Heap) (hI : th_I G Γ H0) (hU : dv_U Γ) (a0 : Nat) (h0 : Γ a0 = (46, 0)) (p1 : Int32) (p2 : Int32) : Met l yX12_drawn (.code yX12_drawn cX12_drawn 3 (some FieldType.int) :: th_tb) ({ frames := 1, cells := 0, slots := 0, locals := 22 } : Room) (th_P [.ref a0, .int p1, .int p2] G H0) (th_Q (fun (v : Option Value) (H1 : Heap) => ∃ r : Int32, v = some (.int r) ∧ (f_X12_drawn (dv G Γ H0) (a0 : Int) p1.toInt p2.toInt = (r.toInt, ())) ∧ H0 = H1) G) 0 0 (fun q => G.1.2.2 ≤ q) := by
  refine th_met RX12 (by decide) rfl (Nat.le_of_ble_eq_true rfl) ?_
  intro p e s m below meth c hC hH hr hlocks hnm ls hl
  have hx := hC.1
  have hb := hC.2.1
  have hB : th_B G Γ Γ [] H0 H0 [] := ⟨hI, va_S.rf, th_F_rf⟩
  have hl : lv_has ls 3 [(0, .ref a0), (1, .int p1), (2, .int p2)] := hl
  have lp1 := ti_lo p1; have up1 := ti_hi p1
  have lp2 := ti_lo p2; have up2 := ti_hi p2
  obtain ⟨F, hF0⟩ : ∃ F, F = f_X12_drawn (dv G Γ H0) ((a0 : Int)) (p1.toInt) (p2.toInt) := ⟨_, rfl⟩
  have hF := hF0.trans (f_X12_drawn.eq_1 (dv G Γ H0) ((a0 : Int)) (p1.toInt) (p2.toInt))
  refine lv_iload_n hx hb gX12_drawn_0.1 rfl (lv_at hl 1 rfl) ?_
  refine lv_iconst (v := 0) hx hb gX12_drawn_0.2.1 (by decide) ?_
  refine lv_aload_n hx hb gX12_drawn_0.2.2.1 rfl (lv_at hl 0 rfl) ?_
  refine th_getI (j := 55) hC cf_X12 hB.1 h0 ro_46 rfl rfl kf_X12_106 gX12_drawn_0.2.2.2.1 (fun x1 mx1 lx1 ux1 => ?_)
  replace hF := hF.trans (dv_bn (dv_getI h0 ro_46 (j := 55) rfl mx1 (by decide)))
  refine lv_iconst (v := 1) hx hb gX12_drawn_0.2.2.2.2.1 (by decide) ?_
  refine tr_isub hx hb gX12_drawn_0.2.2.2.2.2.1 (Eq.refl _) tk_1 (by omega) (by omega) (fun x2 ex2 => ?_)
  replace hF := hF.trans (dv_bn (ex2.symm))
  refine th_call (th_runS (As := [.int p1, .int 0, .int x2]) (rest := []) hC mf_X12_lies km_X12_18 st_X12_lies (c_X12_lies l G Γ H0 hB.1 hU p1 0 x2) rfl rfl ⟨Nat.le_of_ble_eq_true rfl, Nat.le_of_ble_eq_true rfl⟩ rfl hl.1 rfl (Nat.le_of_ble_eq_true rfl) gX12_drawn_0.2.2.2.2.2.2.1 ⟨Nat.le_refl _, Nat.le_refl _⟩) hB.2.1 (fun v8 H8 locs hp hz hS => ?_)
  obtain ⟨x3, rfl, lx3, ux3, q8_0, q8_1, q8_2, rfl⟩ := hp
  have hB := th_B_s hB hS
  have w8_1 := tk_0
  have zf8 := q8_2
  rw [tk_0] at zf8
  replace hF := hF.trans (dv_bn2 (zf8))
  refine W.eq (g2 := F0 m 11 ls [.int x3]) rfl ?_
  refine tr_if_eq (tgt := 23) hx hb gX12_drawn_0.2.2.2.2.2.2.2 (by decide) (Eq.refl _) (fun c11 => ?_) (fun c11 => ?_)
  · replace hF := hF.trans (if_pos c11)
    refine lv_iconst (v := (-1)) hx hb gX12_drawn_1.2.2.2.2.2.1 (by decide) ?_
    exact th_iret hC hH hr hlocks rfl hB.2.1 ⟨_, rfl, (hF0.symm.trans (hF.trans (by rw [tk_m1]))), rfl⟩ gX12_drawn_1.2.2.2.2.2.2.1
  · replace hF := hF.trans (if_neg c11)
    refine lv_iload_n hx hb gX12_drawn_1.1 rfl (lv_at hl 2 rfl) ?_
    refine lv_iconst (v := 0) hx hb gX12_drawn_1.2.1 (by decide) ?_
    refine lv_iconst (v := 2) hx hb gX12_drawn_1.2.2.1 (by decide) ?_
    refine th_call (th_runS (As := [.int p2, .int 0, .int 2]) (rest := []) hC mf_X12_lies km_X12_18 st_X12_lies (c_X12_lies l G Γ H0 hB.1 hU p2 0 2) rfl rfl ⟨Nat.le_of_ble_eq_true rfl, Nat.le_of_ble_eq_true rfl⟩ rfl hl.1 rfl (Nat.le_of_ble_eq_true rfl) gX12_drawn_1.2.2.2.1 ⟨Nat.le_refl _, Nat.le_refl _⟩) hB.2.1 (fun v17 H17 locs hp hz hS => ?_)
    obtain ⟨x4, rfl, lx4, ux4, q17_0, q17_1, q17_2, rfl⟩ := hp
    have hB := th_B_s hB hS
    have w17_1 := tk_0
    have w17_2 := tk_2
    have zf17 := q17_2
    rw [tk_0, tk_2] at zf17
    replace hF := hF.trans (dv_bn2 (zf17))
    refine W.eq (g2 := F0 m 20 ls [.int x4]) rfl ?_
    refine tr_if_ne (tgt := 25) hx hb gX12_drawn_1.2.2.2.2.1 (by decide) (Eq.refl _) (fun c20 => ?_) (fun c20 => ?_)
    · replace hF := hF.trans (if_pos c20)
      refine lv_aload_n hx hb gX12_drawn_1.2.2.2.2.2.2.2 rfl (lv_at hl 0 rfl) ?_
      refine th_getO (j := 54) (r2 := 70) hC cf_X12 hB.1 h0 ro_46 rfl rfl kf_X12_103 gX12_drawn_2.1 (fun b5 mb5 hb5 => ?_)
      refine lv_iload_n hx hb gX12_drawn_2.2.1 rfl (lv_at hl 2 rfl) ?_
      refine tr_if_ne (tgt := 37) hx hb gX12_drawn_2.2.2.1 (by decide) (Eq.refl _) (fun c30 => ?_) (fun c30 => ?_)
      · replace hF := hF.trans (if_pos c30)
        refine lv_iload_n hx hb gX12_drawn_2.2.2.2.2.2.1 rfl (lv_at hl 2 rfl) ?_
        refine lv_iconst (v := 1) hx hb gX12_drawn_2.2.2.2.2.2.2.1 (by decide) ?_
        refine tr_icmp_ne (tgt := 47) hx hb gX12_drawn_2.2.2.2.2.2.2.2 (by decide) (Eq.refl _) tk_1 (fun c39 => ?_) (fun c39 => ?_)
        · replace hF := hF.trans (if_pos c39)
          refine lv_bipush (v := 18) hx hb gX12_drawn_3.2.2.1 (by decide) ?_
          refine lv_iload_n hx hb gX12_drawn_3.2.2.2.1 rfl (lv_at hl 1 rfl) ?_
          refine tr_iadd hx hb gX12_drawn_3.2.2.2.2.1 tk_18 (Eq.refl _) (by omega) (by omega) (fun x6 ex6 => ?_)
          replace hF := hF.trans (dv_bn (ex6.symm))
          refine th_ialdF hC hB.1 hb5 ro_70 rfl (Eq.refl _) (by omega) (by omega) rfl gX12_drawn_3.2.2.2.2.2.1 (fun x7 mx7 lx7 ux7 => ?_)
          replace hF := hF.trans (dv_bn (dv_aldI hB.1 hU hb5 ow_70 (z := x6.toInt) mx7 (by omega)))
          exact th_iret hC hH hr hlocks rfl hB.2.1 ⟨_, rfl, (hF0.symm.trans hF), rfl⟩ gX12_drawn_3.2.2.2.2.2.2
        · replace hF := hF.trans (if_neg (not_not_intro c39))
          refine lv_bipush (v := 9) hx hb gX12_drawn_3.1 (by decide) ?_
          refine lv_goto (tgt := 49) hx hb gX12_drawn_3.2.1 (by decide) ?_
          refine lv_iload_n hx hb gX12_drawn_3.2.2.2.1 rfl (lv_at hl 1 rfl) ?_
          refine tr_iadd hx hb gX12_drawn_3.2.2.2.2.1 tk_9 (Eq.refl _) (by omega) (by omega) (fun x8 ex8 => ?_)
          replace hF := hF.trans (dv_bn (ex8.symm))
          refine th_ialdF hC hB.1 hb5 ro_70 rfl (Eq.refl _) (by omega) (by omega) rfl gX12_drawn_3.2.2.2.2.2.1 (fun x9 mx9 lx9 ux9 => ?_)
          replace hF := hF.trans (dv_bn (dv_aldI hB.1 hU hb5 ow_70 (z := x8.toInt) mx9 (by omega)))
          exact th_iret hC hH hr hlocks rfl hB.2.1 ⟨_, rfl, (hF0.symm.trans hF), rfl⟩ gX12_drawn_3.2.2.2.2.2.2
      · replace hF := hF.trans (if_neg (not_not_intro c30))
        refine lv_iconst (v := 0) hx hb gX12_drawn_2.2.2.2.1 (by decide) ?_
        refine lv_goto (tgt := 49) hx hb gX12_drawn_2.2.2.2.2.1 (by decide) ?_
        refine lv_iload_n hx hb gX12_drawn_3.2.2.2.1 rfl (lv_at hl 1 rfl) ?_
        refine tr_iadd hx hb gX12_drawn_3.2.2.2.2.1 tk_0 (Eq.refl _) (by omega) (by omega) (fun x10 ex10 => ?_)
        replace hF := hF.trans (dv_bn (ex10.symm))
        refine th_ialdF hC hB.1 hb5 ro_70 rfl (Eq.refl _) (by omega) (by omega) rfl gX12_drawn_3.2.2.2.2.2.1 (fun x11 mx11 lx11 ux11 => ?_)
        replace hF := hF.trans (dv_bn (dv_aldI hB.1 hU hb5 ow_70 (z := x10.toInt) mx11 (by omega)))
        exact th_iret hC hH hr hlocks rfl hB.2.1 ⟨_, rfl, (hF0.symm.trans hF), rfl⟩ gX12_drawn_3.2.2.2.2.2.2
    · replace hF := hF.trans (if_neg (not_not_intro c20))
      refine lv_iconst (v := (-1)) hx hb gX12_drawn_1.2.2.2.2.2.1 (by decide) ?_
      exact th_iret hC hH hr hlocks rfl hB.2.1 ⟨_, rfl, (hF0.symm.trans (hF.trans (by rw [tk_m1]))), rfl⟩ gX12_drawn_1.2.2.2.2.2.2.1

set_option maxHeartbeats 4000000 in
set_option maxRecDepth 100000 in
theorem c_X12_bareMany (l : Launch) (G : th_G) (Γ : th_Ga) (H0 : Heap) (hI : th_I G Γ H0) (hU : dv_U Γ) (a0 : Nat) (h0 : Γ a0 = (46, 0)) : Met l yX12_bareMany (.code yX12_bareMany cX12_bareMany 3 (some FieldType.int) :: th_tb) ({ frames := 1, cells := 0, slots := 0, locals := 21 } : Room) (th_P [.ref a0] G H0) (th_Q (fun (v : Option Value) (H1 : Heap) => ∃ r : Int32, v = some (.int r) ∧ (-1296) ≤ r.toInt ∧ r.toInt ≤ 144 ∧ (r.toInt = mo_v G H0 a0 2 67 * mo_v G H0 a0 2 68 - mo_ss (mo_v G H0 a0 2) (mo_v G H0 a0 2 69).toNat) ∧ (f_X12_bareMany (dv G Γ H0) (a0 : Int) = (r.toInt, ())) ∧ H0 = H1) G) 0 0 (fun q => G.1.2.2 ≤ q) := by
  refine th_met RX12 (by decide) rfl (Nat.le_of_ble_eq_true rfl) ?_
  intro p e s m below meth c hC hH hr hlocks hnm ls hl
  have hx := hC.1
  have hb := hC.2.1
  have hB : th_B G Γ Γ [] H0 H0 [] := ⟨hI, va_S.rf, th_F_rf⟩
  have hl : lv_has ls 3 [(0, .ref a0)] := hl
  obtain ⟨F, hF0⟩ : ∃ F, F = f_X12_bareMany (dv G Γ H0) ((a0 : Int)) := ⟨_, rfl⟩
  have hF := hF0.trans (f_X12_bareMany.eq_1 (dv G Γ H0) ((a0 : Int)))
  refine lv_aload_n hx hb gX12_bareMany_0.1 rfl (lv_at hl 0 rfl) ?_
  refine th_getO (j := 2) (r2 := 48) hC cf_X12 hB.1 h0 ro_46 rfl rfl kf_X12_28 gX12_bareMany_0.2.1 (fun b1 mb1 hb1 => ?_)
  refine lv_bipush (v := 67) hx hb gX12_bareMany_0.2.2.1 (by decide) ?_
  refine th_ialdF hC hB.1 hb1 ro_48 rfl tk_67 (by omega) (by omega) (ek_hall (by omega) (by omega)) gX12_bareMany_0.2.2.2.1 (fun x2 mx2 lx2 ux2 => ?_)
  replace hF := hF.trans (dv_bn (dv_aldI hB.1 hU hb1 ow_48 (z := 67) mx2 (by omega)))
  have vgx2 : mo_v G H0 a0 2 67 = x2.toInt := by rw [show (67 : Int) = 67 by omega]; exact mo_vat mb1 mx2 (by omega)
  refine lv_aload_n hx hb gX12_bareMany_0.2.2.2.2.1 rfl (lv_at hl 0 rfl) ?_
  refine th_getK hC cf_X12 hB.1 h0 ro_46 rfl (j := 2) (by decide) mb1 kf_X12_28 gX12_bareMany_0.2.2.2.2.2.1 ?_
  refine lv_bipush (v := 68) hx hb gX12_bareMany_0.2.2.2.2.2.2.1 (by decide) ?_
  refine th_ialdF hC hB.1 hb1 ro_48 rfl tk_68 (by omega) (by omega) (ek_hall (by omega) (by omega)) gX12_bareMany_0.2.2.2.2.2.2.2 (fun x3 mx3 lx3 ux3 => ?_)
  replace hF := hF.trans (dv_bn (dv_aldI hB.1 hU hb1 ow_48 (z := 68) mx3 (by omega)))
  have vgx3 : mo_v G H0 a0 2 68 = x3.toInt := by rw [show (68 : Int) = 68 by omega]; exact mo_vat mb1 mx3 (by omega)
  have q5 := ti_mulr (a := x2.toInt) (b := x3.toInt) (A := 12) (B := 12) (by omega) (by omega) (by omega) (by omega)
  generalize hex4 : x2.toInt * x3.toInt = wx4 at q5
  refine tr_imul hx hb gX12_bareMany_1.1 (Eq.refl _) (Eq.refl _) (by rw [hex4]; omega) (by rw [hex4]; omega) (fun x4 ex4 => ?_)
  rw [hex4] at ex4
  replace hF := hF.trans (dv_bn (hex4.trans ex4.symm))
  have eWH : mo_v G H0 a0 2 67 * mo_v G H0 a0 2 68 = wx4 := by rw [vgx2, vgx3]; exact hex4
  refine lv_istore_n (lv' := [(1, .int x4), (0, .ref a0)]) hx hb gX12_bareMany_1.2.1 rfl hl (by decide) rfl (fun ls hl => ?_)
  refine lv_iconst (v := 0) hx hb gX12_bareMany_1.2.2.1 (by decide) ?_
  refine lv_istore_n (lv' := [(2, .int 0), (1, .int x4), (0, .ref a0)]) hx hb gX12_bareMany_1.2.2.2.1 rfl hl (by decide) rfl (fun ls hl => ?_)
  have r69 := mo_many hI h0
  have lp18 : ∀ (n18 : Nat) (locs : List Loc) (ls : Array Slot) (j18_1 : Int32) (j18_2 : Int32), th_B G Γ Γ [] H0 H0 locs → lv_has ls 3 [(0, .ref a0), (1, .int j18_1), (2, .int j18_2)] → F = dv_lp f_X12_bareMany_18b (dv G Γ H0, (a0 : Int), j18_1.toInt, j18_2.toInt) → (-1296) ≤ j18_1.toInt → j18_1.toInt ≤ 144 → 0 ≤ j18_2.toInt → j18_2.toInt ≤ 9 → j18_1.toInt = mo_v G H0 a0 2 67 * mo_v G H0 a0 2 68 - mo_ss (mo_v G H0 a0 2) (j18_2.toInt).toNat → j18_2.toInt ≤ mo_v G H0 a0 2 69 → (2147483648 : Int) - j18_2.toInt ≤ (n18 : Int) → W p l e ({ frames := 1, cells := 0, slots := 0, locals := 21 } : Room) s m ([.ref a0] : List Value).toArray below meth c H0 locs 0 0 (MQ below (th_Q (fun (v : Option Value) (H1 : Heap) => ∃ r : Int32, v = some (.int r) ∧ (-1296) ≤ r.toInt ∧ r.toInt ≤ 144 ∧ (r.toInt = mo_v G H0 a0 2 67 * mo_v G H0 a0 2 68 - mo_ss (mo_v G H0 a0 2) (mo_v G H0 a0 2 69).toNat) ∧ (f_X12_bareMany (dv G Γ H0) (a0 : Int) = (r.toInt, ())) ∧ H0 = H1) G) ([.ref a0] : List Value).toArray s 0 0 (fun q => G.1.2.2 ≤ q)) (F0 m 18 ls []) := by
    intro n18
    induction n18 with
    | zero => intro locs ls j18_1 j18_2 hB hl hF g18_0 g18_1 g18_2 g18_3 g18_4 g18_5 hm18; exact absurd hm18 (by have := ti_hi j18_2; omega)
    | succ n18 ih18 =>
      intro locs ls j18_1 j18_2 hB hl hF g18_0 g18_1 g18_2 g18_3 g18_4 g18_5 hm18
      have lj18_1 := ti_lo j18_1; have uj18_1 := ti_hi j18_1
      have lj18_2 := ti_lo j18_2; have uj18_2 := ti_hi j18_2
      have hm18 : (2147483648 : Int) - j18_2.toInt ≤ (n18 : Int) + 1 := by omega
      replace hF := hF.trans (dv_lp_eq)
      replace hF := hF.trans (congrArg (dv_k f_X12_bareMany_18b) (f_X12_bareMany_18c.eq_1 (dv G Γ H0) ((a0 : Int)) (j18_1.toInt) (j18_2.toInt)))
      refine lv_iload_n hx hb gX12_bareMany_1.2.2.2.2.1 rfl (lv_at hl 2 rfl) ?_
      refine lv_aload_n hx hb gX12_bareMany_1.2.2.2.2.2.1 rfl (lv_at hl 0 rfl) ?_
      refine th_call (th_runV (As := []) (rest := [.int j18_2]) hC mf_X12_many km_X12_115 im_X12_many se_X12_many (c_X12_many l G Γ H0 hB.1 hU a0 h0) rfl rfl ⟨Nat.le_of_ble_eq_true rfl, Nat.le_of_ble_eq_true rfl⟩ hB.1 h0 ro_46 rfl rfl hl.1 rfl (Nat.le_of_ble_eq_true rfl) gX12_bareMany_1.2.2.2.2.2.2.1 ⟨Nat.le_refl _, Nat.le_refl _⟩) hB.2.1 (fun v20 H20 locs hp hz hS => ?_)
      obtain ⟨x6, rfl, lx6, ux6, q20_0, q20_1, rfl⟩ := hp
      have hB := th_B_s hB hS
      replace hF := hF.trans (congrArg (dv_k f_X12_bareMany_18b) (dv_bn2 (q20_1)))
      refine W.eq (g2 := F0 m 23 ls [.int x6, .int j18_2]) rfl ?_
      refine tr_icmp_ge (tgt := 66) hx hb gX12_bareMany_1.2.2.2.2.2.2.2 (by decide) (Eq.refl _) (Eq.refl _) (fun c23 => ?_) (fun c23 => ?_)
      · replace hF := hF.trans (congrArg (dv_k f_X12_bareMany_18b) (if_pos c23))
        refine lv_iload_n hx hb gX12_bareMany_5.1 rfl (lv_at hl 1 rfl) ?_
        replace hF := hF.trans (dv_kr)
        exact th_iret hC hH hr hlocks rfl hB.2.1 ⟨_, rfl, by omega, by omega, by rw [show mo_v G H0 a0 2 69 = j18_2.toInt by omega]; exact g18_4, (hF0.symm.trans hF), rfl⟩ gX12_bareMany_5.2
      · replace hF := hF.trans (congrArg (dv_k f_X12_bareMany_18b) (if_neg (Int.not_le.mpr c23)))
        refine lv_iload_n hx hb gX12_bareMany_2.1 rfl (lv_at hl 1 rfl) ?_
        refine lv_aload_n hx hb gX12_bareMany_2.2.1 rfl (lv_at hl 0 rfl) ?_
        refine lv_iload_n hx hb gX12_bareMany_2.2.2.1 rfl (lv_at hl 2 rfl) ?_
        refine th_call (th_runV (As := [.int j18_2]) (rest := [.int j18_1]) hC mf_X12_isLaid km_X12_137 im_X12_isLaid se_X12_isLaid (c_X12_isLaid l G Γ H0 hB.1 hU a0 h0 j18_2 (by omega) (by omega)) rfl rfl ⟨Nat.le_of_ble_eq_true rfl, Nat.le_of_ble_eq_true rfl⟩ hB.1 h0 ro_46 rfl rfl hl.1 rfl (Nat.le_of_ble_eq_true rfl) gX12_bareMany_2.2.2.2.1 ⟨Nat.le_refl _, Nat.le_refl _⟩) hB.2.1 (fun v29 H29 locs hp hz hS => ?_)
        obtain ⟨x7, rfl, lx7, ux7, q29_0, q29_1, q29_2, rfl⟩ := hp
        have hB := th_B_s hB hS
        replace hF := hF.trans (congrArg (dv_k f_X12_bareMany_18b) (dv_bn2 (q29_2)))
        refine W.eq (g2 := F0 m 32 ls [.int x7, .int j18_1]) rfl ?_
        refine tr_if_eq (tgt := 57) hx hb gX12_bareMany_2.2.2.2.2.1 (by decide) (Eq.refl _) (fun c32 => ?_) (fun c32 => ?_)
        · replace hF := hF.trans (congrArg (dv_k f_X12_bareMany_18b) (if_pos c32))
          refine lv_iconst (v := 0) hx hb gX12_bareMany_4.2.2.2.1 (by decide) ?_
          refine tr_isub hx hb gX12_bareMany_4.2.2.2.2.1 (Eq.refl _) tk_0 (by omega) (by omega) (fun x8 ex8 => ?_)
          replace hF := hF.trans (congrArg (dv_k f_X12_bareMany_18b) (dv_bn (ex8.symm)))
          refine lv_istore_n (lv' := [(1, .int x8), (0, .ref a0), (2, .int j18_2)]) hx hb gX12_bareMany_4.2.2.2.2.2.1 rfl hl (by decide) rfl (fun ls hl => ?_)
          refine tr_iinc (fun x9 => [(2, .int x9), (1, .int x8), (0, .ref a0)]) hx hb gX12_bareMany_4.2.2.2.2.2.2.1 hl (k := 2) rfl (Eq.refl _) tk_1 (by omega) (by omega) (by decide) (fun _ => rfl) (fun x9 ls ex9 hl => ?_)
          replace hF := hF.trans (congrArg (dv_k f_X12_bareMany_18b) (dv_bn (ex9.symm)))
          have sb9 := mo_ss_b hI h0 (n := (j18_2.toInt + 1).toNat) (by omega)
          have s09 := mo_ss_0 (k := mo_v G H0 a0 2) (j18_2.toInt + 1).toNat
          have ss9 := mo_ss_n (k := mo_v G H0 a0 2) (c := j18_2.toInt) (by omega) (q29_1 (by omega))
          refine lv_goto (tgt := 18) hx hb gX12_bareMany_4.2.2.2.2.2.2.2 (by decide) ?_
          replace hF := hF.trans (dv_kl)
          exact ih18 locs ls x8 x9 hB (lv_sub hl [2, 1, 0] rfl) hF (by omega) (by omega) (by omega) (by omega) (by rw [show x9.toInt = j18_2.toInt + 1 by omega]; omega) (by omega) (by omega)
        · replace hF := hF.trans (congrArg (dv_k f_X12_bareMany_18b) (if_neg c32))
          refine lv_aload_n hx hb gX12_bareMany_2.2.2.2.2.2.1 rfl (lv_at hl 0 rfl) ?_
          refine th_getK hC cf_X12 hB.1 h0 ro_46 rfl (j := 2) (by decide) mb1 kf_X12_28 gX12_bareMany_2.2.2.2.2.2.2.1 ?_
          refine lv_bipush (v := 29) hx hb gX12_bareMany_2.2.2.2.2.2.2.2 (by decide) ?_
          refine lv_iload_n hx hb gX12_bareMany_3.1 rfl (lv_at hl 2 rfl) ?_
          refine tr_iadd hx hb gX12_bareMany_3.2.1 tk_29 (Eq.refl _) (by omega) (by omega) (fun x10 ex10 => ?_)
          replace hF := hF.trans (congrArg (dv_k f_X12_bareMany_18b) (dv_bn (ex10.symm)))
          refine th_ialdF hC hB.1 hb1 ro_48 rfl (Eq.refl _) (by omega) (by omega) (ek_side (by omega) (by omega)) gX12_bareMany_3.2.2.1 (fun x11 mx11 lx11 ux11 => ?_)
          replace hF := hF.trans (congrArg (dv_k f_X12_bareMany_18b) (dv_bn (dv_aldI hB.1 hU hb1 ow_48 (z := x10.toInt) mx11 (by omega))))
          have vgx11 : mo_v G H0 a0 2 (29 + j18_2.toInt) = x11.toInt := by rw [show ((29 + j18_2.toInt) : Int) = x10.toInt by omega]; exact mo_vat mb1 mx11 (by omega)
          refine lv_aload_n hx hb gX12_bareMany_3.2.2.2.1 rfl (lv_at hl 0 rfl) ?_
          refine th_getK hC cf_X12 hB.1 h0 ro_46 rfl (j := 2) (by decide) mb1 kf_X12_28 gX12_bareMany_3.2.2.2.2.1 ?_
          refine lv_bipush (v := 29) hx hb gX12_bareMany_3.2.2.2.2.2.1 (by decide) ?_
          refine lv_iload_n hx hb gX12_bareMany_3.2.2.2.2.2.2.1 rfl (lv_at hl 2 rfl) ?_
          refine tr_iadd hx hb gX12_bareMany_3.2.2.2.2.2.2.2 tk_29 (Eq.refl _) (by omega) (by omega) (fun x12 ex12 => ?_)
          replace hF := hF.trans (congrArg (dv_k f_X12_bareMany_18b) (dv_bn (ex12.symm)))
          refine th_ialdF hC hB.1 hb1 ro_48 rfl (Eq.refl _) (by omega) (by omega) (ek_side (by omega) (by omega)) gX12_bareMany_4.1 (fun x13 mx13 lx13 ux13 => ?_)
          replace hF := hF.trans (congrArg (dv_k f_X12_bareMany_18b) (dv_bn (dv_aldI hB.1 hU hb1 ow_48 (z := x12.toInt) mx13 (by omega))))
          have vgx13 : mo_v G H0 a0 2 (29 + j18_2.toInt) = x13.toInt := by rw [show ((29 + j18_2.toInt) : Int) = x12.toInt by omega]; exact mo_vat mb1 mx13 (by omega)
          have q15 := ti_mulr (a := x11.toInt) (b := x13.toInt) (A := 12) (B := 12) (by omega) (by omega) (by omega) (by omega)
          generalize hex14 : x11.toInt * x13.toInt = wx14 at q15
          refine tr_imul hx hb gX12_bareMany_4.2.1 (Eq.refl _) (Eq.refl _) (by rw [hex14]; omega) (by rw [hex14]; omega) (fun x14 ex14 => ?_)
          rw [hex14] at ex14
          replace hF := hF.trans (congrArg (dv_k f_X12_bareMany_18b) (dv_bn (hex14.trans ex14.symm)))
          refine lv_goto (tgt := 58) hx hb gX12_bareMany_4.2.2.1 (by decide) ?_
          refine tr_isub hx hb gX12_bareMany_4.2.2.2.2.1 (Eq.refl _) (Eq.refl _) (by omega) (by omega) (fun x16 ex16 => ?_)
          replace hF := hF.trans (congrArg (dv_k f_X12_bareMany_18b) (dv_bn (ex16.symm)))
          refine lv_istore_n (lv' := [(1, .int x16), (0, .ref a0), (2, .int j18_2)]) hx hb gX12_bareMany_4.2.2.2.2.2.1 rfl hl (by decide) rfl (fun ls hl => ?_)
          refine tr_iinc (fun x17 => [(2, .int x17), (1, .int x16), (0, .ref a0)]) hx hb gX12_bareMany_4.2.2.2.2.2.2.1 hl (k := 2) rfl (Eq.refl _) tk_1 (by omega) (by omega) (by decide) (fun _ => rfl) (fun x17 ls ex17 hl => ?_)
          replace hF := hF.trans (congrArg (dv_k f_X12_bareMany_18b) (dv_bn (ex17.symm)))
          have sb9 := mo_ss_b hI h0 (n := (j18_2.toInt + 1).toNat) (by omega)
          have s09 := mo_ss_0 (k := mo_v G H0 a0 2) (j18_2.toInt + 1).toNat
          have ss9 := mo_ss_l (k := mo_v G H0 a0 2) (c := j18_2.toInt) (by omega) (q29_0 (by omega))
          have e9 : mo_v G H0 a0 2 (29 + j18_2.toInt) * mo_v G H0 a0 2 (29 + j18_2.toInt) = wx14 := by rw [← hex14, ← vgx11, ← vgx13]
          refine lv_goto (tgt := 18) hx hb gX12_bareMany_4.2.2.2.2.2.2.2 (by decide) ?_
          replace hF := hF.trans (dv_kl)
          exact ih18 locs ls x16 x17 hB (lv_sub hl [2, 1, 0] rfl) hF (by omega) (by omega) (by omega) (by omega) (by rw [show x17.toInt = j18_2.toInt + 1 by omega]; omega) (by omega) (by omega)
  exact lp18 ((2147483648 : Int) - (0)).toNat [] ls x4 0 hB (lv_sub hl [2, 1, 0] rfl) (by rw [tk_0]; exact hF) (by omega) (by omega) (by decide) (by decide) (by rw [eWH, show (0 : Int32).toInt.toNat = 0 from rfl]; show x4.toInt = wx4 - 0; omega) (by have w0 := tk_0; omega) (by have w0 := tk_0; omega)

set_option maxHeartbeats 4000000 in
set_option maxRecDepth 100000 in
theorem c_X12_within (l : Launch) (G : th_G) (Γ : th_Ga) (H0 : Heap) (hI : th_I G Γ H0) (hU : dv_U Γ) (a0 : Nat) (h0 : Γ a0 = (46, 0)) (p1 : Int32) (p2 : Int32) (p3 : Int32) (p4 : Int32) : Met l yX12_within (.code yX12_within cX12_within 9 (some FieldType.int) :: th_tb) ({ frames := 1, cells := 0, slots := 0, locals := 21 } : Room) (th_P [.ref a0, .int p1, .int p2, .int p3, .int p4] G H0) (th_Q (fun (v : Option Value) (H1 : Heap) => ∃ r : Int32, v = some (.int r) ∧ (f_X12_within (dv G Γ H0) (a0 : Int) p1.toInt p2.toInt p3.toInt p4.toInt = (r.toInt, ())) ∧ H0 = H1) G) 0 0 (fun q => G.1.2.2 ≤ q) := by
  refine th_met RX12 (by decide) rfl (Nat.le_of_ble_eq_true rfl) ?_
  intro p e s m below meth c hC hH hr hlocks hnm ls hl
  have hx := hC.1
  have hb := hC.2.1
  have hB : th_B G Γ Γ [] H0 H0 [] := ⟨hI, va_S.rf, th_F_rf⟩
  have hl : lv_has ls 9 [(0, .ref a0), (1, .int p1), (2, .int p2), (3, .int p3), (4, .int p4)] := hl
  have lp1 := ti_lo p1; have up1 := ti_hi p1
  have lp2 := ti_lo p2; have up2 := ti_hi p2
  have lp3 := ti_lo p3; have up3 := ti_hi p3
  have lp4 := ti_lo p4; have up4 := ti_hi p4
  obtain ⟨F, hF0⟩ : ∃ F, F = f_X12_within (dv G Γ H0) ((a0 : Int)) (p1.toInt) (p2.toInt) (p3.toInt) (p4.toInt) := ⟨_, rfl⟩
  have hF := hF0.trans (f_X12_within.eq_1 (dv G Γ H0) ((a0 : Int)) (p1.toInt) (p2.toInt) (p3.toInt) (p4.toInt))
  refine lv_iconst (v := 0) hx hb gX12_within_0.1 (by decide) ?_
  refine lv_istore (lv' := [(5, .int 0), (0, .ref a0), (1, .int p1), (2, .int p2), (3, .int p3), (4, .int p4)]) hx hb gX12_within_0.2.1 hl (by decide) rfl (fun ls hl => ?_)
  refine lv_iconst (v := 0) hx hb gX12_within_0.2.2.1 (by decide) ?_
  refine lv_istore (lv' := [(6, .int 0), (5, .int 0), (0, .ref a0), (1, .int p1), (2, .int p2), (3, .int p3), (4, .int p4)]) hx hb gX12_within_0.2.2.2.1 hl (by decide) rfl (fun ls hl => ?_)
  refine lv_iconst (v := 0) hx hb gX12_within_0.2.2.2.2.1 (by decide) ?_
  refine lv_istore (lv' := [(7, .int 0), (6, .int 0), (5, .int 0), (0, .ref a0), (1, .int p1), (2, .int p2), (3, .int p3), (4, .int p4)]) hx hb gX12_within_0.2.2.2.2.2.1 hl (by decide) rfl (fun ls hl => ?_)
  have lp9 : ∀ (n9 : Nat) (locs : List Loc) (ls : Array Slot) (j9_5 : Int32) (j9_6 : Int32) (j9_7 : Int32), th_B G Γ Γ [] H0 H0 locs → lv_has ls 9 [(0, .ref a0), (1, .int p1), (2, .int p2), (3, .int p3), (4, .int p4), (5, .int j9_5), (6, .int j9_6), (7, .int j9_7)] → F = dv_lp f_X12_within_9b (dv G Γ H0, (a0 : Int), p1.toInt, p2.toInt, p3.toInt, p4.toInt, j9_5.toInt, j9_6.toInt, j9_7.toInt) → 0 ≤ j9_7.toInt → j9_7.toInt ≤ 9 → (2147483648 : Int) - j9_7.toInt ≤ (n9 : Int) → W p l e ({ frames := 1, cells := 0, slots := 0, locals := 21 } : Room) s m ([.ref a0, .int p1, .int p2, .int p3, .int p4] : List Value).toArray below meth c H0 locs 0 0 (MQ below (th_Q (fun (v : Option Value) (H1 : Heap) => ∃ r : Int32, v = some (.int r) ∧ (f_X12_within (dv G Γ H0) (a0 : Int) p1.toInt p2.toInt p3.toInt p4.toInt = (r.toInt, ())) ∧ H0 = H1) G) ([.ref a0, .int p1, .int p2, .int p3, .int p4] : List Value).toArray s 0 0 (fun q => G.1.2.2 ≤ q)) (F0 m 9 ls []) := by
    intro n9
    induction n9 with
    | zero => intro locs ls j9_5 j9_6 j9_7 hB hl hF g9_0 g9_1 hm9; exact absurd hm9 (by have := ti_hi j9_7; omega)
    | succ n9 ih9 =>
      intro locs ls j9_5 j9_6 j9_7 hB hl hF g9_0 g9_1 hm9
      have lj9_5 := ti_lo j9_5; have uj9_5 := ti_hi j9_5
      have lj9_6 := ti_lo j9_6; have uj9_6 := ti_hi j9_6
      have lj9_7 := ti_lo j9_7; have uj9_7 := ti_hi j9_7
      have hm9 : (2147483648 : Int) - j9_7.toInt ≤ (n9 : Int) + 1 := by omega
      replace hF := hF.trans (dv_lp_eq)
      replace hF := hF.trans (congrArg (dv_k f_X12_within_9b) (f_X12_within_9c.eq_1 (dv G Γ H0) ((a0 : Int)) (p1.toInt) (p2.toInt) (p3.toInt) (p4.toInt) (j9_5.toInt) (j9_6.toInt) (j9_7.toInt)))
      refine lv_iload hx hb gX12_within_0.2.2.2.2.2.2.1 (lv_at hl 7 rfl) ?_
      refine lv_aload_n hx hb gX12_within_0.2.2.2.2.2.2.2 rfl (lv_at hl 0 rfl) ?_
      refine th_call (th_runV (As := []) (rest := [.int j9_7]) hC mf_X12_many km_X12_115 im_X12_many se_X12_many (c_X12_many l G Γ H0 hB.1 hU a0 h0) rfl rfl ⟨Nat.le_of_ble_eq_true rfl, Nat.le_of_ble_eq_true rfl⟩ hB.1 h0 ro_46 rfl rfl hl.1 rfl (Nat.le_of_ble_eq_true rfl) gX12_within_1.1 ⟨Nat.le_refl _, Nat.le_refl _⟩) hB.2.1 (fun v12 H12 locs hp hz hS => ?_)
      obtain ⟨x1, rfl, lx1, ux1, q12_0, q12_1, rfl⟩ := hp
      have hB := th_B_s hB hS
      replace hF := hF.trans (congrArg (dv_k f_X12_within_9b) (dv_bn2 (q12_1)))
      refine W.eq (g2 := F0 m 15 ls [.int x1, .int j9_7]) rfl ?_
      refine tr_icmp_ge (tgt := 124) hx hb gX12_within_1.2.1 (by decide) (Eq.refl _) (Eq.refl _) (fun c15 => ?_) (fun c15 => ?_)
      · replace hF := hF.trans (congrArg (dv_k f_X12_within_9b) (if_pos c15))
        refine lv_iload hx hb gX12_within_8.2.2.2.1 (lv_at hl 5 rfl) ?_
        refine lv_iconst (v := 2) hx hb gX12_within_8.2.2.2.2.1 (by decide) ?_
        refine tr_icmp_ge (tgt := 134) hx hb gX12_within_8.2.2.2.2.2.1 (by decide) (Eq.refl _) tk_2 (fun c127 => ?_) (fun c127 => ?_)
        · replace hF := hF.trans (congrArg (dv_k f_X12_within_9b) (if_pos c127))
          refine lv_iload hx hb gX12_within_9.1 (lv_at hl 6 rfl) ?_
          replace hF := hF.trans (dv_kr)
          exact th_iret hC hH hr hlocks rfl hB.2.1 ⟨_, rfl, (hF0.symm.trans hF), rfl⟩ gX12_within_9.2
        · replace hF := hF.trans (congrArg (dv_k f_X12_within_9b) (if_neg (Int.not_le.mpr c127)))
          refine lv_iconst (v := (-1)) hx hb gX12_within_8.2.2.2.2.2.2.1 (by decide) ?_
          refine lv_goto (tgt := 136) hx hb gX12_within_8.2.2.2.2.2.2.2 (by decide) ?_
          replace hF := hF.trans (dv_kr)
          exact th_iret hC hH hr hlocks rfl hB.2.1 ⟨_, rfl, (hF0.symm.trans (hF.trans (by rw [tk_m1]))), rfl⟩ gX12_within_9.2
      · replace hF := hF.trans (congrArg (dv_k f_X12_within_9b) (if_neg (Int.not_le.mpr c15)))
        refine lv_aload_n hx hb gX12_within_1.2.2.1 rfl (lv_at hl 0 rfl) ?_
        refine th_getO (j := 2) (r2 := 48) hC cf_X12 hB.1 h0 ro_46 rfl rfl kf_X12_28 gX12_within_1.2.2.2.1 (fun b2 mb2 hb2 => ?_)
        refine lv_bipush (v := 29) hx hb gX12_within_1.2.2.2.2.1 (by decide) ?_
        refine lv_iload hx hb gX12_within_1.2.2.2.2.2.1 (lv_at hl 7 rfl) ?_
        refine tr_iadd hx hb gX12_within_1.2.2.2.2.2.2.1 tk_29 (Eq.refl _) (by omega) (by omega) (fun x3 ex3 => ?_)
        replace hF := hF.trans (congrArg (dv_k f_X12_within_9b) (dv_bn (ex3.symm)))
        refine th_ialdF hC hB.1 hb2 ro_48 rfl (Eq.refl _) (by omega) (by omega) (ek_side (by omega) (by omega)) gX12_within_1.2.2.2.2.2.2.2 (fun x4 mx4 lx4 ux4 => ?_)
        replace hF := hF.trans (congrArg (dv_k f_X12_within_9b) (dv_bn (dv_aldI hB.1 hU hb2 ow_48 (z := x3.toInt) mx4 (by omega))))
        refine lv_istore (lv' := [(8, .int x4), (0, .ref a0), (1, .int p1), (2, .int p2), (3, .int p3), (4, .int p4), (5, .int j9_5), (6, .int j9_6), (7, .int j9_7)]) hx hb gX12_within_2.1 hl (by decide) rfl (fun ls hl => ?_)
        refine lv_aload_n hx hb gX12_within_2.2.1 rfl (lv_at hl 1 rfl) ?_
        refine lv_iload hx hb gX12_within_2.2.2.1 (lv_at hl 8 rfl) ?_
        refine th_call (th_runV (As := [.int j9_7]) (rest := []) hC mf_X12_isLaid km_X12_137 im_X12_isLaid se_X12_isLaid (c_X12_isLaid l G Γ H0 hB.1 hU a0 h0 j9_7 (by omega) (by omega)) rfl rfl ⟨Nat.le_of_ble_eq_true rfl, Nat.le_of_ble_eq_true rfl⟩ hB.1 h0 ro_46 rfl rfl hl.1 rfl (Nat.le_of_ble_eq_true rfl) gX12_within_2.2.2.2.1 ⟨Nat.le_refl _, Nat.le_refl _⟩) hB.2.1 (fun v33 H33 locs hp hz hS => ?_)
        obtain ⟨x5, rfl, lx5, ux5, q33_0, q33_1, q33_2, rfl⟩ := hp
        have hB := th_B_s hB hS
        replace hF := hF.trans (congrArg (dv_k f_X12_within_9b) (dv_bn2 (q33_2)))
        refine W.eq (g2 := F0 m 36 ls [.int x5]) rfl ?_
        have jn118 : ∀ (locs : List Loc) (ls : Array Slot) (j118_5 : Int32) (j118_6 : Int32), th_B G Γ Γ [] H0 H0 locs → lv_has ls 9 [(0, .ref a0), (1, .int p1), (2, .int p2), (3, .int p3), (4, .int p4), (7, .int j9_7), (5, .int j118_5), (6, .int j118_6)] → F = dv_k f_X12_within_9b (f_X12_within_118 (dv G Γ H0) ((a0 : Int)) (p1.toInt) (p2.toInt) (p3.toInt) (p4.toInt) (j9_7.toInt) (j118_5.toInt) (j118_6.toInt)) → W p l e ({ frames := 1, cells := 0, slots := 0, locals := 21 } : Room) s m ([.ref a0, .int p1, .int p2, .int p3, .int p4] : List Value).toArray below meth c H0 locs 0 0 (MQ below (th_Q (fun (v : Option Value) (H1 : Heap) => ∃ r : Int32, v = some (.int r) ∧ (f_X12_within (dv G Γ H0) (a0 : Int) p1.toInt p2.toInt p3.toInt p4.toInt = (r.toInt, ())) ∧ H0 = H1) G) ([.ref a0, .int p1, .int p2, .int p3, .int p4] : List Value).toArray s 0 0 (fun q => G.1.2.2 ≤ q)) (F0 m 118 ls []) := by
          intro locs ls j118_5 j118_6 hB hl hF
          have lj118_5 := ti_lo j118_5; have uj118_5 := ti_hi j118_5
          have lj118_6 := ti_lo j118_6; have uj118_6 := ti_hi j118_6
          replace hF := hF.trans (congrArg (dv_k f_X12_within_9b) (f_X12_within_118.eq_1 (dv G Γ H0) ((a0 : Int)) (p1.toInt) (p2.toInt) (p3.toInt) (p4.toInt) (j9_7.toInt) (j118_5.toInt) (j118_6.toInt)))
          refine tr_iinc (fun x6 => [(7, .int x6), (0, .ref a0), (1, .int p1), (2, .int p2), (3, .int p3), (4, .int p4), (5, .int j118_5), (6, .int j118_6)]) hx hb gX12_within_8.2.1 hl (k := 5) rfl (Eq.refl _) tk_1 (by omega) (by omega) (by decide) (fun _ => rfl) (fun x6 ls ex6 hl => ?_)
          replace hF := hF.trans (congrArg (dv_k f_X12_within_9b) (dv_bn (ex6.symm)))
          refine lv_goto (tgt := 9) hx hb gX12_within_8.2.2.1 (by decide) ?_
          replace hF := hF.trans (dv_kl)
          exact ih9 locs ls j118_5 j118_6 x6 hB (lv_sub hl [1, 2, 3, 4, 5, 6, 7, 0] rfl) hF (by omega) (by omega) (by omega)
        refine tr_if_eq (tgt := 118) hx hb gX12_within_2.2.2.2.2.1 (by decide) (Eq.refl _) (fun c36 => ?_) (fun c36 => ?_)
        · replace hF := hF.trans (congrArg (dv_k f_X12_within_9b) (if_pos c36))
          exact jn118 locs ls j9_5 j9_6 hB (lv_sub hl [1, 2, 3, 4, 5, 8, 6, 7] rfl) hF
        · replace hF := hF.trans (congrArg (dv_k f_X12_within_9b) (if_neg c36))
          refine lv_aload_n hx hb gX12_within_2.2.2.2.2.2.1 rfl (lv_at hl 1 rfl) ?_
          refine th_getK hC cf_X12 hB.1 h0 ro_46 rfl (j := 2) (by decide) mb2 kf_X12_28 gX12_within_2.2.2.2.2.2.2.1 ?_
          refine lv_bipush (v := 9) hx hb gX12_within_2.2.2.2.2.2.2.2 (by decide) ?_
          refine lv_iload hx hb gX12_within_3.1 (lv_at hl 8 rfl) ?_
          refine tr_iadd hx hb gX12_within_3.2.1 tk_9 (Eq.refl _) (by omega) (by omega) (fun x7 ex7 => ?_)
          replace hF := hF.trans (congrArg (dv_k f_X12_within_9b) (dv_bn (ex7.symm)))
          refine th_ialdF hC hB.1 hb2 ro_48 rfl (Eq.refl _) (by omega) (by omega) (ek_a (by omega) (by omega)) gX12_within_3.2.2.1 (fun x8 mx8 lx8 ux8 => ?_)
          replace hF := hF.trans (congrArg (dv_k f_X12_within_9b) (dv_bn (dv_aldI hB.1 hU hb2 ow_48 (z := x7.toInt) mx8 (by omega))))
          refine lv_iload_n hx hb gX12_within_3.2.2.2.1 rfl (lv_at hl 2 rfl) ?_
          refine tr_icmp_lt (tgt := 118) hx hb gX12_within_3.2.2.2.2.1 (by decide) (Eq.refl _) (Eq.refl _) (fun c50 => ?_) (fun c50 => ?_)
          · replace hF := hF.trans (congrArg (dv_k f_X12_within_9b) (if_pos c50))
            exact jn118 locs ls j9_5 j9_6 hB (lv_sub hl [1, 2, 3, 4, 5, 8, 6, 7] rfl) hF
          · replace hF := hF.trans (congrArg (dv_k f_X12_within_9b) (if_neg (Int.not_lt.mpr c50)))
            refine lv_aload_n hx hb gX12_within_3.2.2.2.2.2.1 rfl (lv_at hl 1 rfl) ?_
            refine th_getK hC cf_X12 hB.1 h0 ro_46 rfl (j := 2) (by decide) mb2 kf_X12_28 gX12_within_3.2.2.2.2.2.2.1 ?_
            refine lv_bipush (v := 18) hx hb gX12_within_3.2.2.2.2.2.2.2 (by decide) ?_
            refine lv_iload hx hb gX12_within_4.1 (lv_at hl 8 rfl) ?_
            refine tr_iadd hx hb gX12_within_4.2.1 tk_18 (Eq.refl _) (by omega) (by omega) (fun x9 ex9 => ?_)
            replace hF := hF.trans (congrArg (dv_k f_X12_within_9b) (dv_bn (ex9.symm)))
            refine th_ialdF hC hB.1 hb2 ro_48 rfl (Eq.refl _) (by omega) (by omega) (ek_a (by omega) (by omega)) gX12_within_4.2.2.1 (fun x10 mx10 lx10 ux10 => ?_)
            replace hF := hF.trans (congrArg (dv_k f_X12_within_9b) (dv_bn (dv_aldI hB.1 hU hb2 ow_48 (z := x9.toInt) mx10 (by omega))))
            refine lv_iload_n hx hb gX12_within_4.2.2.2.1 rfl (lv_at hl 3 rfl) ?_
            refine tr_icmp_lt (tgt := 118) hx hb gX12_within_4.2.2.2.2.1 (by decide) (Eq.refl _) (Eq.refl _) (fun c64 => ?_) (fun c64 => ?_)
            · replace hF := hF.trans (congrArg (dv_k f_X12_within_9b) (if_pos c64))
              exact jn118 locs ls j9_5 j9_6 hB (lv_sub hl [1, 2, 3, 4, 5, 8, 6, 7] rfl) hF
            · replace hF := hF.trans (congrArg (dv_k f_X12_within_9b) (if_neg (Int.not_lt.mpr c64)))
              refine lv_aload_n hx hb gX12_within_4.2.2.2.2.2.1 rfl (lv_at hl 1 rfl) ?_
              refine th_getK hC cf_X12 hB.1 h0 ro_46 rfl (j := 2) (by decide) mb2 kf_X12_28 gX12_within_4.2.2.2.2.2.2.1 ?_
              refine lv_bipush (v := 9) hx hb gX12_within_4.2.2.2.2.2.2.2 (by decide) ?_
              refine lv_iload hx hb gX12_within_5.1 (lv_at hl 8 rfl) ?_
              refine tr_iadd hx hb gX12_within_5.2.1 tk_9 (Eq.refl _) (by omega) (by omega) (fun x11 ex11 => ?_)
              replace hF := hF.trans (congrArg (dv_k f_X12_within_9b) (dv_bn (ex11.symm)))
              refine th_ialdF hC hB.1 hb2 ro_48 rfl (Eq.refl _) (by omega) (by omega) (ek_a (by omega) (by omega)) gX12_within_5.2.2.1 (fun x12 mx12 lx12 ux12 => ?_)
              replace hF := hF.trans (congrArg (dv_k f_X12_within_9b) (dv_bn (dv_aldI hB.1 hU hb2 ow_48 (z := x11.toInt) mx12 (by omega))))
              refine lv_iload hx hb gX12_within_5.2.2.2.1 (lv_at hl 0 rfl) ?_
              refine lv_iadd hx hb gX12_within_5.2.2.2.2.1 ?_
              refine lv_topi (fun x13 ex13 => ?_)
              have lx13 := ti_lo x13; have ux13 := ti_hi x13
              replace hF := hF.trans (congrArg (dv_k f_X12_within_9b) (dv_bn (dv_add_e (Eq.refl _) (Eq.refl _) ex13)))
              refine lv_iload_n hx hb gX12_within_5.2.2.2.2.2.1 rfl (lv_at hl 4 rfl) ?_
              refine tr_icmp_gt (tgt := 118) hx hb gX12_within_5.2.2.2.2.2.2.1 (by decide) (Eq.refl _) (Eq.refl _) (fun c81 => ?_) (fun c81 => ?_)
              · replace hF := hF.trans (congrArg (dv_k f_X12_within_9b) (if_pos c81))
                exact jn118 locs ls j9_5 j9_6 hB (lv_sub hl [1, 2, 3, 4, 5, 8, 6, 7] rfl) hF
              · replace hF := hF.trans (congrArg (dv_k f_X12_within_9b) (if_neg (Int.not_lt.mpr c81)))
                refine lv_aload_n hx hb gX12_within_5.2.2.2.2.2.2.2 rfl (lv_at hl 1 rfl) ?_
                refine th_getK hC cf_X12 hB.1 h0 ro_46 rfl (j := 2) (by decide) mb2 kf_X12_28 gX12_within_6.1 ?_
                refine lv_bipush (v := 18) hx hb gX12_within_6.2.1 (by decide) ?_
                refine lv_iload hx hb gX12_within_6.2.2.1 (lv_at hl 8 rfl) ?_
                refine tr_iadd hx hb gX12_within_6.2.2.2.1 tk_18 (Eq.refl _) (by omega) (by omega) (fun x14 ex14 => ?_)
                replace hF := hF.trans (congrArg (dv_k f_X12_within_9b) (dv_bn (ex14.symm)))
                refine th_ialdF hC hB.1 hb2 ro_48 rfl (Eq.refl _) (by omega) (by omega) (ek_a (by omega) (by omega)) gX12_within_6.2.2.2.2.1 (fun x15 mx15 lx15 ux15 => ?_)
                replace hF := hF.trans (congrArg (dv_k f_X12_within_9b) (dv_bn (dv_aldI hB.1 hU hb2 ow_48 (z := x14.toInt) mx15 (by omega))))
                refine lv_iload hx hb gX12_within_6.2.2.2.2.2.1 (lv_at hl 0 rfl) ?_
                refine lv_iadd hx hb gX12_within_6.2.2.2.2.2.2.1 ?_
                refine lv_topi (fun x16 ex16 => ?_)
                have lx16 := ti_lo x16; have ux16 := ti_hi x16
                replace hF := hF.trans (congrArg (dv_k f_X12_within_9b) (dv_bn (dv_add_e (Eq.refl _) (Eq.refl _) ex16)))
                refine lv_iload hx hb gX12_within_6.2.2.2.2.2.2.2 (lv_at hl 5 rfl) ?_
                refine tr_icmp_le (tgt := 105) hx hb gX12_within_7.1 (by decide) (Eq.refl _) (Eq.refl _) (fun c99 => ?_) (fun c99 => ?_)
                · replace hF := hF.trans (congrArg (dv_k f_X12_within_9b) (if_pos c99))
                  refine lv_iload hx hb gX12_within_7.2.2.1 (lv_at hl 7 rfl) ?_
                  refine lv_iload hx hb gX12_within_7.2.2.2.1 (lv_at hl 0 rfl) ?_
                  refine lv_iload hx hb gX12_within_7.2.2.2.2.1 (lv_at hl 0 rfl) ?_
                  have q18 := ti_mulr (a := x4.toInt) (b := x4.toInt) (A := 12) (B := 12) (by omega) (by omega) (by omega) (by omega)
                  generalize hex17 : x4.toInt * x4.toInt = wx17 at q18
                  refine tr_imul hx hb gX12_within_7.2.2.2.2.2.1 (Eq.refl _) (Eq.refl _) (by rw [hex17]; omega) (by rw [hex17]; omega) (fun x17 ex17 => ?_)
                  rw [hex17] at ex17
                  replace hF := hF.trans (congrArg (dv_k f_X12_within_9b) (dv_bn (hex17.trans ex17.symm)))
                  refine lv_iadd hx hb gX12_within_7.2.2.2.2.2.2.1 ?_
                  refine lv_topi (fun x19 ex19 => ?_)
                  have lx19 := ti_lo x19; have ux19 := ti_hi x19
                  replace hF := hF.trans (congrArg (dv_k f_X12_within_9b) (dv_bn (dv_add_e (Eq.refl _) (Eq.refl _) ex19)))
                  refine lv_istore (lv' := [(6, .int x19), (8, .int x4), (0, .ref a0), (1, .int p1), (2, .int p2), (3, .int p3), (4, .int p4), (5, .int j9_5), (7, .int j9_7)]) hx hb gX12_within_7.2.2.2.2.2.2.2 hl (by decide) rfl (fun ls hl => ?_)
                  refine tr_iincE (fun x20 => [(5, .int x20), (6, .int x19), (8, .int x4), (0, .ref a0), (1, .int p1), (2, .int p2), (3, .int p3), (4, .int p4), (7, .int j9_7)]) hx hb gX12_within_8.1 hl (k := 7) rfl (Eq.refl _) (by decide) (fun _ => rfl) (fun x20 ls ex20 hl => ?_)
                  have lx20 := ti_lo x20; have ux20 := ti_hi x20
                  replace hF := hF.trans (congrArg (dv_k f_X12_within_9b) (dv_bn (ex20)))
                  exact jn118 locs ls x20 x19 hB (lv_sub hl [3, 4, 5, 6, 7, 8, 0, 1] rfl) hF
                · replace hF := hF.trans (congrArg (dv_k f_X12_within_9b) (if_neg (Int.not_le.mpr c99)))
                  refine lv_goto (tgt := 118) hx hb gX12_within_7.2.1 (by decide) ?_
                  exact jn118 locs ls j9_5 j9_6 hB (lv_sub hl [1, 2, 3, 4, 5, 8, 6, 7] rfl) hF
  exact lp9 ((2147483648 : Int) - (0)).toNat [] ls 0 0 0 hB (lv_sub hl [3, 4, 5, 6, 7, 2, 1, 0] rfl) (by rw [tk_0]; exact hF) (by decide) (by decide) (by have w0 := tk_0; omega)

set_option maxHeartbeats 4000000 in
set_option maxRecDepth 100000 in
theorem c_X12_inner (l : Launch) (G : th_G) (Γ : th_Ga) (H0 : Heap) (hI : th_I G Γ H0) (hU : dv_U Γ) (a0 : Nat) (h0 : Γ a0 = (46, 0)) : Met l yX12_inner (.code yX12_inner cX12_inner 8 (some FieldType.int) :: th_tb) ({ frames := 2, cells := 0, slots := 0, locals := 49 } : Room) (th_P [.ref a0] G H0) (th_Q (fun (v : Option Value) (H1 : Heap) => ∃ r : Int32, v = some (.int r) ∧ (f_X12_inner (dv G Γ H0) (a0 : Int) = (r.toInt, ())) ∧ H0 = H1) G) 0 0 (fun q => G.1.2.2 ≤ q) := by
  refine th_met RX12 (by decide) rfl (Nat.le_of_ble_eq_true rfl) ?_
  intro p e s m below meth c hC hH hr hlocks hnm ls hl
  have hx := hC.1
  have hb := hC.2.1
  have hB : th_B G Γ Γ [] H0 H0 [] := ⟨hI, va_S.rf, th_F_rf⟩
  have hl : lv_has ls 8 [(0, .ref a0)] := hl
  obtain ⟨F, hF0⟩ : ∃ F, F = f_X12_inner (dv G Γ H0) ((a0 : Int)) := ⟨_, rfl⟩
  have hF := hF0.trans (f_X12_inner.eq_1 (dv G Γ H0) ((a0 : Int)))
  refine lv_aload_n hx hb gX12_inner_0.1 rfl (lv_at hl 0 rfl) ?_
  refine th_getO (j := 2) (r2 := 48) hC cf_X12 hB.1 h0 ro_46 rfl rfl kf_X12_28 gX12_inner_0.2.1 (fun b1 mb1 hb1 => ?_)
  refine lv_bipush (v := 67) hx hb gX12_inner_0.2.2.1 (by decide) ?_
  refine th_ialdF hC hB.1 hb1 ro_48 rfl tk_67 (by omega) (by omega) (ek_hall (by omega) (by omega)) gX12_inner_0.2.2.2.1 (fun x2 mx2 lx2 ux2 => ?_)
  replace hF := hF.trans (dv_bn (dv_aldI hB.1 hU hb1 ow_48 (z := 67) mx2 (by omega)))
  refine lv_istore_n (lv' := [(1, .int x2), (0, .ref a0)]) hx hb gX12_inner_0.2.2.2.2.1 rfl hl (by decide) rfl (fun ls hl => ?_)
  refine lv_aload_n hx hb gX12_inner_0.2.2.2.2.2.1 rfl (lv_at hl 1 rfl) ?_
  refine th_getK hC cf_X12 hB.1 h0 ro_46 rfl (j := 2) (by decide) mb1 kf_X12_28 gX12_inner_0.2.2.2.2.2.2.1 ?_
  refine lv_bipush (v := 68) hx hb gX12_inner_0.2.2.2.2.2.2.2 (by decide) ?_
  refine th_ialdF hC hB.1 hb1 ro_48 rfl tk_68 (by omega) (by omega) (ek_hall (by omega) (by omega)) gX12_inner_1.1 (fun x3 mx3 lx3 ux3 => ?_)
  replace hF := hF.trans (dv_bn (dv_aldI hB.1 hU hb1 ow_48 (z := 68) mx3 (by omega)))
  refine lv_istore_n (lv' := [(2, .int x3), (1, .int x2), (0, .ref a0)]) hx hb gX12_inner_1.2.1 rfl hl (by decide) rfl (fun ls hl => ?_)
  refine lv_iconst (v := 0) hx hb gX12_inner_1.2.2.1 (by decide) ?_
  refine lv_istore_n (lv' := [(3, .int 0), (2, .int x3), (1, .int x2), (0, .ref a0)]) hx hb gX12_inner_1.2.2.2.1 rfl hl (by decide) rfl (fun ls hl => ?_)
  refine lv_iconst (v := 0) hx hb gX12_inner_1.2.2.2.2.1 (by decide) ?_
  refine lv_istore (lv' := [(4, .int 0), (3, .int 0), (2, .int x3), (1, .int x2), (0, .ref a0)]) hx hb gX12_inner_1.2.2.2.2.2.1 hl (by decide) rfl (fun ls hl => ?_)
  have lp21 : ∀ (n21 : Nat) (locs : List Loc) (ls : Array Slot) (j21_3 : Int32) (j21_4 : Int32), th_B G Γ Γ [] H0 H0 locs → lv_has ls 8 [(2, .int x3), (1, .int x2), (0, .ref a0), (3, .int j21_3), (4, .int j21_4)] → F = dv_lp f_X12_inner_21b (dv G Γ H0, x3.toInt, x2.toInt, (a0 : Int), j21_3.toInt, j21_4.toInt) → 0 ≤ j21_4.toInt → j21_4.toInt ≤ 12 → (2147483648 : Int) - j21_4.toInt ≤ (n21 : Int) → W p l e ({ frames := 2, cells := 0, slots := 0, locals := 49 } : Room) s m ([.ref a0] : List Value).toArray below meth c H0 locs 0 0 (MQ below (th_Q (fun (v : Option Value) (H1 : Heap) => ∃ r : Int32, v = some (.int r) ∧ (f_X12_inner (dv G Γ H0) (a0 : Int) = (r.toInt, ())) ∧ H0 = H1) G) ([.ref a0] : List Value).toArray s 0 0 (fun q => G.1.2.2 ≤ q)) (F0 m 21 ls []) := by
    intro n21
    induction n21 with
    | zero => intro locs ls j21_3 j21_4 hB hl hF g21_0 g21_1 hm21; exact absurd hm21 (by have := ti_hi j21_4; omega)
    | succ n21 ih21 =>
      intro locs ls j21_3 j21_4 hB hl hF g21_0 g21_1 hm21
      have lj21_3 := ti_lo j21_3; have uj21_3 := ti_hi j21_3
      have lj21_4 := ti_lo j21_4; have uj21_4 := ti_hi j21_4
      have hm21 : (2147483648 : Int) - j21_4.toInt ≤ (n21 : Int) + 1 := by omega
      replace hF := hF.trans (dv_lp_eq)
      replace hF := hF.trans (congrArg (dv_k f_X12_inner_21b) (f_X12_inner_21c.eq_1 (dv G Γ H0) (x3.toInt) (x2.toInt) ((a0 : Int)) (j21_3.toInt) (j21_4.toInt)))
      refine lv_iload hx hb gX12_inner_1.2.2.2.2.2.2.1 (lv_at hl 4 rfl) ?_
      refine lv_iload_n hx hb gX12_inner_1.2.2.2.2.2.2.2 rfl (lv_at hl 1 rfl) ?_
      refine tr_icmp_ge (tgt := 118) hx hb gX12_inner_2.1 (by decide) (Eq.refl _) (Eq.refl _) (fun c24 => ?_) (fun c24 => ?_)
      · replace hF := hF.trans (congrArg (dv_k f_X12_inner_21b) (if_pos c24))
        refine lv_iload_n hx hb gX12_inner_8.1 rfl (lv_at hl 3 rfl) ?_
        refine lv_aload_n hx hb gX12_inner_8.2.1 rfl (lv_at hl 2 rfl) ?_
        refine lv_iconst (v := 0) hx hb gX12_inner_8.2.2.1 (by decide) ?_
        refine lv_iconst (v := 0) hx hb gX12_inner_8.2.2.2.1 (by decide) ?_
        refine lv_iload_n hx hb gX12_inner_8.2.2.2.2.1 rfl (lv_at hl 1 rfl) ?_
        refine lv_iload_n hx hb gX12_inner_8.2.2.2.2.2.1 rfl (lv_at hl 0 rfl) ?_
        refine th_call (th_runV (As := [.int 0, .int 0, .int x2, .int x3]) (rest := [.int j21_3]) hC mf_X12_within km_X12_458 im_X12_within se_X12_within (c_X12_within l G Γ H0 hB.1 hU a0 h0 0 0 x2 x3) rfl rfl ⟨Nat.le_of_ble_eq_true rfl, Nat.le_of_ble_eq_true rfl⟩ hB.1 h0 ro_46 rfl rfl hl.1 rfl (Nat.le_of_ble_eq_true rfl) gX12_inner_8.2.2.2.2.2.2.1 ⟨Nat.le_refl _, Nat.le_refl _⟩) hB.2.1 (fun v124 H124 locs hp hz hS => ?_)
        obtain ⟨x4, rfl, q124_0, rfl⟩ := hp
        have hB := th_B_s hB hS
        have w124_0 := tk_0
        have w124_1 := tk_0
        have zf124 := q124_0
        rw [tk_0] at zf124
        replace hF := hF.trans (congrArg (dv_k f_X12_inner_21b) (dv_bn2 (zf124)))
        refine W.eq (g2 := F0 m 127 ls [.int x4, .int j21_3]) rfl ?_
        refine lv_iload_n hx hb gX12_inner_8.2.2.2.2.2.2.2 rfl (lv_at hl 1 rfl) ?_
        refine lv_iload_n hx hb gX12_inner_9.1 rfl (lv_at hl 0 rfl) ?_
        have q6 := ti_mulr (a := x2.toInt) (b := x3.toInt) (A := 12) (B := 12) (by omega) (by omega) (by omega) (by omega)
        generalize hex5 : x2.toInt * x3.toInt = wx5 at q6
        refine tr_imul hx hb gX12_inner_9.2.1 (Eq.refl _) (Eq.refl _) (by rw [hex5]; omega) (by rw [hex5]; omega) (fun x5 ex5 => ?_)
        rw [hex5] at ex5
        replace hF := hF.trans (congrArg (dv_k f_X12_inner_21b) (dv_bn (hex5.trans ex5.symm)))
        refine tr_icmp_ne (tgt := 137) hx hb gX12_inner_9.2.2.1 (by decide) (Eq.refl _) (Eq.refl _) (fun c130 => ?_) (fun c130 => ?_)
        · replace hF := hF.trans (congrArg (dv_k f_X12_inner_21b) (if_pos c130))
          refine lv_iconst (v := 0) hx hb gX12_inner_9.2.2.2.2.2.1 (by decide) ?_
          refine tr_isub hx hb gX12_inner_9.2.2.2.2.2.2.1 (Eq.refl _) tk_0 (by omega) (by omega) (fun x7 ex7 => ?_)
          replace hF := hF.trans (congrArg (dv_k f_X12_inner_21b) (dv_bn (ex7.symm)))
          replace hF := hF.trans (dv_kr)
          exact th_iret hC hH hr hlocks rfl hB.2.1 ⟨_, rfl, (hF0.symm.trans hF), rfl⟩ gX12_inner_9.2.2.2.2.2.2.2
        · replace hF := hF.trans (congrArg (dv_k f_X12_inner_21b) (if_neg (not_not_intro c130)))
          refine lv_iconst (v := 1) hx hb gX12_inner_9.2.2.2.1 (by decide) ?_
          refine lv_goto (tgt := 138) hx hb gX12_inner_9.2.2.2.2.1 (by decide) ?_
          refine lv_isub hx hb gX12_inner_9.2.2.2.2.2.2.1 ?_
          refine lv_topi (fun x8 ex8 => ?_)
          have lx8 := ti_lo x8; have ux8 := ti_hi x8
          replace hF := hF.trans (congrArg (dv_k f_X12_inner_21b) (dv_bn (dv_sub_e (Eq.refl _) tk_1 ex8)))
          replace hF := hF.trans (dv_kr)
          exact th_iret hC hH hr hlocks rfl hB.2.1 ⟨_, rfl, (hF0.symm.trans hF), rfl⟩ gX12_inner_9.2.2.2.2.2.2.2
      · replace hF := hF.trans (congrArg (dv_k f_X12_inner_21b) (if_neg (Int.not_le.mpr c24)))
        refine lv_iload hx hb gX12_inner_2.2.1 (lv_at hl 4 rfl) ?_
        refine lv_iconst (v := 1) hx hb gX12_inner_2.2.2.1 (by decide) ?_
        refine tr_iadd hx hb gX12_inner_2.2.2.2.1 (Eq.refl _) tk_1 (by omega) (by omega) (fun x9 ex9 => ?_)
        replace hF := hF.trans (congrArg (dv_k f_X12_inner_21b) (dv_bn (ex9.symm)))
        refine lv_istore (lv' := [(5, .int x9), (2, .int x3), (1, .int x2), (0, .ref a0), (3, .int j21_3), (4, .int j21_4)]) hx hb gX12_inner_2.2.2.2.2.1 hl (by decide) rfl (fun ls hl => ?_)
        have lp33 : ∀ (n33 : Nat) (locs : List Loc) (ls : Array Slot) (j33_3 : Int32) (j33_5 : Int32), th_B G Γ Γ [] H0 H0 locs → lv_has ls 8 [(2, .int x3), (1, .int x2), (0, .ref a0), (4, .int j21_4), (3, .int j33_3), (5, .int j33_5)] → F = dv_k f_X12_inner_21b (dv_lp f_X12_inner_33b (dv G Γ H0, x3.toInt, x2.toInt, (a0 : Int), j21_4.toInt, j33_3.toInt, j33_5.toInt)) → 1 ≤ j33_5.toInt → j33_5.toInt ≤ 15 → (2147483648 : Int) - j33_5.toInt ≤ (n33 : Int) → W p l e ({ frames := 2, cells := 0, slots := 0, locals := 49 } : Room) s m ([.ref a0] : List Value).toArray below meth c H0 locs 0 0 (MQ below (th_Q (fun (v : Option Value) (H1 : Heap) => ∃ r : Int32, v = some (.int r) ∧ (f_X12_inner (dv G Γ H0) (a0 : Int) = (r.toInt, ())) ∧ H0 = H1) G) ([.ref a0] : List Value).toArray s 0 0 (fun q => G.1.2.2 ≤ q)) (F0 m 33 ls []) := by
          intro n33
          induction n33 with
          | zero => intro locs ls j33_3 j33_5 hB hl hF g33_0 g33_1 hm33; exact absurd hm33 (by have := ti_hi j33_5; omega)
          | succ n33 ih33 =>
            intro locs ls j33_3 j33_5 hB hl hF g33_0 g33_1 hm33
            have lj33_3 := ti_lo j33_3; have uj33_3 := ti_hi j33_3
            have lj33_5 := ti_lo j33_5; have uj33_5 := ti_hi j33_5
            have hm33 : (2147483648 : Int) - j33_5.toInt ≤ (n33 : Int) + 1 := by omega
            replace hF := hF.trans (congrArg (dv_k f_X12_inner_21b) (dv_lp_eq))
            replace hF := hF.trans (congrArg (dv_k f_X12_inner_21b) (congrArg (dv_k f_X12_inner_33b) (f_X12_inner_33c.eq_1 (dv G Γ H0) (x3.toInt) (x2.toInt) ((a0 : Int)) (j21_4.toInt) (j33_3.toInt) (j33_5.toInt))))
            refine lv_iload hx hb gX12_inner_2.2.2.2.2.2.1 (lv_at hl 5 rfl) ?_
            refine lv_iload_n hx hb gX12_inner_2.2.2.2.2.2.2.1 rfl (lv_at hl 1 rfl) ?_
            refine tr_icmp_gt (tgt := 112) hx hb gX12_inner_2.2.2.2.2.2.2.2 (by decide) (Eq.refl _) (Eq.refl _) (fun c36 => ?_) (fun c36 => ?_)
            · replace hF := hF.trans (congrArg (dv_k f_X12_inner_21b) (congrArg (dv_k f_X12_inner_33b) (if_pos c36)))
              refine tr_iinc (fun x10 => [(4, .int x10), (2, .int x3), (1, .int x2), (0, .ref a0), (3, .int j33_3), (5, .int j33_5)]) hx hb gX12_inner_7.2.2.2.2.2.2.1 hl (k := 3) rfl (Eq.refl _) tk_1 (by omega) (by omega) (by decide) (fun _ => rfl) (fun x10 ls ex10 hl => ?_)
              replace hF := hF.trans (congrArg (dv_k f_X12_inner_21b) (congrArg (dv_k f_X12_inner_33b) (dv_bn (ex10.symm))))
              refine lv_goto (tgt := 21) hx hb gX12_inner_7.2.2.2.2.2.2.2 (by decide) ?_
              replace hF := hF.trans (congrArg (dv_k f_X12_inner_21b) (dv_kr))
              replace hF := hF.trans (dv_kl)
              exact ih21 locs ls j33_3 x10 hB (lv_sub hl [1, 2, 3, 4, 0] rfl) hF (by omega) (by omega) (by omega)
            · replace hF := hF.trans (congrArg (dv_k f_X12_inner_21b) (congrArg (dv_k f_X12_inner_33b) (if_neg (Int.not_lt.mpr c36))))
              refine lv_iconst (v := 0) hx hb gX12_inner_3.1 (by decide) ?_
              refine lv_istore (lv' := [(6, .int 0), (2, .int x3), (1, .int x2), (0, .ref a0), (4, .int j21_4), (3, .int j33_3), (5, .int j33_5)]) hx hb gX12_inner_3.2.1 hl (by decide) rfl (fun ls hl => ?_)
              have lp42 : ∀ (n42 : Nat) (locs : List Loc) (ls : Array Slot) (j42_3 : Int32) (j42_6 : Int32), th_B G Γ Γ [] H0 H0 locs → lv_has ls 8 [(2, .int x3), (1, .int x2), (0, .ref a0), (4, .int j21_4), (5, .int j33_5), (3, .int j42_3), (6, .int j42_6)] → F = dv_k f_X12_inner_21b (dv_k f_X12_inner_33b (dv_lp f_X12_inner_42b (dv G Γ H0, x3.toInt, x2.toInt, (a0 : Int), j21_4.toInt, j33_5.toInt, j42_3.toInt, j42_6.toInt))) → 0 ≤ j42_6.toInt → j42_6.toInt ≤ 12 → (2147483648 : Int) - j42_6.toInt ≤ (n42 : Int) → W p l e ({ frames := 2, cells := 0, slots := 0, locals := 49 } : Room) s m ([.ref a0] : List Value).toArray below meth c H0 locs 0 0 (MQ below (th_Q (fun (v : Option Value) (H1 : Heap) => ∃ r : Int32, v = some (.int r) ∧ (f_X12_inner (dv G Γ H0) (a0 : Int) = (r.toInt, ())) ∧ H0 = H1) G) ([.ref a0] : List Value).toArray s 0 0 (fun q => G.1.2.2 ≤ q)) (F0 m 42 ls []) := by
                intro n42
                induction n42 with
                | zero => intro locs ls j42_3 j42_6 hB hl hF g42_0 g42_1 hm42; exact absurd hm42 (by have := ti_hi j42_6; omega)
                | succ n42 ih42 =>
                  intro locs ls j42_3 j42_6 hB hl hF g42_0 g42_1 hm42
                  have lj42_3 := ti_lo j42_3; have uj42_3 := ti_hi j42_3
                  have lj42_6 := ti_lo j42_6; have uj42_6 := ti_hi j42_6
                  have hm42 : (2147483648 : Int) - j42_6.toInt ≤ (n42 : Int) + 1 := by omega
                  replace hF := hF.trans (congrArg (dv_k f_X12_inner_21b) (congrArg (dv_k f_X12_inner_33b) (dv_lp_eq)))
                  replace hF := hF.trans (congrArg (dv_k f_X12_inner_21b) (congrArg (dv_k f_X12_inner_33b) (congrArg (dv_k f_X12_inner_42b) (f_X12_inner_42c.eq_1 (dv G Γ H0) (x3.toInt) (x2.toInt) ((a0 : Int)) (j21_4.toInt) (j33_5.toInt) (j42_3.toInt) (j42_6.toInt)))))
                  refine lv_iload hx hb gX12_inner_3.2.2.1 (lv_at hl 6 rfl) ?_
                  refine lv_iload_n hx hb gX12_inner_3.2.2.2.1 rfl (lv_at hl 0 rfl) ?_
                  refine tr_icmp_ge (tgt := 106) hx hb gX12_inner_3.2.2.2.2.1 (by decide) (Eq.refl _) (Eq.refl _) (fun c45 => ?_) (fun c45 => ?_)
                  · replace hF := hF.trans (congrArg (dv_k f_X12_inner_21b) (congrArg (dv_k f_X12_inner_33b) (congrArg (dv_k f_X12_inner_42b) (if_pos c45))))
                    refine tr_iinc (fun x11 => [(5, .int x11), (2, .int x3), (1, .int x2), (0, .ref a0), (4, .int j21_4), (3, .int j42_3), (6, .int j42_6)]) hx hb gX12_inner_7.2.2.2.2.1 hl (k := 4) rfl (Eq.refl _) tk_1 (by omega) (by omega) (by decide) (fun _ => rfl) (fun x11 ls ex11 hl => ?_)
                    replace hF := hF.trans (congrArg (dv_k f_X12_inner_21b) (congrArg (dv_k f_X12_inner_33b) (congrArg (dv_k f_X12_inner_42b) (dv_bn (ex11.symm)))))
                    refine lv_goto (tgt := 33) hx hb gX12_inner_7.2.2.2.2.2.1 (by decide) ?_
                    replace hF := hF.trans (congrArg (dv_k f_X12_inner_21b) (congrArg (dv_k f_X12_inner_33b) (dv_kr)))
                    replace hF := hF.trans (congrArg (dv_k f_X12_inner_21b) (dv_kl))
                    exact ih33 locs ls j42_3 x11 hB (lv_sub hl [1, 2, 3, 4, 5, 0] rfl) hF (by omega) (by omega) (by omega)
                  · replace hF := hF.trans (congrArg (dv_k f_X12_inner_21b) (congrArg (dv_k f_X12_inner_33b) (congrArg (dv_k f_X12_inner_42b) (if_neg (Int.not_le.mpr c45)))))
                    refine lv_iload hx hb gX12_inner_3.2.2.2.2.2.1 (lv_at hl 6 rfl) ?_
                    refine lv_iconst (v := 1) hx hb gX12_inner_3.2.2.2.2.2.2.1 (by decide) ?_
                    refine tr_iadd hx hb gX12_inner_3.2.2.2.2.2.2.2 (Eq.refl _) tk_1 (by omega) (by omega) (fun x12 ex12 => ?_)
                    replace hF := hF.trans (congrArg (dv_k f_X12_inner_21b) (congrArg (dv_k f_X12_inner_33b) (congrArg (dv_k f_X12_inner_42b) (dv_bn (ex12.symm)))))
                    refine lv_istore (lv' := [(7, .int x12), (2, .int x3), (1, .int x2), (0, .ref a0), (4, .int j21_4), (5, .int j33_5), (3, .int j42_3), (6, .int j42_6)]) hx hb gX12_inner_4.1 hl (by decide) rfl (fun ls hl => ?_)
                    have lp54 : ∀ (n54 : Nat) (locs : List Loc) (ls : Array Slot) (j54_3 : Int32) (j54_7 : Int32), th_B G Γ Γ [] H0 H0 locs → lv_has ls 8 [(2, .int x3), (1, .int x2), (0, .ref a0), (4, .int j21_4), (5, .int j33_5), (6, .int j42_6), (3, .int j54_3), (7, .int j54_7)] → F = dv_k f_X12_inner_21b (dv_k f_X12_inner_33b (dv_k f_X12_inner_42b (dv_lp f_X12_inner_54b (dv G Γ H0, x3.toInt, x2.toInt, (a0 : Int), j21_4.toInt, j33_5.toInt, j42_6.toInt, j54_3.toInt, j54_7.toInt)))) → 1 ≤ j54_7.toInt → j54_7.toInt ≤ 15 → (2147483648 : Int) - j54_7.toInt ≤ (n54 : Int) → W p l e ({ frames := 2, cells := 0, slots := 0, locals := 49 } : Room) s m ([.ref a0] : List Value).toArray below meth c H0 locs 0 0 (MQ below (th_Q (fun (v : Option Value) (H1 : Heap) => ∃ r : Int32, v = some (.int r) ∧ (f_X12_inner (dv G Γ H0) (a0 : Int) = (r.toInt, ())) ∧ H0 = H1) G) ([.ref a0] : List Value).toArray s 0 0 (fun q => G.1.2.2 ≤ q)) (F0 m 54 ls []) := by
                      intro n54
                      induction n54 with
                      | zero => intro locs ls j54_3 j54_7 hB hl hF g54_0 g54_1 hm54; exact absurd hm54 (by have := ti_hi j54_7; omega)
                      | succ n54 ih54 =>
                        intro locs ls j54_3 j54_7 hB hl hF g54_0 g54_1 hm54
                        have lj54_3 := ti_lo j54_3; have uj54_3 := ti_hi j54_3
                        have lj54_7 := ti_lo j54_7; have uj54_7 := ti_hi j54_7
                        have hm54 : (2147483648 : Int) - j54_7.toInt ≤ (n54 : Int) + 1 := by omega
                        replace hF := hF.trans (congrArg (dv_k f_X12_inner_21b) (congrArg (dv_k f_X12_inner_33b) (congrArg (dv_k f_X12_inner_42b) (dv_lp_eq))))
                        replace hF := hF.trans (congrArg (dv_k f_X12_inner_21b) (congrArg (dv_k f_X12_inner_33b) (congrArg (dv_k f_X12_inner_42b) (congrArg (dv_k f_X12_inner_54b) (f_X12_inner_54c.eq_1 (dv G Γ H0) (x3.toInt) (x2.toInt) ((a0 : Int)) (j21_4.toInt) (j33_5.toInt) (j42_6.toInt) (j54_3.toInt) (j54_7.toInt))))))
                        refine lv_iload hx hb gX12_inner_4.2.1 (lv_at hl 7 rfl) ?_
                        refine lv_iload_n hx hb gX12_inner_4.2.2.1 rfl (lv_at hl 0 rfl) ?_
                        refine tr_icmp_gt (tgt := 100) hx hb gX12_inner_4.2.2.2.1 (by decide) (Eq.refl _) (Eq.refl _) (fun c57 => ?_) (fun c57 => ?_)
                        · replace hF := hF.trans (congrArg (dv_k f_X12_inner_21b) (congrArg (dv_k f_X12_inner_33b) (congrArg (dv_k f_X12_inner_42b) (congrArg (dv_k f_X12_inner_54b) (if_pos c57)))))
                          refine tr_iinc (fun x13 => [(6, .int x13), (2, .int x3), (1, .int x2), (0, .ref a0), (4, .int j21_4), (5, .int j33_5), (3, .int j54_3), (7, .int j54_7)]) hx hb gX12_inner_7.2.2.1 hl (k := 5) rfl (Eq.refl _) tk_1 (by omega) (by omega) (by decide) (fun _ => rfl) (fun x13 ls ex13 hl => ?_)
                          replace hF := hF.trans (congrArg (dv_k f_X12_inner_21b) (congrArg (dv_k f_X12_inner_33b) (congrArg (dv_k f_X12_inner_42b) (congrArg (dv_k f_X12_inner_54b) (dv_bn (ex13.symm))))))
                          refine lv_goto (tgt := 42) hx hb gX12_inner_7.2.2.2.1 (by decide) ?_
                          replace hF := hF.trans (congrArg (dv_k f_X12_inner_21b) (congrArg (dv_k f_X12_inner_33b) (congrArg (dv_k f_X12_inner_42b) (dv_kr))))
                          replace hF := hF.trans (congrArg (dv_k f_X12_inner_21b) (congrArg (dv_k f_X12_inner_33b) (dv_kl)))
                          exact ih42 locs ls j54_3 x13 hB (lv_sub hl [1, 2, 3, 4, 5, 6, 0] rfl) hF (by omega) (by omega) (by omega)
                        · replace hF := hF.trans (congrArg (dv_k f_X12_inner_21b) (congrArg (dv_k f_X12_inner_33b) (congrArg (dv_k f_X12_inner_42b) (congrArg (dv_k f_X12_inner_54b) (if_neg (Int.not_lt.mpr c57))))))
                          refine lv_iload_n hx hb gX12_inner_4.2.2.2.2.1 rfl (lv_at hl 6 rfl) ?_
                          refine lv_aload_n hx hb gX12_inner_4.2.2.2.2.2.1 rfl (lv_at hl 2 rfl) ?_
                          refine lv_iload hx hb gX12_inner_4.2.2.2.2.2.2.1 (lv_at hl 3 rfl) ?_
                          refine lv_iload hx hb gX12_inner_4.2.2.2.2.2.2.2 (lv_at hl 5 rfl) ?_
                          refine lv_iload hx hb gX12_inner_5.1 (lv_at hl 4 rfl) ?_
                          refine lv_iload hx hb gX12_inner_5.2.1 (lv_at hl 7 rfl) ?_
                          refine th_call (th_runV (As := [.int j21_4, .int j42_6, .int j33_5, .int j54_7]) (rest := [.int j54_3]) hC mf_X12_within km_X12_458 im_X12_within se_X12_within (c_X12_within l G Γ H0 hB.1 hU a0 h0 j21_4 j42_6 j33_5 j54_7) rfl rfl ⟨Nat.le_of_ble_eq_true rfl, Nat.le_of_ble_eq_true rfl⟩ hB.1 h0 ro_46 rfl rfl hl.1 rfl (Nat.le_of_ble_eq_true rfl) gX12_inner_5.2.2.1 ⟨Nat.le_refl _, Nat.le_refl _⟩) hB.2.1 (fun v70 H70 locs hp hz hS => ?_)
                          obtain ⟨x14, rfl, q70_0, rfl⟩ := hp
                          have hB := th_B_s hB hS
                          replace hF := hF.trans (congrArg (dv_k f_X12_inner_21b) (congrArg (dv_k f_X12_inner_33b) (congrArg (dv_k f_X12_inner_42b) (congrArg (dv_k f_X12_inner_54b) (dv_bn2 (q70_0))))))
                          refine W.eq (g2 := F0 m 73 ls [.int x14, .int j54_3]) rfl ?_
                          refine lv_iload hx hb gX12_inner_5.2.2.2.1 (lv_at hl 4 rfl) ?_
                          refine lv_iload hx hb gX12_inner_5.2.2.2.2.1 (lv_at hl 3 rfl) ?_
                          refine tr_isub hx hb gX12_inner_5.2.2.2.2.2.1 (Eq.refl _) (Eq.refl _) (by omega) (by omega) (fun x15 ex15 => ?_)
                          replace hF := hF.trans (congrArg (dv_k f_X12_inner_21b) (congrArg (dv_k f_X12_inner_33b) (congrArg (dv_k f_X12_inner_42b) (congrArg (dv_k f_X12_inner_54b) (dv_bn (ex15.symm))))))
                          refine lv_iload hx hb gX12_inner_5.2.2.2.2.2.2.1 (lv_at hl 7 rfl) ?_
                          refine lv_iload hx hb gX12_inner_5.2.2.2.2.2.2.2 (lv_at hl 5 rfl) ?_
                          refine tr_isub hx hb gX12_inner_6.1 (Eq.refl _) (Eq.refl _) (by omega) (by omega) (fun x16 ex16 => ?_)
                          replace hF := hF.trans (congrArg (dv_k f_X12_inner_21b) (congrArg (dv_k f_X12_inner_33b) (congrArg (dv_k f_X12_inner_42b) (congrArg (dv_k f_X12_inner_54b) (dv_bn (ex16.symm))))))
                          refine lv_imul hx hb gX12_inner_6.2.1 ?_
                          refine lv_topi (fun x17 ex17 => ?_)
                          have lx17 := ti_lo x17; have ux17 := ti_hi x17
                          replace hF := hF.trans (congrArg (dv_k f_X12_inner_21b) (congrArg (dv_k f_X12_inner_33b) (congrArg (dv_k f_X12_inner_42b) (congrArg (dv_k f_X12_inner_54b) (dv_bn (dv_mul_e (Eq.refl _) (Eq.refl _) ex17))))))
                          have jn92 : ∀ (locs : List Loc) (ls : Array Slot) (s92_1 : Int32), th_B G Γ Γ [] H0 H0 locs → lv_has ls 8 [(2, .int x3), (1, .int x2), (0, .ref a0), (4, .int j21_4), (5, .int j33_5), (6, .int j42_6), (7, .int j54_7)] → F = dv_k f_X12_inner_21b (dv_k f_X12_inner_33b (dv_k f_X12_inner_42b (dv_k f_X12_inner_54b (f_X12_inner_92 (dv G Γ H0) (x3.toInt) (x2.toInt) ((a0 : Int)) (j21_4.toInt) (j33_5.toInt) (j42_6.toInt) (j54_7.toInt) (j54_3.toInt) (s92_1.toInt))))) → 0 ≤ s92_1.toInt → s92_1.toInt ≤ 1 → W p l e ({ frames := 2, cells := 0, slots := 0, locals := 49 } : Room) s m ([.ref a0] : List Value).toArray below meth c H0 locs 0 0 (MQ below (th_Q (fun (v : Option Value) (H1 : Heap) => ∃ r : Int32, v = some (.int r) ∧ (f_X12_inner (dv G Γ H0) (a0 : Int) = (r.toInt, ())) ∧ H0 = H1) G) ([.ref a0] : List Value).toArray s 0 0 (fun q => G.1.2.2 ≤ q)) (F0 m 92 ls [.int s92_1, .int j54_3]) := by
                            intro locs ls s92_1 hB hl hF g92_0 g92_1
                            have ls92_1 := ti_lo s92_1; have us92_1 := ti_hi s92_1
                            replace hF := hF.trans (congrArg (dv_k f_X12_inner_21b) (congrArg (dv_k f_X12_inner_33b) (congrArg (dv_k f_X12_inner_42b) (congrArg (dv_k f_X12_inner_54b) (f_X12_inner_92.eq_1 (dv G Γ H0) (x3.toInt) (x2.toInt) ((a0 : Int)) (j21_4.toInt) (j33_5.toInt) (j42_6.toInt) (j54_7.toInt) (j54_3.toInt) (s92_1.toInt))))))
                            refine lv_iadd hx hb gX12_inner_6.2.2.2.2.2.2.1 ?_
                            refine lv_topi (fun x18 ex18 => ?_)
                            have lx18 := ti_lo x18; have ux18 := ti_hi x18
                            replace hF := hF.trans (congrArg (dv_k f_X12_inner_21b) (congrArg (dv_k f_X12_inner_33b) (congrArg (dv_k f_X12_inner_42b) (congrArg (dv_k f_X12_inner_54b) (dv_bn (dv_add_e (Eq.refl _) (Eq.refl _) ex18))))))
                            refine lv_istore_n (lv' := [(3, .int x18), (2, .int x3), (1, .int x2), (0, .ref a0), (4, .int j21_4), (5, .int j33_5), (6, .int j42_6), (7, .int j54_7)]) hx hb gX12_inner_6.2.2.2.2.2.2.2 rfl hl (by decide) rfl (fun ls hl => ?_)
                            refine tr_iinc (fun x19 => [(7, .int x19), (3, .int x18), (2, .int x3), (1, .int x2), (0, .ref a0), (4, .int j21_4), (5, .int j33_5), (6, .int j42_6)]) hx hb gX12_inner_7.1 hl (k := 7) rfl (Eq.refl _) tk_1 (by omega) (by omega) (by decide) (fun _ => rfl) (fun x19 ls ex19 hl => ?_)
                            replace hF := hF.trans (congrArg (dv_k f_X12_inner_21b) (congrArg (dv_k f_X12_inner_33b) (congrArg (dv_k f_X12_inner_42b) (congrArg (dv_k f_X12_inner_54b) (dv_bn (ex19.symm))))))
                            refine lv_goto (tgt := 54) hx hb gX12_inner_7.2.1 (by decide) ?_
                            replace hF := hF.trans (congrArg (dv_k f_X12_inner_21b) (congrArg (dv_k f_X12_inner_33b) (congrArg (dv_k f_X12_inner_42b) (dv_kl))))
                            exact ih54 locs ls x18 x19 hB (lv_sub hl [2, 3, 4, 5, 6, 7, 1, 0] rfl) hF (by omega) (by omega) (by omega)
                          refine tr_icmp_ne (tgt := 91) hx hb gX12_inner_6.2.2.1 (by decide) (Eq.refl _) (Eq.refl _) (fun c84 => ?_) (fun c84 => ?_)
                          · replace hF := hF.trans (congrArg (dv_k f_X12_inner_21b) (congrArg (dv_k f_X12_inner_33b) (congrArg (dv_k f_X12_inner_42b) (congrArg (dv_k f_X12_inner_54b) (if_pos c84)))))
                            refine lv_iconst (v := 0) hx hb gX12_inner_6.2.2.2.2.2.1 (by decide) ?_
                            exact jn92 locs ls 0 hB (lv_sub hl [0, 1, 2, 3, 4, 5, 7] rfl) (by rw [tk_0]; exact hF) (by decide) (by decide)
                          · replace hF := hF.trans (congrArg (dv_k f_X12_inner_21b) (congrArg (dv_k f_X12_inner_33b) (congrArg (dv_k f_X12_inner_42b) (congrArg (dv_k f_X12_inner_54b) (if_neg (not_not_intro c84))))))
                            refine lv_iconst (v := 1) hx hb gX12_inner_6.2.2.2.1 (by decide) ?_
                            refine lv_goto (tgt := 92) hx hb gX12_inner_6.2.2.2.2.1 (by decide) ?_
                            exact jn92 locs ls 1 hB (lv_sub hl [0, 1, 2, 3, 4, 5, 7] rfl) (by rw [tk_1]; exact hF) (by decide) (by decide)
                    exact lp54 ((2147483648 : Int) - (x12.toInt)).toNat locs ls j42_3 x12 hB (lv_sub hl [1, 2, 3, 4, 5, 7, 6, 0] rfl) hF (by omega) (by omega) (by omega)
              exact lp42 ((2147483648 : Int) - (0)).toNat locs ls j33_3 0 hB (lv_sub hl [1, 2, 3, 4, 6, 5, 0] rfl) (by rw [tk_0]; exact hF) (by decide) (by decide) (by have w0 := tk_0; omega)
        exact lp33 ((2147483648 : Int) - (x9.toInt)).toNat locs ls j21_3 x9 hB (lv_sub hl [1, 2, 3, 5, 4, 0] rfl) hF (by omega) (by omega) (by omega)
  exact lp21 ((2147483648 : Int) - (0)).toNat [] ls 0 0 hB (lv_sub hl [2, 3, 4, 1, 0] rfl) (by rw [tk_0]; exact hF) (by decide) (by decide) (by have w0 := tk_0; omega)

set_option maxHeartbeats 4000000 in
set_option maxRecDepth 100000 in
theorem c_X12_isCross (l : Launch) (G : th_G) (Γ : th_Ga) (H0 : Heap) (hI : th_I G Γ H0) (hU : dv_U Γ) (a0 : Nat) (h0 : Γ a0 = (46, 0)) (p1 : Int32) (p2 : Int32) : Met l yX12_isCross (.code yX12_isCross cX12_isCross 8 (some FieldType.boolean) :: th_tb) ({ frames := 3, cells := 0, slots := 0, locals := 69 } : Room) (th_P [.ref a0, .int p1, .int p2] G H0) (th_Q (fun (v : Option Value) (H1 : Heap) => ∃ r : Int32, v = some (.int r) ∧ 0 ≤ r.toInt ∧ r.toInt ≤ 1 ∧ (f_X12_isCross (dv G Γ H0) (a0 : Int) p1.toInt p2.toInt = (r.toInt, ())) ∧ H0 = H1) G) 0 0 (fun q => G.1.2.2 ≤ q) := by
  refine th_met RX12 (by decide) rfl (Nat.le_of_ble_eq_true rfl) ?_
  intro p e s m below meth c hC hH hr hlocks hnm ls hl
  have hx := hC.1
  have hb := hC.2.1
  have hB : th_B G Γ Γ [] H0 H0 [] := ⟨hI, va_S.rf, th_F_rf⟩
  have hl : lv_has ls 8 [(0, .ref a0), (1, .int p1), (2, .int p2)] := hl
  have lp1 := ti_lo p1; have up1 := ti_hi p1
  have lp2 := ti_lo p2; have up2 := ti_hi p2
  obtain ⟨F, hF0⟩ : ∃ F, F = f_X12_isCross (dv G Γ H0) ((a0 : Int)) (p1.toInt) (p2.toInt) := ⟨_, rfl⟩
  have hF := hF0.trans (f_X12_isCross.eq_1 (dv G Γ H0) ((a0 : Int)) (p1.toInt) (p2.toInt))
  refine lv_aload_n hx hb gX12_isCross_0.1 rfl (lv_at hl 0 rfl) ?_
  refine lv_iload_n hx hb gX12_isCross_0.2.1 rfl (lv_at hl 1 rfl) ?_
  refine lv_iconst (v := 1) hx hb gX12_isCross_0.2.2.1 (by decide) ?_
  refine lv_isub hx hb gX12_isCross_0.2.2.2.1 ?_
  refine lv_topi (fun x1 ex1 => ?_)
  have lx1 := ti_lo x1; have ux1 := ti_hi x1
  replace hF := hF.trans (dv_bn (dv_sub_e (Eq.refl _) tk_1 ex1))
  refine lv_iload_n hx hb gX12_isCross_0.2.2.2.2.1 rfl (lv_at hl 2 rfl) ?_
  refine lv_iconst (v := 1) hx hb gX12_isCross_0.2.2.2.2.2.1 (by decide) ?_
  refine lv_isub hx hb gX12_isCross_0.2.2.2.2.2.2.1 ?_
  refine lv_topi (fun x2 ex2 => ?_)
  have lx2 := ti_lo x2; have ux2 := ti_hi x2
  replace hF := hF.trans (dv_bn (dv_sub_e (Eq.refl _) tk_1 ex2))
  refine th_call (th_runV (As := [.int x1, .int x2]) (rest := []) hC mf_X12_at km_X12_394 im_X12_at se_X12_at (c_X12_at l G Γ H0 hB.1 hU a0 h0 x1 x2) rfl rfl ⟨Nat.le_of_ble_eq_true rfl, Nat.le_of_ble_eq_true rfl⟩ hB.1 h0 ro_46 rfl rfl hl.1 rfl (Nat.le_of_ble_eq_true rfl) gX12_isCross_0.2.2.2.2.2.2.2 ⟨Nat.le_refl _, Nat.le_refl _⟩) hB.2.1 (fun v7 H7 locs hp hz hS => ?_)
  obtain ⟨x3, rfl, lx3, ux3, q7_0, rfl⟩ := hp
  have hB := th_B_s hB hS
  replace hF := hF.trans (dv_bn2 (q7_0))
  refine W.eq (g2 := F0 m 10 ls [.int x3]) rfl ?_
  refine lv_istore_n (lv' := [(3, .int x3), (0, .ref a0), (1, .int p1), (2, .int p2)]) hx hb gX12_isCross_1.1 rfl hl (by decide) rfl (fun ls hl => ?_)
  refine lv_aload_n hx hb gX12_isCross_1.2.1 rfl (lv_at hl 1 rfl) ?_
  refine lv_iload_n hx hb gX12_isCross_1.2.2.1 rfl (lv_at hl 2 rfl) ?_
  refine lv_iload_n hx hb gX12_isCross_1.2.2.2.1 rfl (lv_at hl 3 rfl) ?_
  refine lv_iconst (v := 1) hx hb gX12_isCross_1.2.2.2.2.1 (by decide) ?_
  refine lv_isub hx hb gX12_isCross_1.2.2.2.2.2.1 ?_
  refine lv_topi (fun x4 ex4 => ?_)
  have lx4 := ti_lo x4; have ux4 := ti_hi x4
  replace hF := hF.trans (dv_bn (dv_sub_e (Eq.refl _) tk_1 ex4))
  refine th_call (th_runV (As := [.int p1, .int x4]) (rest := []) hC mf_X12_at km_X12_394 im_X12_at se_X12_at (c_X12_at l G Γ H0 hB.1 hU a0 h0 p1 x4) rfl rfl ⟨Nat.le_of_ble_eq_true rfl, Nat.le_of_ble_eq_true rfl⟩ hB.1 h0 ro_46 rfl rfl hl.1 rfl (Nat.le_of_ble_eq_true rfl) gX12_isCross_1.2.2.2.2.2.2.1 ⟨Nat.le_refl _, Nat.le_refl _⟩) hB.2.1 (fun v16 H16 locs hp hz hS => ?_)
  obtain ⟨x5, rfl, lx5, ux5, q16_0, rfl⟩ := hp
  have hB := th_B_s hB hS
  replace hF := hF.trans (dv_bn2 (q16_0))
  refine W.eq (g2 := F0 m 19 ls [.int x5]) rfl ?_
  refine lv_istore (lv' := [(4, .int x5), (3, .int x3), (0, .ref a0), (1, .int p1), (2, .int p2)]) hx hb gX12_isCross_1.2.2.2.2.2.2.2 hl (by decide) rfl (fun ls hl => ?_)
  refine lv_aload_n hx hb gX12_isCross_2.1 rfl (lv_at hl 2 rfl) ?_
  refine lv_iload_n hx hb gX12_isCross_2.2.1 rfl (lv_at hl 3 rfl) ?_
  refine lv_iconst (v := 1) hx hb gX12_isCross_2.2.2.1 (by decide) ?_
  refine lv_isub hx hb gX12_isCross_2.2.2.2.1 ?_
  refine lv_topi (fun x6 ex6 => ?_)
  have lx6 := ti_lo x6; have ux6 := ti_hi x6
  replace hF := hF.trans (dv_bn (dv_sub_e (Eq.refl _) tk_1 ex6))
  refine lv_iload_n hx hb gX12_isCross_2.2.2.2.2.1 rfl (lv_at hl 4 rfl) ?_
  refine th_call (th_runV (As := [.int x6, .int p2]) (rest := []) hC mf_X12_at km_X12_394 im_X12_at se_X12_at (c_X12_at l G Γ H0 hB.1 hU a0 h0 x6 p2) rfl rfl ⟨Nat.le_of_ble_eq_true rfl, Nat.le_of_ble_eq_true rfl⟩ hB.1 h0 ro_46 rfl rfl hl.1 rfl (Nat.le_of_ble_eq_true rfl) gX12_isCross_2.2.2.2.2.2.1 ⟨Nat.le_refl _, Nat.le_refl _⟩) hB.2.1 (fun v26 H26 locs hp hz hS => ?_)
  obtain ⟨x7, rfl, lx7, ux7, q26_0, rfl⟩ := hp
  have hB := th_B_s hB hS
  replace hF := hF.trans (dv_bn2 (q26_0))
  refine W.eq (g2 := F0 m 29 ls [.int x7]) rfl ?_
  refine lv_istore (lv' := [(5, .int x7), (4, .int x5), (3, .int x3), (0, .ref a0), (1, .int p1), (2, .int p2)]) hx hb gX12_isCross_2.2.2.2.2.2.2.1 hl (by decide) rfl (fun ls hl => ?_)
  refine lv_aload_n hx hb gX12_isCross_2.2.2.2.2.2.2.2 rfl (lv_at hl 3 rfl) ?_
  refine lv_iload_n hx hb gX12_isCross_3.1 rfl (lv_at hl 4 rfl) ?_
  refine lv_iload_n hx hb gX12_isCross_3.2.1 rfl (lv_at hl 5 rfl) ?_
  refine th_call (th_runV (As := [.int p1, .int p2]) (rest := []) hC mf_X12_at km_X12_394 im_X12_at se_X12_at (c_X12_at l G Γ H0 hB.1 hU a0 h0 p1 p2) rfl rfl ⟨Nat.le_of_ble_eq_true rfl, Nat.le_of_ble_eq_true rfl⟩ hB.1 h0 ro_46 rfl rfl hl.1 rfl (Nat.le_of_ble_eq_true rfl) gX12_isCross_3.2.2.1 ⟨Nat.le_refl _, Nat.le_refl _⟩) hB.2.1 (fun v34 H34 locs hp hz hS => ?_)
  obtain ⟨x8, rfl, lx8, ux8, q34_0, rfl⟩ := hp
  have hB := th_B_s hB hS
  replace hF := hF.trans (dv_bn2 (q34_0))
  refine W.eq (g2 := F0 m 37 ls [.int x8]) rfl ?_
  refine lv_istore (lv' := [(6, .int x8), (5, .int x7), (4, .int x5), (3, .int x3), (0, .ref a0), (1, .int p1), (2, .int p2)]) hx hb gX12_isCross_3.2.2.2.1 hl (by decide) rfl (fun ls hl => ?_)
  refine lv_iload_n hx hb gX12_isCross_3.2.2.2.2.1 rfl (lv_at hl 3 rfl) ?_
  refine lv_iconst (v := (-1)) hx hb gX12_isCross_3.2.2.2.2.2.1 (by decide) ?_
  have jn67 : ∀ (locs : List Loc) (ls : Array Slot) (s67_0 : Int32), th_B G Γ Γ [] H0 H0 locs → lv_has ls 8 [(6, .int x8), (5, .int x7), (4, .int x5), (3, .int x3)] → F = f_X12_isCross_67 (dv G Γ H0) (x8.toInt) (x7.toInt) (x5.toInt) (x3.toInt) (s67_0.toInt) → 0 ≤ s67_0.toInt → s67_0.toInt ≤ 1 → W p l e ({ frames := 3, cells := 0, slots := 0, locals := 69 } : Room) s m ([.ref a0, .int p1, .int p2] : List Value).toArray below meth c H0 locs 0 0 (MQ below (th_Q (fun (v : Option Value) (H1 : Heap) => ∃ r : Int32, v = some (.int r) ∧ 0 ≤ r.toInt ∧ r.toInt ≤ 1 ∧ (f_X12_isCross (dv G Γ H0) (a0 : Int) p1.toInt p2.toInt = (r.toInt, ())) ∧ H0 = H1) G) ([.ref a0, .int p1, .int p2] : List Value).toArray s 0 0 (fun q => G.1.2.2 ≤ q)) (F0 m 67 ls [.int s67_0]) := by
    intro locs ls s67_0 hB hl hF g67_0 g67_1
    have ls67_0 := ti_lo s67_0; have us67_0 := ti_hi s67_0
    replace hF := hF.trans (f_X12_isCross_67.eq_1 (dv G Γ H0) (x8.toInt) (x7.toInt) (x5.toInt) (x3.toInt) (s67_0.toInt))
    refine lv_istore (lv' := [(7, .int s67_0), (6, .int x8), (5, .int x7), (4, .int x5), (3, .int x3)]) hx hb gX12_isCross_5.2.2.2.1 hl (by decide) rfl (fun ls hl => ?_)
    refine lv_iload hx hb gX12_isCross_5.2.2.2.2.1 (lv_at hl 0 rfl) ?_
    refine tr_if_eq (tgt := 117) hx hb gX12_isCross_5.2.2.2.2.2.1 (by decide) (Eq.refl _) (fun c71 => ?_) (fun c71 => ?_)
    · replace hF := hF.trans (if_pos c71)
      refine lv_iconst (v := 0) hx hb gX12_isCross_8.2.2.1 (by decide) ?_
      exact th_iret hC hH hr hlocks narrow_b0 hB.2.1 ⟨_, rfl, by decide, by decide, (hF0.symm.trans (hF.trans (by rw [tk_0]))), rfl⟩ gX12_isCross_8.2.2.2
    · replace hF := hF.trans (if_neg c71)
      refine lv_iload_n hx hb gX12_isCross_5.2.2.2.2.2.2.1 rfl (lv_at hl 4 rfl) ?_
      refine lv_iload hx hb gX12_isCross_5.2.2.2.2.2.2.2 (lv_at hl 3 rfl) ?_
      refine tr_icmp_eq (tgt := 117) hx hb gX12_isCross_6.1 (by decide) (Eq.refl _) (Eq.refl _) (fun c77 => ?_) (fun c77 => ?_)
      · replace hF := hF.trans (if_pos c77)
        refine lv_iconst (v := 0) hx hb gX12_isCross_8.2.2.1 (by decide) ?_
        exact th_iret hC hH hr hlocks narrow_b0 hB.2.1 ⟨_, rfl, by decide, by decide, (hF0.symm.trans (hF.trans (by rw [tk_0]))), rfl⟩ gX12_isCross_8.2.2.2
      · replace hF := hF.trans (if_neg c77)
        refine lv_iload_n hx hb gX12_isCross_6.2.1 rfl (lv_at hl 4 rfl) ?_
        refine lv_iload hx hb gX12_isCross_6.2.2.1 (lv_at hl 2 rfl) ?_
        refine tr_icmp_eq (tgt := 117) hx hb gX12_isCross_6.2.2.2.1 (by decide) (Eq.refl _) (Eq.refl _) (fun c83 => ?_) (fun c83 => ?_)
        · replace hF := hF.trans (if_pos c83)
          refine lv_iconst (v := 0) hx hb gX12_isCross_8.2.2.1 (by decide) ?_
          exact th_iret hC hH hr hlocks narrow_b0 hB.2.1 ⟨_, rfl, by decide, by decide, (hF0.symm.trans (hF.trans (by rw [tk_0]))), rfl⟩ gX12_isCross_8.2.2.2
        · replace hF := hF.trans (if_neg c83)
          refine lv_iload_n hx hb gX12_isCross_6.2.2.2.2.1 rfl (lv_at hl 4 rfl) ?_
          refine lv_iload hx hb gX12_isCross_6.2.2.2.2.2.1 (lv_at hl 1 rfl) ?_
          refine tr_icmp_eq (tgt := 117) hx hb gX12_isCross_6.2.2.2.2.2.2.1 (by decide) (Eq.refl _) (Eq.refl _) (fun c89 => ?_) (fun c89 => ?_)
          · replace hF := hF.trans (if_pos c89)
            refine lv_iconst (v := 0) hx hb gX12_isCross_8.2.2.1 (by decide) ?_
            exact th_iret hC hH hr hlocks narrow_b0 hB.2.1 ⟨_, rfl, by decide, by decide, (hF0.symm.trans (hF.trans (by rw [tk_0]))), rfl⟩ gX12_isCross_8.2.2.2
          · replace hF := hF.trans (if_neg c89)
            refine lv_iload hx hb gX12_isCross_6.2.2.2.2.2.2.2 (lv_at hl 3 rfl) ?_
            refine lv_iload hx hb gX12_isCross_7.1 (lv_at hl 2 rfl) ?_
            refine tr_icmp_eq (tgt := 117) hx hb gX12_isCross_7.2.1 (by decide) (Eq.refl _) (Eq.refl _) (fun c96 => ?_) (fun c96 => ?_)
            · replace hF := hF.trans (if_pos c96)
              refine lv_iconst (v := 0) hx hb gX12_isCross_8.2.2.1 (by decide) ?_
              exact th_iret hC hH hr hlocks narrow_b0 hB.2.1 ⟨_, rfl, by decide, by decide, (hF0.symm.trans (hF.trans (by rw [tk_0]))), rfl⟩ gX12_isCross_8.2.2.2
            · replace hF := hF.trans (if_neg c96)
              refine lv_iload hx hb gX12_isCross_7.2.2.1 (lv_at hl 3 rfl) ?_
              refine lv_iload hx hb gX12_isCross_7.2.2.2.1 (lv_at hl 1 rfl) ?_
              refine tr_icmp_eq (tgt := 117) hx hb gX12_isCross_7.2.2.2.2.1 (by decide) (Eq.refl _) (Eq.refl _) (fun c103 => ?_) (fun c103 => ?_)
              · replace hF := hF.trans (if_pos c103)
                refine lv_iconst (v := 0) hx hb gX12_isCross_8.2.2.1 (by decide) ?_
                exact th_iret hC hH hr hlocks narrow_b0 hB.2.1 ⟨_, rfl, by decide, by decide, (hF0.symm.trans (hF.trans (by rw [tk_0]))), rfl⟩ gX12_isCross_8.2.2.2
              · replace hF := hF.trans (if_neg c103)
                refine lv_iload hx hb gX12_isCross_7.2.2.2.2.2.1 (lv_at hl 2 rfl) ?_
                refine lv_iload hx hb gX12_isCross_7.2.2.2.2.2.2.1 (lv_at hl 1 rfl) ?_
                refine tr_icmp_eq (tgt := 117) hx hb gX12_isCross_7.2.2.2.2.2.2.2 (by decide) (Eq.refl _) (Eq.refl _) (fun c110 => ?_) (fun c110 => ?_)
                · replace hF := hF.trans (if_pos c110)
                  refine lv_iconst (v := 0) hx hb gX12_isCross_8.2.2.1 (by decide) ?_
                  exact th_iret hC hH hr hlocks narrow_b0 hB.2.1 ⟨_, rfl, by decide, by decide, (hF0.symm.trans (hF.trans (by rw [tk_0]))), rfl⟩ gX12_isCross_8.2.2.2
                · replace hF := hF.trans (if_neg c110)
                  refine lv_iconst (v := 1) hx hb gX12_isCross_8.1 (by decide) ?_
                  refine lv_goto (tgt := 118) hx hb gX12_isCross_8.2.1 (by decide) ?_
                  exact th_iret hC hH hr hlocks narrow_b1 hB.2.1 ⟨_, rfl, by decide, by decide, (hF0.symm.trans (hF.trans (by rw [tk_1]))), rfl⟩ gX12_isCross_8.2.2.2
  have jn66 : ∀ (locs : List Loc) (ls : Array Slot) , th_B G Γ Γ [] H0 H0 locs → lv_has ls 8 [(6, .int x8), (5, .int x7), (4, .int x5), (3, .int x3)] → F = f_X12_isCross_66 (dv G Γ H0) (x8.toInt) (x7.toInt) (x5.toInt) (x3.toInt) → W p l e ({ frames := 3, cells := 0, slots := 0, locals := 69 } : Room) s m ([.ref a0, .int p1, .int p2] : List Value).toArray below meth c H0 locs 0 0 (MQ below (th_Q (fun (v : Option Value) (H1 : Heap) => ∃ r : Int32, v = some (.int r) ∧ 0 ≤ r.toInt ∧ r.toInt ≤ 1 ∧ (f_X12_isCross (dv G Γ H0) (a0 : Int) p1.toInt p2.toInt = (r.toInt, ())) ∧ H0 = H1) G) ([.ref a0, .int p1, .int p2] : List Value).toArray s 0 0 (fun q => G.1.2.2 ≤ q)) (F0 m 66 ls []) := by
    intro locs ls hB hl hF
    replace hF := hF.trans (f_X12_isCross_66.eq_1 (dv G Γ H0) (x8.toInt) (x7.toInt) (x5.toInt) (x3.toInt))
    refine lv_iconst (v := 0) hx hb gX12_isCross_5.2.2.1 (by decide) ?_
    exact jn67 locs ls 0 hB (lv_sub hl [0, 1, 2, 3] rfl) (by rw [tk_0]; exact hF) (by decide) (by decide)
  refine tr_icmp_eq (tgt := 66) hx hb gX12_isCross_3.2.2.2.2.2.2.1 (by decide) (Eq.refl _) tk_m1 (fun c41 => ?_) (fun c41 => ?_)
  · replace hF := hF.trans (if_pos c41)
    exact jn66 locs ls hB (lv_sub hl [0, 1, 2, 3] rfl) hF
  · replace hF := hF.trans (if_neg c41)
    refine lv_iload hx hb gX12_isCross_3.2.2.2.2.2.2.2 (lv_at hl 2 rfl) ?_
    refine lv_iconst (v := (-1)) hx hb gX12_isCross_4.1 (by decide) ?_
    refine tr_icmp_eq (tgt := 66) hx hb gX12_isCross_4.2.1 (by decide) (Eq.refl _) tk_m1 (fun c47 => ?_) (fun c47 => ?_)
    · replace hF := hF.trans (if_pos c47)
      exact jn66 locs ls hB (lv_sub hl [0, 1, 2, 3] rfl) hF
    · replace hF := hF.trans (if_neg c47)
      refine lv_iload hx hb gX12_isCross_4.2.2.1 (lv_at hl 1 rfl) ?_
      refine lv_iconst (v := (-1)) hx hb gX12_isCross_4.2.2.2.1 (by decide) ?_
      refine tr_icmp_eq (tgt := 66) hx hb gX12_isCross_4.2.2.2.2.1 (by decide) (Eq.refl _) tk_m1 (fun c53 => ?_) (fun c53 => ?_)
      · replace hF := hF.trans (if_pos c53)
        exact jn66 locs ls hB (lv_sub hl [0, 1, 2, 3] rfl) hF
      · replace hF := hF.trans (if_neg c53)
        refine lv_iload hx hb gX12_isCross_4.2.2.2.2.2.1 (lv_at hl 0 rfl) ?_
        refine lv_iconst (v := (-1)) hx hb gX12_isCross_4.2.2.2.2.2.2.1 (by decide) ?_
        refine tr_icmp_eq (tgt := 66) hx hb gX12_isCross_4.2.2.2.2.2.2.2 (by decide) (Eq.refl _) tk_m1 (fun c59 => ?_) (fun c59 => ?_)
        · replace hF := hF.trans (if_pos c59)
          exact jn66 locs ls hB (lv_sub hl [0, 1, 2, 3] rfl) hF
        · replace hF := hF.trans (if_neg c59)
          refine lv_iconst (v := 1) hx hb gX12_isCross_5.1 (by decide) ?_
          refine lv_goto (tgt := 67) hx hb gX12_isCross_5.2.1 (by decide) ?_
          exact jn67 locs ls 1 hB (lv_sub hl [0, 1, 2, 3] rfl) (by rw [tk_1]; exact hF) (by decide) (by decide)

set_option maxHeartbeats 4000000 in
set_option maxRecDepth 100000 in
theorem c_X12_crosses (l : Launch) (G : th_G) (Γ : th_Ga) (H0 : Heap) (hI : th_I G Γ H0) (hU : dv_U Γ) (a0 : Nat) (h0 : Γ a0 = (46, 0)) : Met l yX12_crosses (.code yX12_crosses cX12_crosses 4 (some FieldType.int) :: th_tb) ({ frames := 4, cells := 0, slots := 0, locals := 96 } : Room) (th_P [.ref a0] G H0) (th_Q (fun (v : Option Value) (H1 : Heap) => ∃ r : Int32, v = some (.int r) ∧ (f_X12_crosses (dv G Γ H0) (a0 : Int) = (r.toInt, ())) ∧ H0 = H1) G) 0 0 (fun q => G.1.2.2 ≤ q) := by
  refine th_met RX12 (by decide) rfl (Nat.le_of_ble_eq_true rfl) ?_
  intro p e s m below meth c hC hH hr hlocks hnm ls hl
  have hx := hC.1
  have hb := hC.2.1
  have hB : th_B G Γ Γ [] H0 H0 [] := ⟨hI, va_S.rf, th_F_rf⟩
  have hl : lv_has ls 4 [(0, .ref a0)] := hl
  obtain ⟨F, hF0⟩ : ∃ F, F = f_X12_crosses (dv G Γ H0) ((a0 : Int)) := ⟨_, rfl⟩
  have hF := hF0.trans (f_X12_crosses.eq_1 (dv G Γ H0) ((a0 : Int)))
  refine lv_iconst (v := 0) hx hb gX12_crosses_0.1 (by decide) ?_
  refine lv_istore_n (lv' := [(1, .int 0), (0, .ref a0)]) hx hb gX12_crosses_0.2.1 rfl hl (by decide) rfl (fun ls hl => ?_)
  refine lv_iconst (v := 1) hx hb gX12_crosses_0.2.2.1 (by decide) ?_
  refine lv_istore_n (lv' := [(2, .int 1), (1, .int 0), (0, .ref a0)]) hx hb gX12_crosses_0.2.2.2.1 rfl hl (by decide) rfl (fun ls hl => ?_)
  have lp4 : ∀ (n4 : Nat) (locs : List Loc) (ls : Array Slot) (j4_1 : Int32) (j4_2 : Int32), th_B G Γ Γ [] H0 H0 locs → lv_has ls 4 [(0, .ref a0), (1, .int j4_1), (2, .int j4_2)] → F = dv_lp f_X12_crosses_4b (dv G Γ H0, (a0 : Int), j4_1.toInt, j4_2.toInt) → 1 ≤ j4_2.toInt → j4_2.toInt ≤ 12 → (2147483648 : Int) - j4_2.toInt ≤ (n4 : Int) → W p l e ({ frames := 4, cells := 0, slots := 0, locals := 96 } : Room) s m ([.ref a0] : List Value).toArray below meth c H0 locs 0 0 (MQ below (th_Q (fun (v : Option Value) (H1 : Heap) => ∃ r : Int32, v = some (.int r) ∧ (f_X12_crosses (dv G Γ H0) (a0 : Int) = (r.toInt, ())) ∧ H0 = H1) G) ([.ref a0] : List Value).toArray s 0 0 (fun q => G.1.2.2 ≤ q)) (F0 m 4 ls []) := by
    intro n4
    induction n4 with
    | zero => intro locs ls j4_1 j4_2 hB hl hF g4_0 g4_1 hm4; exact absurd hm4 (by have := ti_hi j4_2; omega)
    | succ n4 ih4 =>
      intro locs ls j4_1 j4_2 hB hl hF g4_0 g4_1 hm4
      have lj4_1 := ti_lo j4_1; have uj4_1 := ti_hi j4_1
      have lj4_2 := ti_lo j4_2; have uj4_2 := ti_hi j4_2
      have hm4 : (2147483648 : Int) - j4_2.toInt ≤ (n4 : Int) + 1 := by omega
      replace hF := hF.trans (dv_lp_eq)
      replace hF := hF.trans (congrArg (dv_k f_X12_crosses_4b) (f_X12_crosses_4c.eq_1 (dv G Γ H0) ((a0 : Int)) (j4_1.toInt) (j4_2.toInt)))
      refine lv_iload_n hx hb gX12_crosses_0.2.2.2.2.1 rfl (lv_at hl 2 rfl) ?_
      refine lv_aload_n hx hb gX12_crosses_0.2.2.2.2.2.1 rfl (lv_at hl 0 rfl) ?_
      refine th_getO (j := 2) (r2 := 48) hC cf_X12 hB.1 h0 ro_46 rfl rfl kf_X12_28 gX12_crosses_0.2.2.2.2.2.2.1 (fun b1 mb1 hb1 => ?_)
      refine lv_bipush (v := 67) hx hb gX12_crosses_0.2.2.2.2.2.2.2 (by decide) ?_
      refine th_ialdF hC hB.1 hb1 ro_48 rfl tk_67 (by omega) (by omega) (ek_hall (by omega) (by omega)) gX12_crosses_1.1 (fun x2 mx2 lx2 ux2 => ?_)
      replace hF := hF.trans (congrArg (dv_k f_X12_crosses_4b) (dv_bn (dv_aldI hB.1 hU hb1 ow_48 (z := 67) mx2 (by omega))))
      refine tr_icmp_ge (tgt := 57) hx hb gX12_crosses_1.2.1 (by decide) (Eq.refl _) (Eq.refl _) (fun c12 => ?_) (fun c12 => ?_)
      · replace hF := hF.trans (congrArg (dv_k f_X12_crosses_4b) (if_pos c12))
        refine lv_iload_n hx hb gX12_crosses_4.2.1 rfl (lv_at hl 1 rfl) ?_
        replace hF := hF.trans (dv_kr)
        exact th_iret hC hH hr hlocks rfl hB.2.1 ⟨_, rfl, (hF0.symm.trans hF), rfl⟩ gX12_crosses_4.2.2
      · replace hF := hF.trans (congrArg (dv_k f_X12_crosses_4b) (if_neg (Int.not_le.mpr c12)))
        refine lv_iconst (v := 1) hx hb gX12_crosses_1.2.2.1 (by decide) ?_
        refine lv_istore_n (lv' := [(3, .int 1), (0, .ref a0), (1, .int j4_1), (2, .int j4_2)]) hx hb gX12_crosses_1.2.2.2.1 rfl hl (by decide) rfl (fun ls hl => ?_)
        have lp17 : ∀ (n17 : Nat) (locs : List Loc) (ls : Array Slot) (j17_1 : Int32) (j17_3 : Int32), th_B G Γ Γ [] H0 H0 locs → lv_has ls 4 [(0, .ref a0), (2, .int j4_2), (1, .int j17_1), (3, .int j17_3)] → F = dv_k f_X12_crosses_4b (dv_lp f_X12_crosses_17b (dv G Γ H0, (a0 : Int), j4_2.toInt, j17_1.toInt, j17_3.toInt)) → 1 ≤ j17_3.toInt → j17_3.toInt ≤ 12 → (2147483648 : Int) - j17_3.toInt ≤ (n17 : Int) → W p l e ({ frames := 4, cells := 0, slots := 0, locals := 96 } : Room) s m ([.ref a0] : List Value).toArray below meth c H0 locs 0 0 (MQ below (th_Q (fun (v : Option Value) (H1 : Heap) => ∃ r : Int32, v = some (.int r) ∧ (f_X12_crosses (dv G Γ H0) (a0 : Int) = (r.toInt, ())) ∧ H0 = H1) G) ([.ref a0] : List Value).toArray s 0 0 (fun q => G.1.2.2 ≤ q)) (F0 m 17 ls []) := by
          intro n17
          induction n17 with
          | zero => intro locs ls j17_1 j17_3 hB hl hF g17_0 g17_1 hm17; exact absurd hm17 (by have := ti_hi j17_3; omega)
          | succ n17 ih17 =>
            intro locs ls j17_1 j17_3 hB hl hF g17_0 g17_1 hm17
            have lj17_1 := ti_lo j17_1; have uj17_1 := ti_hi j17_1
            have lj17_3 := ti_lo j17_3; have uj17_3 := ti_hi j17_3
            have hm17 : (2147483648 : Int) - j17_3.toInt ≤ (n17 : Int) + 1 := by omega
            replace hF := hF.trans (congrArg (dv_k f_X12_crosses_4b) (dv_lp_eq))
            replace hF := hF.trans (congrArg (dv_k f_X12_crosses_4b) (congrArg (dv_k f_X12_crosses_17b) (f_X12_crosses_17c.eq_1 (dv G Γ H0) ((a0 : Int)) (j4_2.toInt) (j17_1.toInt) (j17_3.toInt))))
            refine lv_iload_n hx hb gX12_crosses_1.2.2.2.2.1 rfl (lv_at hl 3 rfl) ?_
            refine lv_aload_n hx hb gX12_crosses_1.2.2.2.2.2.1 rfl (lv_at hl 0 rfl) ?_
            refine th_getK hC cf_X12 hB.1 h0 ro_46 rfl (j := 2) (by decide) mb1 kf_X12_28 gX12_crosses_1.2.2.2.2.2.2.1 ?_
            refine lv_bipush (v := 68) hx hb gX12_crosses_1.2.2.2.2.2.2.2 (by decide) ?_
            refine th_ialdF hC hB.1 hb1 ro_48 rfl tk_68 (by omega) (by omega) (ek_hall (by omega) (by omega)) gX12_crosses_2.1 (fun x3 mx3 lx3 ux3 => ?_)
            replace hF := hF.trans (congrArg (dv_k f_X12_crosses_4b) (congrArg (dv_k f_X12_crosses_17b) (dv_bn (dv_aldI hB.1 hU hb1 ow_48 (z := 68) mx3 (by omega)))))
            refine tr_icmp_ge (tgt := 51) hx hb gX12_crosses_2.2.1 (by decide) (Eq.refl _) (Eq.refl _) (fun c25 => ?_) (fun c25 => ?_)
            · replace hF := hF.trans (congrArg (dv_k f_X12_crosses_4b) (congrArg (dv_k f_X12_crosses_17b) (if_pos c25)))
              refine tr_iinc (fun x4 => [(2, .int x4), (0, .ref a0), (1, .int j17_1), (3, .int j17_3)]) hx hb gX12_crosses_3.2.2.2.2.2.2.2 hl (k := 1) rfl (Eq.refl _) tk_1 (by omega) (by omega) (by decide) (fun _ => rfl) (fun x4 ls ex4 hl => ?_)
              replace hF := hF.trans (congrArg (dv_k f_X12_crosses_4b) (congrArg (dv_k f_X12_crosses_17b) (dv_bn (ex4.symm))))
              refine lv_goto (tgt := 4) hx hb gX12_crosses_4.1 (by decide) ?_
              replace hF := hF.trans (congrArg (dv_k f_X12_crosses_4b) (dv_kr))
              replace hF := hF.trans (dv_kl)
              exact ih4 locs ls j17_1 x4 hB (lv_sub hl [1, 2, 0] rfl) hF (by omega) (by omega) (by omega)
            · replace hF := hF.trans (congrArg (dv_k f_X12_crosses_4b) (congrArg (dv_k f_X12_crosses_17b) (if_neg (Int.not_le.mpr c25))))
              refine lv_iload_n hx hb gX12_crosses_2.2.2.1 rfl (lv_at hl 2 rfl) ?_
              refine lv_aload_n hx hb gX12_crosses_2.2.2.2.1 rfl (lv_at hl 0 rfl) ?_
              refine lv_iload_n hx hb gX12_crosses_2.2.2.2.2.1 rfl (lv_at hl 1 rfl) ?_
              refine lv_iload_n hx hb gX12_crosses_2.2.2.2.2.2.1 rfl (lv_at hl 3 rfl) ?_
              refine th_call (th_runV (As := [.int j4_2, .int j17_3]) (rest := [.int j17_1]) hC mf_X12_isCross km_X12_462 im_X12_isCross se_X12_isCross (c_X12_isCross l G Γ H0 hB.1 hU a0 h0 j4_2 j17_3) rfl rfl ⟨Nat.le_of_ble_eq_true rfl, Nat.le_of_ble_eq_true rfl⟩ hB.1 h0 ro_46 rfl rfl hl.1 rfl (Nat.le_of_ble_eq_true rfl) gX12_crosses_2.2.2.2.2.2.2.1 ⟨Nat.le_refl _, Nat.le_refl _⟩) hB.2.1 (fun v32 H32 locs hp hz hS => ?_)
              obtain ⟨x5, rfl, lx5, ux5, q32_0, rfl⟩ := hp
              have hB := th_B_s hB hS
              replace hF := hF.trans (congrArg (dv_k f_X12_crosses_4b) (congrArg (dv_k f_X12_crosses_17b) (dv_bn2 (q32_0))))
              refine W.eq (g2 := F0 m 35 ls [.int x5, .int j17_1]) rfl ?_
              have jn43 : ∀ (locs : List Loc) (ls : Array Slot) (s43_1 : Int32), th_B G Γ Γ [] H0 H0 locs → lv_has ls 4 [(0, .ref a0), (2, .int j4_2), (3, .int j17_3)] → F = dv_k f_X12_crosses_4b (dv_k f_X12_crosses_17b (f_X12_crosses_43 (dv G Γ H0) ((a0 : Int)) (j4_2.toInt) (j17_3.toInt) (j17_1.toInt) (s43_1.toInt))) → 0 ≤ s43_1.toInt → s43_1.toInt ≤ 1 → W p l e ({ frames := 4, cells := 0, slots := 0, locals := 96 } : Room) s m ([.ref a0] : List Value).toArray below meth c H0 locs 0 0 (MQ below (th_Q (fun (v : Option Value) (H1 : Heap) => ∃ r : Int32, v = some (.int r) ∧ (f_X12_crosses (dv G Γ H0) (a0 : Int) = (r.toInt, ())) ∧ H0 = H1) G) ([.ref a0] : List Value).toArray s 0 0 (fun q => G.1.2.2 ≤ q)) (F0 m 43 ls [.int s43_1, .int j17_1]) := by
                intro locs ls s43_1 hB hl hF g43_0 g43_1
                have ls43_1 := ti_lo s43_1; have us43_1 := ti_hi s43_1
                replace hF := hF.trans (congrArg (dv_k f_X12_crosses_4b) (congrArg (dv_k f_X12_crosses_17b) (f_X12_crosses_43.eq_1 (dv G Γ H0) ((a0 : Int)) (j4_2.toInt) (j17_3.toInt) (j17_1.toInt) (s43_1.toInt))))
                refine lv_iadd hx hb gX12_crosses_3.2.2.2.1 ?_
                refine lv_topi (fun x6 ex6 => ?_)
                have lx6 := ti_lo x6; have ux6 := ti_hi x6
                replace hF := hF.trans (congrArg (dv_k f_X12_crosses_4b) (congrArg (dv_k f_X12_crosses_17b) (dv_bn (dv_add_e (Eq.refl _) (Eq.refl _) ex6))))
                refine lv_istore_n (lv' := [(1, .int x6), (0, .ref a0), (2, .int j4_2), (3, .int j17_3)]) hx hb gX12_crosses_3.2.2.2.2.1 rfl hl (by decide) rfl (fun ls hl => ?_)
                refine tr_iinc (fun x7 => [(3, .int x7), (1, .int x6), (0, .ref a0), (2, .int j4_2)]) hx hb gX12_crosses_3.2.2.2.2.2.1 hl (k := 3) rfl (Eq.refl _) tk_1 (by omega) (by omega) (by decide) (fun _ => rfl) (fun x7 ls ex7 hl => ?_)
                replace hF := hF.trans (congrArg (dv_k f_X12_crosses_4b) (congrArg (dv_k f_X12_crosses_17b) (dv_bn (ex7.symm))))
                refine lv_goto (tgt := 17) hx hb gX12_crosses_3.2.2.2.2.2.2.1 (by decide) ?_
                replace hF := hF.trans (congrArg (dv_k f_X12_crosses_4b) (dv_kl))
                exact ih17 locs ls x6 x7 hB (lv_sub hl [2, 3, 1, 0] rfl) hF (by omega) (by omega) (by omega)
              refine tr_if_eq (tgt := 42) hx hb gX12_crosses_2.2.2.2.2.2.2.2 (by decide) (Eq.refl _) (fun c35 => ?_) (fun c35 => ?_)
              · replace hF := hF.trans (congrArg (dv_k f_X12_crosses_4b) (congrArg (dv_k f_X12_crosses_17b) (if_pos c35)))
                refine lv_iconst (v := 0) hx hb gX12_crosses_3.2.2.1 (by decide) ?_
                exact jn43 locs ls 0 hB (lv_sub hl [0, 1, 3] rfl) (by rw [tk_0]; exact hF) (by decide) (by decide)
              · replace hF := hF.trans (congrArg (dv_k f_X12_crosses_4b) (congrArg (dv_k f_X12_crosses_17b) (if_neg c35)))
                refine lv_iconst (v := 1) hx hb gX12_crosses_3.1 (by decide) ?_
                refine lv_goto (tgt := 43) hx hb gX12_crosses_3.2.1 (by decide) ?_
                exact jn43 locs ls 1 hB (lv_sub hl [0, 1, 3] rfl) (by rw [tk_1]; exact hF) (by decide) (by decide)
        exact lp17 ((2147483648 : Int) - (1)).toNat locs ls j4_1 1 hB (lv_sub hl [1, 3, 2, 0] rfl) (by rw [tk_1]; exact hF) (by decide) (by decide) (by have w0 := tk_1; omega)
  exact lp4 ((2147483648 : Int) - (1)).toNat [] ls 0 1 hB (lv_sub hl [2, 1, 0] rfl) (by rw [tk_0, tk_1]; exact hF) (by decide) (by decide) (by have w0 := tk_0; have w1 := tk_1; omega)

set_option maxHeartbeats 4000000 in
set_option maxRecDepth 100000 in
theorem c_X12_currents (l : Launch) (G : th_G) (Γ : th_Ga) (H0 : Heap) (hI : th_I G Γ H0) (hU : dv_U Γ) (a0 : Nat) (h0 : Γ a0 = (46, 0)) (p1 : Int32) (p2 : Int32) : Met l yX12_currents (.code yX12_currents cX12_currents 5 (some FieldType.int) :: th_tb) ({ frames := 1, cells := 0, slots := 0, locals := 22 } : Room) (th_P [.ref a0, .int p1, .int p2] G H0) (th_Q (fun (v : Option Value) (H1 : Heap) => ∃ r : Int32, v = some (.int r) ∧ (f_X12_currents (dv G Γ H0) (a0 : Int) p1.toInt p2.toInt = (r.toInt, ())) ∧ H0 = H1) G) 0 0 (fun q => G.1.2.2 ≤ q) := by
  refine th_met RX12 (by decide) rfl (Nat.le_of_ble_eq_true rfl) ?_
  intro p e s m below meth c hC hH hr hlocks hnm ls hl
  have hx := hC.1
  have hb := hC.2.1
  have hB : th_B G Γ Γ [] H0 H0 [] := ⟨hI, va_S.rf, th_F_rf⟩
  have hl : lv_has ls 5 [(0, .ref a0), (1, .int p1), (2, .int p2)] := hl
  have lp1 := ti_lo p1; have up1 := ti_hi p1
  have lp2 := ti_lo p2; have up2 := ti_hi p2
  obtain ⟨F, hF0⟩ : ∃ F, F = f_X12_currents (dv G Γ H0) ((a0 : Int)) (p1.toInt) (p2.toInt) := ⟨_, rfl⟩
  have hF := hF0.trans (f_X12_currents.eq_1 (dv G Γ H0) ((a0 : Int)) (p1.toInt) (p2.toInt))
  refine lv_iload_n hx hb gX12_currents_0.1 rfl (lv_at hl 1 rfl) ?_
  refine lv_iconst (v := 0) hx hb gX12_currents_0.2.1 (by decide) ?_
  refine lv_aload_n hx hb gX12_currents_0.2.2.1 rfl (lv_at hl 0 rfl) ?_
  refine th_getO (j := 2) (r2 := 48) hC cf_X12 hB.1 h0 ro_46 rfl rfl kf_X12_28 gX12_currents_0.2.2.2.1 (fun b1 mb1 hb1 => ?_)
  refine lv_bipush (v := 68) hx hb gX12_currents_0.2.2.2.2.1 (by decide) ?_
  refine th_ialdF hC hB.1 hb1 ro_48 rfl tk_68 (by omega) (by omega) (ek_hall (by omega) (by omega)) gX12_currents_0.2.2.2.2.2.1 (fun x2 mx2 lx2 ux2 => ?_)
  replace hF := hF.trans (dv_bn (dv_aldI hB.1 hU hb1 ow_48 (z := 68) mx2 (by omega)))
  refine th_call (th_runS (As := [.int p1, .int 0, .int x2]) (rest := []) hC mf_X12_lies km_X12_18 st_X12_lies (c_X12_lies l G Γ H0 hB.1 hU p1 0 x2) rfl rfl ⟨Nat.le_of_ble_eq_true rfl, Nat.le_of_ble_eq_true rfl⟩ rfl hl.1 rfl (Nat.le_of_ble_eq_true rfl) gX12_currents_0.2.2.2.2.2.2.1 ⟨Nat.le_refl _, Nat.le_refl _⟩) hB.2.1 (fun v9 H9 locs hp hz hS => ?_)
  obtain ⟨x3, rfl, lx3, ux3, q9_0, q9_1, q9_2, rfl⟩ := hp
  have hB := th_B_s hB hS
  have w9_1 := tk_0
  have zf9 := q9_2
  rw [tk_0] at zf9
  replace hF := hF.trans (dv_bn2 (zf9))
  refine W.eq (g2 := F0 m 12 ls [.int x3]) rfl ?_
  refine tr_if_eq (tgt := 24) hx hb gX12_currents_0.2.2.2.2.2.2.2 (by decide) (Eq.refl _) (fun c12 => ?_) (fun c12 => ?_)
  · replace hF := hF.trans (if_pos c12)
    refine lv_iconst (v := (-1)) hx hb gX12_currents_1.2.2.2.2.2.1 (by decide) ?_
    exact th_iret hC hH hr hlocks rfl hB.2.1 ⟨_, rfl, (hF0.symm.trans (hF.trans (by rw [tk_m1]))), rfl⟩ gX12_currents_1.2.2.2.2.2.2.1
  · replace hF := hF.trans (if_neg c12)
    refine lv_iload_n hx hb gX12_currents_1.1 rfl (lv_at hl 2 rfl) ?_
    refine lv_iconst (v := 0) hx hb gX12_currents_1.2.1 (by decide) ?_
    refine lv_iconst (v := 1) hx hb gX12_currents_1.2.2.1 (by decide) ?_
    refine th_call (th_runS (As := [.int p2, .int 0, .int 1]) (rest := []) hC mf_X12_lies km_X12_18 st_X12_lies (c_X12_lies l G Γ H0 hB.1 hU p2 0 1) rfl rfl ⟨Nat.le_of_ble_eq_true rfl, Nat.le_of_ble_eq_true rfl⟩ rfl hl.1 rfl (Nat.le_of_ble_eq_true rfl) gX12_currents_1.2.2.2.1 ⟨Nat.le_refl _, Nat.le_refl _⟩) hB.2.1 (fun v18 H18 locs hp hz hS => ?_)
    obtain ⟨x4, rfl, lx4, ux4, q18_0, q18_1, q18_2, rfl⟩ := hp
    have hB := th_B_s hB hS
    have w18_1 := tk_0
    have w18_2 := tk_1
    have zf18 := q18_2
    rw [tk_0, tk_1] at zf18
    replace hF := hF.trans (dv_bn2 (zf18))
    refine W.eq (g2 := F0 m 21 ls [.int x4]) rfl ?_
    refine tr_if_ne (tgt := 26) hx hb gX12_currents_1.2.2.2.2.1 (by decide) (Eq.refl _) (fun c21 => ?_) (fun c21 => ?_)
    · replace hF := hF.trans (if_pos c21)
      refine lv_iconst (v := 0) hx hb gX12_currents_1.2.2.2.2.2.2.2 (by decide) ?_
      refine lv_istore_n (lv' := [(3, .int 0), (0, .ref a0), (1, .int p1), (2, .int p2)]) hx hb gX12_currents_2.1 rfl hl (by decide) rfl (fun ls hl => ?_)
      refine lv_iconst (v := 0) hx hb gX12_currents_2.2.1 (by decide) ?_
      refine lv_istore (lv' := [(4, .int 0), (3, .int 0), (0, .ref a0), (1, .int p1), (2, .int p2)]) hx hb gX12_currents_2.2.2.1 hl (by decide) rfl (fun ls hl => ?_)
      have lp31 : ∀ (n31 : Nat) (locs : List Loc) (ls : Array Slot) (j31_3 : Int32) (j31_4 : Int32), th_B G Γ Γ [] H0 H0 locs → lv_has ls 5 [(0, .ref a0), (1, .int p1), (2, .int p2), (3, .int j31_3), (4, .int j31_4)] → F = dv_lp f_X12_currents_31b (dv G Γ H0, (a0 : Int), p1.toInt, p2.toInt, j31_3.toInt, j31_4.toInt) → 0 ≤ j31_4.toInt → j31_4.toInt ≤ 9 → (2147483648 : Int) - j31_4.toInt ≤ (n31 : Int) → W p l e ({ frames := 1, cells := 0, slots := 0, locals := 22 } : Room) s m ([.ref a0, .int p1, .int p2] : List Value).toArray below meth c H0 locs 0 0 (MQ below (th_Q (fun (v : Option Value) (H1 : Heap) => ∃ r : Int32, v = some (.int r) ∧ (f_X12_currents (dv G Γ H0) (a0 : Int) p1.toInt p2.toInt = (r.toInt, ())) ∧ H0 = H1) G) ([.ref a0, .int p1, .int p2] : List Value).toArray s 0 0 (fun q => G.1.2.2 ≤ q)) (F0 m 31 ls []) := by
        intro n31
        induction n31 with
        | zero => intro locs ls j31_3 j31_4 hB hl hF g31_0 g31_1 hm31; exact absurd hm31 (by have := ti_hi j31_4; omega)
        | succ n31 ih31 =>
          intro locs ls j31_3 j31_4 hB hl hF g31_0 g31_1 hm31
          have lj31_3 := ti_lo j31_3; have uj31_3 := ti_hi j31_3
          have lj31_4 := ti_lo j31_4; have uj31_4 := ti_hi j31_4
          have hm31 : (2147483648 : Int) - j31_4.toInt ≤ (n31 : Int) + 1 := by omega
          replace hF := hF.trans (dv_lp_eq)
          replace hF := hF.trans (congrArg (dv_k f_X12_currents_31b) (f_X12_currents_31c.eq_1 (dv G Γ H0) ((a0 : Int)) (p1.toInt) (p2.toInt) (j31_3.toInt) (j31_4.toInt)))
          refine lv_iload hx hb gX12_currents_2.2.2.2.1 (lv_at hl 4 rfl) ?_
          refine lv_aload_n hx hb gX12_currents_2.2.2.2.2.1 rfl (lv_at hl 0 rfl) ?_
          refine th_call (th_runV (As := []) (rest := [.int j31_4]) hC mf_X12_many km_X12_115 im_X12_many se_X12_many (c_X12_many l G Γ H0 hB.1 hU a0 h0) rfl rfl ⟨Nat.le_of_ble_eq_true rfl, Nat.le_of_ble_eq_true rfl⟩ hB.1 h0 ro_46 rfl rfl hl.1 rfl (Nat.le_of_ble_eq_true rfl) gX12_currents_2.2.2.2.2.2.1 ⟨Nat.le_refl _, Nat.le_refl _⟩) hB.2.1 (fun v34 H34 locs hp hz hS => ?_)
          obtain ⟨x5, rfl, lx5, ux5, q34_0, q34_1, rfl⟩ := hp
          have hB := th_B_s hB hS
          replace hF := hF.trans (congrArg (dv_k f_X12_currents_31b) (dv_bn2 (q34_1)))
          refine W.eq (g2 := F0 m 37 ls [.int x5, .int j31_4]) rfl ?_
          refine tr_icmp_ge (tgt := 105) hx hb gX12_currents_2.2.2.2.2.2.2.1 (by decide) (Eq.refl _) (Eq.refl _) (fun c37 => ?_) (fun c37 => ?_)
          · replace hF := hF.trans (congrArg (dv_k f_X12_currents_31b) (if_pos c37))
            refine lv_iload_n hx hb gX12_currents_7.2.2.2.1 rfl (lv_at hl 3 rfl) ?_
            replace hF := hF.trans (dv_kr)
            exact th_iret hC hH hr hlocks rfl hB.2.1 ⟨_, rfl, (hF0.symm.trans hF), rfl⟩ gX12_currents_7.2.2.2.2
          · replace hF := hF.trans (congrArg (dv_k f_X12_currents_31b) (if_neg (Int.not_le.mpr c37)))
            refine lv_iload_n hx hb gX12_currents_2.2.2.2.2.2.2.2 rfl (lv_at hl 3 rfl) ?_
            refine lv_aload_n hx hb gX12_currents_3.1 rfl (lv_at hl 0 rfl) ?_
            refine lv_iload hx hb gX12_currents_3.2.1 (lv_at hl 4 rfl) ?_
            refine th_call (th_runV (As := [.int j31_4]) (rest := [.int j31_3]) hC mf_X12_isLaid km_X12_137 im_X12_isLaid se_X12_isLaid (c_X12_isLaid l G Γ H0 hB.1 hU a0 h0 j31_4 (by omega) (by omega)) rfl rfl ⟨Nat.le_of_ble_eq_true rfl, Nat.le_of_ble_eq_true rfl⟩ hB.1 h0 ro_46 rfl rfl hl.1 rfl (Nat.le_of_ble_eq_true rfl) gX12_currents_3.2.2.1 ⟨Nat.le_refl _, Nat.le_refl _⟩) hB.2.1 (fun v44 H44 locs hp hz hS => ?_)
            obtain ⟨x6, rfl, lx6, ux6, q44_0, q44_1, q44_2, rfl⟩ := hp
            have hB := th_B_s hB hS
            replace hF := hF.trans (congrArg (dv_k f_X12_currents_31b) (dv_bn2 (q44_2)))
            refine W.eq (g2 := F0 m 47 ls [.int x6, .int j31_3]) rfl ?_
            have jn97 : ∀ (locs : List Loc) (ls : Array Slot) (s97_1 : Int32), th_B G Γ Γ [] H0 H0 locs → lv_has ls 5 [(0, .ref a0), (1, .int p1), (2, .int p2), (4, .int j31_4)] → F = dv_k f_X12_currents_31b (f_X12_currents_97 (dv G Γ H0) ((a0 : Int)) (p1.toInt) (p2.toInt) (j31_4.toInt) (j31_3.toInt) (s97_1.toInt)) → 0 ≤ s97_1.toInt → s97_1.toInt ≤ 12 → W p l e ({ frames := 1, cells := 0, slots := 0, locals := 22 } : Room) s m ([.ref a0, .int p1, .int p2] : List Value).toArray below meth c H0 locs 0 0 (MQ below (th_Q (fun (v : Option Value) (H1 : Heap) => ∃ r : Int32, v = some (.int r) ∧ (f_X12_currents (dv G Γ H0) (a0 : Int) p1.toInt p2.toInt = (r.toInt, ())) ∧ H0 = H1) G) ([.ref a0, .int p1, .int p2] : List Value).toArray s 0 0 (fun q => G.1.2.2 ≤ q)) (F0 m 97 ls [.int s97_1, .int j31_3]) := by
              intro locs ls s97_1 hB hl hF g97_0 g97_1
              have ls97_1 := ti_lo s97_1; have us97_1 := ti_hi s97_1
              replace hF := hF.trans (congrArg (dv_k f_X12_currents_31b) (f_X12_currents_97.eq_1 (dv G Γ H0) ((a0 : Int)) (p1.toInt) (p2.toInt) (j31_4.toInt) (j31_3.toInt) (s97_1.toInt)))
              refine lv_iadd hx hb gX12_currents_6.2.2.2.2.2.2.2 ?_
              refine lv_topi (fun x7 ex7 => ?_)
              have lx7 := ti_lo x7; have ux7 := ti_hi x7
              replace hF := hF.trans (congrArg (dv_k f_X12_currents_31b) (dv_bn (dv_add_e (Eq.refl _) (Eq.refl _) ex7)))
              refine lv_istore_n (lv' := [(3, .int x7), (0, .ref a0), (1, .int p1), (2, .int p2), (4, .int j31_4)]) hx hb gX12_currents_7.1 rfl hl (by decide) rfl (fun ls hl => ?_)
              refine tr_iinc (fun x8 => [(4, .int x8), (3, .int x7), (0, .ref a0), (1, .int p1), (2, .int p2)]) hx hb gX12_currents_7.2.1 hl (k := 4) rfl (Eq.refl _) tk_1 (by omega) (by omega) (by decide) (fun _ => rfl) (fun x8 ls ex8 hl => ?_)
              replace hF := hF.trans (congrArg (dv_k f_X12_currents_31b) (dv_bn (ex8.symm)))
              refine lv_goto (tgt := 31) hx hb gX12_currents_7.2.2.1 (by decide) ?_
              replace hF := hF.trans (dv_kl)
              exact ih31 locs ls x7 x8 hB (lv_sub hl [2, 3, 4, 1, 0] rfl) hF (by omega) (by omega) (by omega)
            have jn96 : ∀ (locs : List Loc) (ls : Array Slot) , th_B G Γ Γ [] H0 H0 locs → lv_has ls 5 [(0, .ref a0), (1, .int p1), (2, .int p2), (4, .int j31_4)] → F = dv_k f_X12_currents_31b (f_X12_currents_96 (dv G Γ H0) ((a0 : Int)) (p1.toInt) (p2.toInt) (j31_4.toInt) (j31_3.toInt)) → W p l e ({ frames := 1, cells := 0, slots := 0, locals := 22 } : Room) s m ([.ref a0, .int p1, .int p2] : List Value).toArray below meth c H0 locs 0 0 (MQ below (th_Q (fun (v : Option Value) (H1 : Heap) => ∃ r : Int32, v = some (.int r) ∧ (f_X12_currents (dv G Γ H0) (a0 : Int) p1.toInt p2.toInt = (r.toInt, ())) ∧ H0 = H1) G) ([.ref a0, .int p1, .int p2] : List Value).toArray s 0 0 (fun q => G.1.2.2 ≤ q)) (F0 m 96 ls [.int j31_3]) := by
              intro locs ls hB hl hF
              replace hF := hF.trans (congrArg (dv_k f_X12_currents_31b) (f_X12_currents_96.eq_1 (dv G Γ H0) ((a0 : Int)) (p1.toInt) (p2.toInt) (j31_4.toInt) (j31_3.toInt)))
              refine lv_iconst (v := 0) hx hb gX12_currents_6.2.2.2.2.2.2.1 (by decide) ?_
              exact jn97 locs ls 0 hB (lv_sub hl [0, 1, 2, 3] rfl) (by rw [tk_0]; exact hF) (by decide) (by decide)
            refine tr_if_eq (tgt := 96) hx hb gX12_currents_3.2.2.2.1 (by decide) (Eq.refl _) (fun c47 => ?_) (fun c47 => ?_)
            · replace hF := hF.trans (congrArg (dv_k f_X12_currents_31b) (if_pos c47))
              exact jn96 locs ls hB (lv_sub hl [0, 1, 2, 4] rfl) hF
            · replace hF := hF.trans (congrArg (dv_k f_X12_currents_31b) (if_neg c47))
              refine lv_aload_n hx hb gX12_currents_3.2.2.2.2.1 rfl (lv_at hl 0 rfl) ?_
              refine th_getK hC cf_X12 hB.1 h0 ro_46 rfl (j := 2) (by decide) mb1 kf_X12_28 gX12_currents_3.2.2.2.2.2.1 ?_
              refine lv_bipush (v := 18) hx hb gX12_currents_3.2.2.2.2.2.2.1 (by decide) ?_
              refine lv_iload hx hb gX12_currents_3.2.2.2.2.2.2.2 (lv_at hl 4 rfl) ?_
              refine tr_iadd hx hb gX12_currents_4.1 tk_18 (Eq.refl _) (by omega) (by omega) (fun x9 ex9 => ?_)
              replace hF := hF.trans (congrArg (dv_k f_X12_currents_31b) (dv_bn (ex9.symm)))
              refine th_ialdF hC hB.1 hb1 ro_48 rfl (Eq.refl _) (by omega) (by omega) (ek_a (by omega) (by omega)) gX12_currents_4.2.1 (fun x10 mx10 lx10 ux10 => ?_)
              replace hF := hF.trans (congrArg (dv_k f_X12_currents_31b) (dv_bn (dv_aldI hB.1 hU hb1 ow_48 (z := x9.toInt) mx10 (by omega))))
              refine lv_iload_n hx hb gX12_currents_4.2.2.1 rfl (lv_at hl 2 rfl) ?_
              have jn78 : ∀ (locs : List Loc) (ls : Array Slot) (s78_2 : Int32), th_B G Γ Γ [] H0 H0 locs → lv_has ls 5 [(0, .ref a0), (1, .int p1), (2, .int p2), (4, .int j31_4)] → F = dv_k f_X12_currents_31b (f_X12_currents_78 (dv G Γ H0) ((a0 : Int)) (p1.toInt) (p2.toInt) (j31_4.toInt) (j31_3.toInt) (x10.toInt) (s78_2.toInt)) → 0 ≤ s78_2.toInt → s78_2.toInt ≤ 12 → W p l e ({ frames := 1, cells := 0, slots := 0, locals := 22 } : Room) s m ([.ref a0, .int p1, .int p2] : List Value).toArray below meth c H0 locs 0 0 (MQ below (th_Q (fun (v : Option Value) (H1 : Heap) => ∃ r : Int32, v = some (.int r) ∧ (f_X12_currents (dv G Γ H0) (a0 : Int) p1.toInt p2.toInt = (r.toInt, ())) ∧ H0 = H1) G) ([.ref a0, .int p1, .int p2] : List Value).toArray s 0 0 (fun q => G.1.2.2 ≤ q)) (F0 m 78 ls [.int s78_2, .int x10, .int j31_3]) := by
                intro locs ls s78_2 hB hl hF g78_0 g78_1
                have ls78_2 := ti_lo s78_2; have us78_2 := ti_hi s78_2
                replace hF := hF.trans (congrArg (dv_k f_X12_currents_31b) (f_X12_currents_78.eq_1 (dv G Γ H0) ((a0 : Int)) (p1.toInt) (p2.toInt) (j31_4.toInt) (j31_3.toInt) (x10.toInt) (s78_2.toInt)))
                refine lv_iadd hx hb gX12_currents_5.2.2.2.2.1 ?_
                refine lv_topi (fun x11 ex11 => ?_)
                have lx11 := ti_lo x11; have ux11 := ti_hi x11
                replace hF := hF.trans (congrArg (dv_k f_X12_currents_31b) (dv_bn (dv_add_e (Eq.refl _) (Eq.refl _) ex11)))
                refine lv_iload_n hx hb gX12_currents_5.2.2.2.2.2.1 rfl (lv_at hl 1 rfl) ?_
                refine tr_icmp_ne (tgt := 96) hx hb gX12_currents_5.2.2.2.2.2.2.1 (by decide) (Eq.refl _) (Eq.refl _) (fun c80 => ?_) (fun c80 => ?_)
                · replace hF := hF.trans (congrArg (dv_k f_X12_currents_31b) (if_pos c80))
                  exact jn96 locs ls hB (lv_sub hl [0, 1, 2, 3] rfl) hF
                · replace hF := hF.trans (congrArg (dv_k f_X12_currents_31b) (if_neg (not_not_intro c80)))
                  refine lv_aload_n hx hb gX12_currents_5.2.2.2.2.2.2.2 rfl (lv_at hl 0 rfl) ?_
                  refine th_getK hC cf_X12 hB.1 h0 ro_46 rfl (j := 2) (by decide) mb1 kf_X12_28 gX12_currents_6.1 ?_
                  refine lv_bipush (v := 29) hx hb gX12_currents_6.2.1 (by decide) ?_
                  refine lv_iload hx hb gX12_currents_6.2.2.1 (lv_at hl 3 rfl) ?_
                  refine tr_iadd hx hb gX12_currents_6.2.2.2.1 tk_29 (Eq.refl _) (by omega) (by omega) (fun x12 ex12 => ?_)
                  replace hF := hF.trans (congrArg (dv_k f_X12_currents_31b) (dv_bn (ex12.symm)))
                  refine th_ialdF hC hB.1 hb1 ro_48 rfl (Eq.refl _) (by omega) (by omega) (ek_side (by omega) (by omega)) gX12_currents_6.2.2.2.2.1 (fun x13 mx13 lx13 ux13 => ?_)
                  replace hF := hF.trans (congrArg (dv_k f_X12_currents_31b) (dv_bn (dv_aldI hB.1 hU hb1 ow_48 (z := x12.toInt) mx13 (by omega))))
                  refine lv_goto (tgt := 97) hx hb gX12_currents_6.2.2.2.2.2.1 (by decide) ?_
                  exact jn97 locs ls x13 hB (lv_sub hl [0, 1, 2, 3] rfl) hF (by omega) (by omega)
              refine tr_if_ne (tgt := 68) hx hb gX12_currents_4.2.2.2.1 (by decide) (Eq.refl _) (fun c61 => ?_) (fun c61 => ?_)
              · replace hF := hF.trans (congrArg (dv_k f_X12_currents_31b) (if_pos c61))
                refine lv_aload_n hx hb gX12_currents_4.2.2.2.2.2.2.1 rfl (lv_at hl 0 rfl) ?_
                refine th_getK hC cf_X12 hB.1 h0 ro_46 rfl (j := 2) (by decide) mb1 kf_X12_28 gX12_currents_4.2.2.2.2.2.2.2 ?_
                refine lv_bipush (v := 29) hx hb gX12_currents_5.1 (by decide) ?_
                refine lv_iload hx hb gX12_currents_5.2.1 (lv_at hl 4 rfl) ?_
                refine tr_iadd hx hb gX12_currents_5.2.2.1 tk_29 (Eq.refl _) (by omega) (by omega) (fun x14 ex14 => ?_)
                replace hF := hF.trans (congrArg (dv_k f_X12_currents_31b) (dv_bn (ex14.symm)))
                refine th_ialdF hC hB.1 hb1 ro_48 rfl (Eq.refl _) (by omega) (by omega) (ek_side (by omega) (by omega)) gX12_currents_5.2.2.2.1 (fun x15 mx15 lx15 ux15 => ?_)
                replace hF := hF.trans (congrArg (dv_k f_X12_currents_31b) (dv_bn (dv_aldI hB.1 hU hb1 ow_48 (z := x14.toInt) mx15 (by omega))))
                exact jn78 locs ls x15 hB (lv_sub hl [0, 1, 2, 4] rfl) hF (by omega) (by omega)
              · replace hF := hF.trans (congrArg (dv_k f_X12_currents_31b) (if_neg (not_not_intro c61)))
                refine lv_iconst (v := 0) hx hb gX12_currents_4.2.2.2.2.1 (by decide) ?_
                refine lv_goto (tgt := 78) hx hb gX12_currents_4.2.2.2.2.2.1 (by decide) ?_
                exact jn78 locs ls 0 hB (lv_sub hl [0, 1, 2, 4] rfl) (by rw [tk_0]; exact hF) (by decide) (by decide)
      exact lp31 ((2147483648 : Int) - (0)).toNat locs ls 0 0 hB (lv_sub hl [2, 3, 4, 1, 0] rfl) (by rw [tk_0]; exact hF) (by decide) (by decide) (by have w0 := tk_0; omega)
    · replace hF := hF.trans (if_neg (not_not_intro c21))
      refine lv_iconst (v := (-1)) hx hb gX12_currents_1.2.2.2.2.2.1 (by decide) ?_
      exact th_iret hC hH hr hlocks rfl hB.2.1 ⟨_, rfl, (hF0.symm.trans (hF.trans (by rw [tk_m1]))), rfl⟩ gX12_currents_1.2.2.2.2.2.2.1

set_option maxHeartbeats 4000000 in
set_option maxRecDepth 100000 in
theorem c_X12_alike (l : Launch) (G : th_G) (Γ : th_Ga) (H0 : Heap) (hI : th_I G Γ H0) (hU : dv_U Γ) (a0 : Nat) (h0 : Γ a0 = (46, 0)) : Met l yX12_alike (.code yX12_alike cX12_alike 4 (some FieldType.int) :: th_tb) ({ frames := 1, cells := 0, slots := 0, locals := 21 } : Room) (th_P [.ref a0] G H0) (th_Q (fun (v : Option Value) (H1 : Heap) => ∃ r : Int32, v = some (.int r) ∧ (f_X12_alike (dv G Γ H0) (a0 : Int) = (r.toInt, ())) ∧ H0 = H1) G) 0 0 (fun q => G.1.2.2 ≤ q) := by
  refine th_met RX12 (by decide) rfl (Nat.le_of_ble_eq_true rfl) ?_
  intro p e s m below meth c hC hH hr hlocks hnm ls hl
  have hx := hC.1
  have hb := hC.2.1
  have hB : th_B G Γ Γ [] H0 H0 [] := ⟨hI, va_S.rf, th_F_rf⟩
  have hl : lv_has ls 4 [(0, .ref a0)] := hl
  obtain ⟨F, hF0⟩ : ∃ F, F = f_X12_alike (dv G Γ H0) ((a0 : Int)) := ⟨_, rfl⟩
  have hF := hF0.trans (f_X12_alike.eq_1 (dv G Γ H0) ((a0 : Int)))
  refine lv_iconst (v := 0) hx hb gX12_alike_0.1 (by decide) ?_
  refine lv_istore_n (lv' := [(1, .int 0), (0, .ref a0)]) hx hb gX12_alike_0.2.1 rfl hl (by decide) rfl (fun ls hl => ?_)
  refine lv_iconst (v := 0) hx hb gX12_alike_0.2.2.1 (by decide) ?_
  refine lv_istore_n (lv' := [(2, .int 0), (1, .int 0), (0, .ref a0)]) hx hb gX12_alike_0.2.2.2.1 rfl hl (by decide) rfl (fun ls hl => ?_)
  have lp4 : ∀ (n4 : Nat) (locs : List Loc) (ls : Array Slot) (j4_1 : Int32) (j4_2 : Int32), th_B G Γ Γ [] H0 H0 locs → lv_has ls 4 [(0, .ref a0), (1, .int j4_1), (2, .int j4_2)] → F = dv_lp f_X12_alike_4b (dv G Γ H0, (a0 : Int), j4_1.toInt, j4_2.toInt) → 0 ≤ j4_2.toInt → j4_2.toInt ≤ 9 → (2147483648 : Int) - j4_2.toInt ≤ (n4 : Int) → W p l e ({ frames := 1, cells := 0, slots := 0, locals := 21 } : Room) s m ([.ref a0] : List Value).toArray below meth c H0 locs 0 0 (MQ below (th_Q (fun (v : Option Value) (H1 : Heap) => ∃ r : Int32, v = some (.int r) ∧ (f_X12_alike (dv G Γ H0) (a0 : Int) = (r.toInt, ())) ∧ H0 = H1) G) ([.ref a0] : List Value).toArray s 0 0 (fun q => G.1.2.2 ≤ q)) (F0 m 4 ls []) := by
    intro n4
    induction n4 with
    | zero => intro locs ls j4_1 j4_2 hB hl hF g4_0 g4_1 hm4; exact absurd hm4 (by have := ti_hi j4_2; omega)
    | succ n4 ih4 =>
      intro locs ls j4_1 j4_2 hB hl hF g4_0 g4_1 hm4
      have lj4_1 := ti_lo j4_1; have uj4_1 := ti_hi j4_1
      have lj4_2 := ti_lo j4_2; have uj4_2 := ti_hi j4_2
      have hm4 : (2147483648 : Int) - j4_2.toInt ≤ (n4 : Int) + 1 := by omega
      replace hF := hF.trans (dv_lp_eq)
      replace hF := hF.trans (congrArg (dv_k f_X12_alike_4b) (f_X12_alike_4c.eq_1 (dv G Γ H0) ((a0 : Int)) (j4_1.toInt) (j4_2.toInt)))
      refine lv_iload_n hx hb gX12_alike_0.2.2.2.2.1 rfl (lv_at hl 2 rfl) ?_
      refine lv_aload_n hx hb gX12_alike_0.2.2.2.2.2.1 rfl (lv_at hl 0 rfl) ?_
      refine th_call (th_runV (As := []) (rest := [.int j4_2]) hC mf_X12_many km_X12_115 im_X12_many se_X12_many (c_X12_many l G Γ H0 hB.1 hU a0 h0) rfl rfl ⟨Nat.le_of_ble_eq_true rfl, Nat.le_of_ble_eq_true rfl⟩ hB.1 h0 ro_46 rfl rfl hl.1 rfl (Nat.le_of_ble_eq_true rfl) gX12_alike_0.2.2.2.2.2.2.1 ⟨Nat.le_refl _, Nat.le_refl _⟩) hB.2.1 (fun v6 H6 locs hp hz hS => ?_)
      obtain ⟨x1, rfl, lx1, ux1, q6_0, q6_1, rfl⟩ := hp
      have hB := th_B_s hB hS
      replace hF := hF.trans (congrArg (dv_k f_X12_alike_4b) (dv_bn2 (q6_1)))
      refine W.eq (g2 := F0 m 9 ls [.int x1, .int j4_2]) rfl ?_
      refine tr_icmp_ge (tgt := 81) hx hb gX12_alike_0.2.2.2.2.2.2.2 (by decide) (Eq.refl _) (Eq.refl _) (fun c9 => ?_) (fun c9 => ?_)
      · replace hF := hF.trans (congrArg (dv_k f_X12_alike_4b) (if_pos c9))
        refine lv_iload_n hx hb gX12_alike_5.2.2.2.2.2.2.2 rfl (lv_at hl 1 rfl) ?_
        replace hF := hF.trans (dv_kr)
        exact th_iret hC hH hr hlocks rfl hB.2.1 ⟨_, rfl, (hF0.symm.trans hF), rfl⟩ gX12_alike_6
      · replace hF := hF.trans (congrArg (dv_k f_X12_alike_4b) (if_neg (Int.not_le.mpr c9)))
        refine lv_iload_n hx hb gX12_alike_1.1 rfl (lv_at hl 2 rfl) ?_
        refine lv_iconst (v := 1) hx hb gX12_alike_1.2.1 (by decide) ?_
        refine tr_iadd hx hb gX12_alike_1.2.2.1 (Eq.refl _) tk_1 (by omega) (by omega) (fun x2 ex2 => ?_)
        replace hF := hF.trans (congrArg (dv_k f_X12_alike_4b) (dv_bn (ex2.symm)))
        refine lv_istore_n (lv' := [(3, .int x2), (0, .ref a0), (1, .int j4_1), (2, .int j4_2)]) hx hb gX12_alike_1.2.2.2.1 rfl hl (by decide) rfl (fun ls hl => ?_)
        have lp16 : ∀ (n16 : Nat) (locs : List Loc) (ls : Array Slot) (j16_1 : Int32) (j16_3 : Int32), th_B G Γ Γ [] H0 H0 locs → lv_has ls 4 [(0, .ref a0), (2, .int j4_2), (1, .int j16_1), (3, .int j16_3)] → F = dv_k f_X12_alike_4b (dv_lp f_X12_alike_16b (dv G Γ H0, (a0 : Int), j4_2.toInt, j16_1.toInt, j16_3.toInt)) → 1 ≤ j16_3.toInt → j16_3.toInt ≤ 9 → (2147483648 : Int) - j16_3.toInt ≤ (n16 : Int) → W p l e ({ frames := 1, cells := 0, slots := 0, locals := 21 } : Room) s m ([.ref a0] : List Value).toArray below meth c H0 locs 0 0 (MQ below (th_Q (fun (v : Option Value) (H1 : Heap) => ∃ r : Int32, v = some (.int r) ∧ (f_X12_alike (dv G Γ H0) (a0 : Int) = (r.toInt, ())) ∧ H0 = H1) G) ([.ref a0] : List Value).toArray s 0 0 (fun q => G.1.2.2 ≤ q)) (F0 m 16 ls []) := by
          intro n16
          induction n16 with
          | zero => intro locs ls j16_1 j16_3 hB hl hF g16_0 g16_1 hm16; exact absurd hm16 (by have := ti_hi j16_3; omega)
          | succ n16 ih16 =>
            intro locs ls j16_1 j16_3 hB hl hF g16_0 g16_1 hm16
            have lj16_1 := ti_lo j16_1; have uj16_1 := ti_hi j16_1
            have lj16_3 := ti_lo j16_3; have uj16_3 := ti_hi j16_3
            have hm16 : (2147483648 : Int) - j16_3.toInt ≤ (n16 : Int) + 1 := by omega
            replace hF := hF.trans (congrArg (dv_k f_X12_alike_4b) (dv_lp_eq))
            replace hF := hF.trans (congrArg (dv_k f_X12_alike_4b) (congrArg (dv_k f_X12_alike_16b) (f_X12_alike_16c.eq_1 (dv G Γ H0) ((a0 : Int)) (j4_2.toInt) (j16_1.toInt) (j16_3.toInt))))
            refine lv_iload_n hx hb gX12_alike_1.2.2.2.2.1 rfl (lv_at hl 3 rfl) ?_
            refine lv_aload_n hx hb gX12_alike_1.2.2.2.2.2.1 rfl (lv_at hl 0 rfl) ?_
            refine th_call (th_runV (As := []) (rest := [.int j16_3]) hC mf_X12_many km_X12_115 im_X12_many se_X12_many (c_X12_many l G Γ H0 hB.1 hU a0 h0) rfl rfl ⟨Nat.le_of_ble_eq_true rfl, Nat.le_of_ble_eq_true rfl⟩ hB.1 h0 ro_46 rfl rfl hl.1 rfl (Nat.le_of_ble_eq_true rfl) gX12_alike_1.2.2.2.2.2.2.1 ⟨Nat.le_refl _, Nat.le_refl _⟩) hB.2.1 (fun v18 H18 locs hp hz hS => ?_)
            obtain ⟨x3, rfl, lx3, ux3, q18_0, q18_1, rfl⟩ := hp
            have hB := th_B_s hB hS
            replace hF := hF.trans (congrArg (dv_k f_X12_alike_4b) (congrArg (dv_k f_X12_alike_16b) (dv_bn2 (q18_1))))
            refine W.eq (g2 := F0 m 21 ls [.int x3, .int j16_3]) rfl ?_
            refine tr_icmp_ge (tgt := 75) hx hb gX12_alike_1.2.2.2.2.2.2.2 (by decide) (Eq.refl _) (Eq.refl _) (fun c21 => ?_) (fun c21 => ?_)
            · replace hF := hF.trans (congrArg (dv_k f_X12_alike_4b) (congrArg (dv_k f_X12_alike_16b) (if_pos c21)))
              refine tr_iinc (fun x4 => [(2, .int x4), (0, .ref a0), (1, .int j16_1), (3, .int j16_3)]) hx hb gX12_alike_5.2.2.2.2.2.1 hl (k := 1) rfl (Eq.refl _) tk_1 (by omega) (by omega) (by decide) (fun _ => rfl) (fun x4 ls ex4 hl => ?_)
              replace hF := hF.trans (congrArg (dv_k f_X12_alike_4b) (congrArg (dv_k f_X12_alike_16b) (dv_bn (ex4.symm))))
              refine lv_goto (tgt := 4) hx hb gX12_alike_5.2.2.2.2.2.2.1 (by decide) ?_
              replace hF := hF.trans (congrArg (dv_k f_X12_alike_4b) (dv_kr))
              replace hF := hF.trans (dv_kl)
              exact ih4 locs ls j16_1 x4 hB (lv_sub hl [1, 2, 0] rfl) hF (by omega) (by omega) (by omega)
            · replace hF := hF.trans (congrArg (dv_k f_X12_alike_4b) (congrArg (dv_k f_X12_alike_16b) (if_neg (Int.not_le.mpr c21))))
              refine lv_iload_n hx hb gX12_alike_2.1 rfl (lv_at hl 2 rfl) ?_
              refine lv_aload_n hx hb gX12_alike_2.2.1 rfl (lv_at hl 0 rfl) ?_
              refine lv_iload_n hx hb gX12_alike_2.2.2.1 rfl (lv_at hl 1 rfl) ?_
              refine th_call (th_runV (As := [.int j4_2]) (rest := [.int j16_1]) hC mf_X12_isLaid km_X12_137 im_X12_isLaid se_X12_isLaid (c_X12_isLaid l G Γ H0 hB.1 hU a0 h0 j4_2 (by omega) (by omega)) rfl rfl ⟨Nat.le_of_ble_eq_true rfl, Nat.le_of_ble_eq_true rfl⟩ hB.1 h0 ro_46 rfl rfl hl.1 rfl (Nat.le_of_ble_eq_true rfl) gX12_alike_2.2.2.2.1 ⟨Nat.le_refl _, Nat.le_refl _⟩) hB.2.1 (fun v27 H27 locs hp hz hS => ?_)
              obtain ⟨x5, rfl, lx5, ux5, q27_0, q27_1, q27_2, rfl⟩ := hp
              have hB := th_B_s hB hS
              replace hF := hF.trans (congrArg (dv_k f_X12_alike_4b) (congrArg (dv_k f_X12_alike_16b) (dv_bn2 (q27_2))))
              refine W.eq (g2 := F0 m 30 ls [.int x5, .int j16_1]) rfl ?_
              have jn67 : ∀ (locs : List Loc) (ls : Array Slot) (s67_1 : Int32), th_B G Γ Γ [] H0 H0 locs → lv_has ls 4 [(0, .ref a0), (2, .int j4_2), (3, .int j16_3)] → F = dv_k f_X12_alike_4b (dv_k f_X12_alike_16b (f_X12_alike_67 (dv G Γ H0) ((a0 : Int)) (j4_2.toInt) (j16_3.toInt) (j16_1.toInt) (s67_1.toInt))) → 0 ≤ s67_1.toInt → s67_1.toInt ≤ 1 → W p l e ({ frames := 1, cells := 0, slots := 0, locals := 21 } : Room) s m ([.ref a0] : List Value).toArray below meth c H0 locs 0 0 (MQ below (th_Q (fun (v : Option Value) (H1 : Heap) => ∃ r : Int32, v = some (.int r) ∧ (f_X12_alike (dv G Γ H0) (a0 : Int) = (r.toInt, ())) ∧ H0 = H1) G) ([.ref a0] : List Value).toArray s 0 0 (fun q => G.1.2.2 ≤ q)) (F0 m 67 ls [.int s67_1, .int j16_1]) := by
                intro locs ls s67_1 hB hl hF g67_0 g67_1
                have ls67_1 := ti_lo s67_1; have us67_1 := ti_hi s67_1
                replace hF := hF.trans (congrArg (dv_k f_X12_alike_4b) (congrArg (dv_k f_X12_alike_16b) (f_X12_alike_67.eq_1 (dv G Γ H0) ((a0 : Int)) (j4_2.toInt) (j16_3.toInt) (j16_1.toInt) (s67_1.toInt))))
                refine lv_iadd hx hb gX12_alike_5.2.1 ?_
                refine lv_topi (fun x6 ex6 => ?_)
                have lx6 := ti_lo x6; have ux6 := ti_hi x6
                replace hF := hF.trans (congrArg (dv_k f_X12_alike_4b) (congrArg (dv_k f_X12_alike_16b) (dv_bn (dv_add_e (Eq.refl _) (Eq.refl _) ex6))))
                refine lv_istore_n (lv' := [(1, .int x6), (0, .ref a0), (2, .int j4_2), (3, .int j16_3)]) hx hb gX12_alike_5.2.2.1 rfl hl (by decide) rfl (fun ls hl => ?_)
                refine tr_iinc (fun x7 => [(3, .int x7), (1, .int x6), (0, .ref a0), (2, .int j4_2)]) hx hb gX12_alike_5.2.2.2.1 hl (k := 3) rfl (Eq.refl _) tk_1 (by omega) (by omega) (by decide) (fun _ => rfl) (fun x7 ls ex7 hl => ?_)
                replace hF := hF.trans (congrArg (dv_k f_X12_alike_4b) (congrArg (dv_k f_X12_alike_16b) (dv_bn (ex7.symm))))
                refine lv_goto (tgt := 16) hx hb gX12_alike_5.2.2.2.2.1 (by decide) ?_
                replace hF := hF.trans (congrArg (dv_k f_X12_alike_4b) (dv_kl))
                exact ih16 locs ls x6 x7 hB (lv_sub hl [2, 3, 1, 0] rfl) hF (by omega) (by omega) (by omega)
              have jn66 : ∀ (locs : List Loc) (ls : Array Slot) , th_B G Γ Γ [] H0 H0 locs → lv_has ls 4 [(0, .ref a0), (2, .int j4_2), (3, .int j16_3)] → F = dv_k f_X12_alike_4b (dv_k f_X12_alike_16b (f_X12_alike_66 (dv G Γ H0) ((a0 : Int)) (j4_2.toInt) (j16_3.toInt) (j16_1.toInt))) → W p l e ({ frames := 1, cells := 0, slots := 0, locals := 21 } : Room) s m ([.ref a0] : List Value).toArray below meth c H0 locs 0 0 (MQ below (th_Q (fun (v : Option Value) (H1 : Heap) => ∃ r : Int32, v = some (.int r) ∧ (f_X12_alike (dv G Γ H0) (a0 : Int) = (r.toInt, ())) ∧ H0 = H1) G) ([.ref a0] : List Value).toArray s 0 0 (fun q => G.1.2.2 ≤ q)) (F0 m 66 ls [.int j16_1]) := by
                intro locs ls hB hl hF
                replace hF := hF.trans (congrArg (dv_k f_X12_alike_4b) (congrArg (dv_k f_X12_alike_16b) (f_X12_alike_66.eq_1 (dv G Γ H0) ((a0 : Int)) (j4_2.toInt) (j16_3.toInt) (j16_1.toInt))))
                refine lv_iconst (v := 0) hx hb gX12_alike_5.1 (by decide) ?_
                exact jn67 locs ls 0 hB (lv_sub hl [0, 1, 2] rfl) (by rw [tk_0]; exact hF) (by decide) (by decide)
              refine tr_if_eq (tgt := 66) hx hb gX12_alike_2.2.2.2.2.1 (by decide) (Eq.refl _) (fun c30 => ?_) (fun c30 => ?_)
              · replace hF := hF.trans (congrArg (dv_k f_X12_alike_4b) (congrArg (dv_k f_X12_alike_16b) (if_pos c30)))
                exact jn66 locs ls hB (lv_sub hl [0, 1, 3] rfl) hF
              · replace hF := hF.trans (congrArg (dv_k f_X12_alike_4b) (congrArg (dv_k f_X12_alike_16b) (if_neg c30)))
                refine lv_aload_n hx hb gX12_alike_2.2.2.2.2.2.1 rfl (lv_at hl 0 rfl) ?_
                refine lv_iload_n hx hb gX12_alike_2.2.2.2.2.2.2.1 rfl (lv_at hl 3 rfl) ?_
                refine th_call (th_runV (As := [.int j16_3]) (rest := [.int j16_1]) hC mf_X12_isLaid km_X12_137 im_X12_isLaid se_X12_isLaid (c_X12_isLaid l G Γ H0 hB.1 hU a0 h0 j16_3 (by omega) (by omega)) rfl rfl ⟨Nat.le_of_ble_eq_true rfl, Nat.le_of_ble_eq_true rfl⟩ hB.1 h0 ro_46 rfl rfl hl.1 rfl (Nat.le_of_ble_eq_true rfl) gX12_alike_2.2.2.2.2.2.2.2 ⟨Nat.le_refl _, Nat.le_refl _⟩) hB.2.1 (fun v35 H35 locs hp hz hS => ?_)
                obtain ⟨x8, rfl, lx8, ux8, q35_0, q35_1, q35_2, rfl⟩ := hp
                have hB := th_B_s hB hS
                replace hF := hF.trans (congrArg (dv_k f_X12_alike_4b) (congrArg (dv_k f_X12_alike_16b) (dv_bn2 (q35_2))))
                refine W.eq (g2 := F0 m 38 ls [.int x8, .int j16_1]) rfl ?_
                refine tr_if_eq (tgt := 66) hx hb gX12_alike_3.1 (by decide) (Eq.refl _) (fun c38 => ?_) (fun c38 => ?_)
                · replace hF := hF.trans (congrArg (dv_k f_X12_alike_4b) (congrArg (dv_k f_X12_alike_16b) (if_pos c38)))
                  exact jn66 locs ls hB (lv_sub hl [0, 1, 3] rfl) hF
                · replace hF := hF.trans (congrArg (dv_k f_X12_alike_4b) (congrArg (dv_k f_X12_alike_16b) (if_neg c38)))
                  refine lv_aload_n hx hb gX12_alike_3.2.1 rfl (lv_at hl 0 rfl) ?_
                  refine th_getO (j := 2) (r2 := 48) hC cf_X12 hB.1 h0 ro_46 rfl rfl kf_X12_28 gX12_alike_3.2.2.1 (fun b9 mb9 hb9 => ?_)
                  refine lv_bipush (v := 29) hx hb gX12_alike_3.2.2.2.1 (by decide) ?_
                  refine lv_iload_n hx hb gX12_alike_3.2.2.2.2.1 rfl (lv_at hl 1 rfl) ?_
                  refine tr_iadd hx hb gX12_alike_3.2.2.2.2.2.1 tk_29 (Eq.refl _) (by omega) (by omega) (fun x10 ex10 => ?_)
                  replace hF := hF.trans (congrArg (dv_k f_X12_alike_4b) (congrArg (dv_k f_X12_alike_16b) (dv_bn (ex10.symm))))
                  refine th_ialdF hC hB.1 hb9 ro_48 rfl (Eq.refl _) (by omega) (by omega) (ek_side (by omega) (by omega)) gX12_alike_3.2.2.2.2.2.2.1 (fun x11 mx11 lx11 ux11 => ?_)
                  replace hF := hF.trans (congrArg (dv_k f_X12_alike_4b) (congrArg (dv_k f_X12_alike_16b) (dv_bn (dv_aldI hB.1 hU hb9 ow_48 (z := x10.toInt) mx11 (by omega)))))
                  refine lv_aload_n hx hb gX12_alike_3.2.2.2.2.2.2.2 rfl (lv_at hl 0 rfl) ?_
                  refine th_getK hC cf_X12 hB.1 h0 ro_46 rfl (j := 2) (by decide) mb9 kf_X12_28 gX12_alike_4.1 ?_
                  refine lv_bipush (v := 29) hx hb gX12_alike_4.2.1 (by decide) ?_
                  refine lv_iload_n hx hb gX12_alike_4.2.2.1 rfl (lv_at hl 3 rfl) ?_
                  refine tr_iadd hx hb gX12_alike_4.2.2.2.1 tk_29 (Eq.refl _) (by omega) (by omega) (fun x12 ex12 => ?_)
                  replace hF := hF.trans (congrArg (dv_k f_X12_alike_4b) (congrArg (dv_k f_X12_alike_16b) (dv_bn (ex12.symm))))
                  refine th_ialdF hC hB.1 hb9 ro_48 rfl (Eq.refl _) (by omega) (by omega) (ek_side (by omega) (by omega)) gX12_alike_4.2.2.2.2.1 (fun x13 mx13 lx13 ux13 => ?_)
                  replace hF := hF.trans (congrArg (dv_k f_X12_alike_4b) (congrArg (dv_k f_X12_alike_16b) (dv_bn (dv_aldI hB.1 hU hb9 ow_48 (z := x12.toInt) mx13 (by omega)))))
                  refine tr_icmp_ne (tgt := 66) hx hb gX12_alike_4.2.2.2.2.2.1 (by decide) (Eq.refl _) (Eq.refl _) (fun c59 => ?_) (fun c59 => ?_)
                  · replace hF := hF.trans (congrArg (dv_k f_X12_alike_4b) (congrArg (dv_k f_X12_alike_16b) (if_pos c59)))
                    exact jn66 locs ls hB (lv_sub hl [0, 1, 3] rfl) hF
                  · replace hF := hF.trans (congrArg (dv_k f_X12_alike_4b) (congrArg (dv_k f_X12_alike_16b) (if_neg (not_not_intro c59))))
                    refine lv_iconst (v := 1) hx hb gX12_alike_4.2.2.2.2.2.2.1 (by decide) ?_
                    refine lv_goto (tgt := 67) hx hb gX12_alike_4.2.2.2.2.2.2.2 (by decide) ?_
                    exact jn67 locs ls 1 hB (lv_sub hl [0, 1, 3] rfl) (by rw [tk_1]; exact hF) (by decide) (by decide)
        exact lp16 ((2147483648 : Int) - (x2.toInt)).toNat locs ls j4_1 x2 hB (lv_sub hl [1, 3, 2, 0] rfl) hF (by omega) (by omega) (by omega)
  exact lp4 ((2147483648 : Int) - (0)).toNat [] ls 0 0 hB (lv_sub hl [2, 1, 0] rfl) (by rw [tk_0]; exact hF) (by decide) (by decide) (by have w0 := tk_0; omega)

set_option maxHeartbeats 4000000 in
set_option maxRecDepth 100000 in
theorem c_X12_firstBare (l : Launch) (G : th_G) (Γ : th_Ga) (H0 : Heap) (hI : th_I G Γ H0) (hU : dv_U Γ) (a0 : Nat) (h0 : Γ a0 = (46, 0)) (p1 : Int32) (f1 : 0 ≤ p1.toInt) (g1 : p1.toInt ≤ 12) (p2 : Int32) (f2 : 0 ≤ p2.toInt) (g2 : p2.toInt ≤ 12) : Met l yX12_firstBare (.code yX12_firstBare cX12_firstBare 5 (some FieldType.int) :: th_tb) ({ frames := 1, cells := 0, slots := 0, locals := 21 } : Room) (th_P [.ref a0, .int p1, .int p2] G H0) (th_Q (fun (v : Option Value) (H1 : Heap) => ∃ r : Int32, v = some (.int r) ∧ (-1) ≤ r.toInt ∧ r.toInt ≤ 143 ∧ (f_X12_firstBare (dv G Γ H0) (a0 : Int) p1.toInt p2.toInt = (r.toInt, ())) ∧ H0 = H1) G) 0 0 (fun q => G.1.2.2 ≤ q) := by
  refine th_met RX12 (by decide) rfl (Nat.le_of_ble_eq_true rfl) ?_
  intro p e s m below meth c hC hH hr hlocks hnm ls hl
  have hx := hC.1
  have hb := hC.2.1
  have hB : th_B G Γ Γ [] H0 H0 [] := ⟨hI, va_S.rf, th_F_rf⟩
  have hl : lv_has ls 5 [(0, .ref a0), (1, .int p1), (2, .int p2)] := hl
  have lp1 := ti_lo p1; have up1 := ti_hi p1
  have lp2 := ti_lo p2; have up2 := ti_hi p2
  obtain ⟨F, hF0⟩ : ∃ F, F = f_X12_firstBare (dv G Γ H0) ((a0 : Int)) (p1.toInt) (p2.toInt) := ⟨_, rfl⟩
  have hF := hF0.trans (f_X12_firstBare.eq_1 (dv G Γ H0) ((a0 : Int)) (p1.toInt) (p2.toInt))
  refine lv_iconst (v := 0) hx hb gX12_firstBare_0.1 (by decide) ?_
  refine lv_istore_n (lv' := [(3, .int 0), (0, .ref a0), (1, .int p1), (2, .int p2)]) hx hb gX12_firstBare_0.2.1 rfl hl (by decide) rfl (fun ls hl => ?_)
  have lp2 : ∀ (n2 : Nat) (locs : List Loc) (ls : Array Slot) (j2_3 : Int32), th_B G Γ Γ [] H0 H0 locs → lv_has ls 5 [(0, .ref a0), (1, .int p1), (2, .int p2), (3, .int j2_3)] → F = dv_lp f_X12_firstBare_2b (dv G Γ H0, (a0 : Int), p1.toInt, p2.toInt, j2_3.toInt) → 0 ≤ j2_3.toInt → j2_3.toInt ≤ 12 → (2147483648 : Int) - j2_3.toInt ≤ (n2 : Int) → W p l e ({ frames := 1, cells := 0, slots := 0, locals := 21 } : Room) s m ([.ref a0, .int p1, .int p2] : List Value).toArray below meth c H0 locs 0 0 (MQ below (th_Q (fun (v : Option Value) (H1 : Heap) => ∃ r : Int32, v = some (.int r) ∧ (-1) ≤ r.toInt ∧ r.toInt ≤ 143 ∧ (f_X12_firstBare (dv G Γ H0) (a0 : Int) p1.toInt p2.toInt = (r.toInt, ())) ∧ H0 = H1) G) ([.ref a0, .int p1, .int p2] : List Value).toArray s 0 0 (fun q => G.1.2.2 ≤ q)) (F0 m 2 ls []) := by
    intro n2
    induction n2 with
    | zero => intro locs ls j2_3 hB hl hF g2_0 g2_1 hm2; exact absurd hm2 (by have := ti_hi j2_3; omega)
    | succ n2 ih2 =>
      intro locs ls j2_3 hB hl hF g2_0 g2_1 hm2
      have lj2_3 := ti_lo j2_3; have uj2_3 := ti_hi j2_3
      have hm2 : (2147483648 : Int) - j2_3.toInt ≤ (n2 : Int) + 1 := by omega
      replace hF := hF.trans (dv_lp_eq)
      replace hF := hF.trans (congrArg (dv_k f_X12_firstBare_2b) (f_X12_firstBare_2c.eq_1 (dv G Γ H0) ((a0 : Int)) (p1.toInt) (p2.toInt) (j2_3.toInt)))
      refine lv_iload_n hx hb gX12_firstBare_0.2.2.1 rfl (lv_at hl 3 rfl) ?_
      refine lv_iload_n hx hb gX12_firstBare_0.2.2.2.1 rfl (lv_at hl 2 rfl) ?_
      refine tr_icmp_ge (tgt := 50) hx hb gX12_firstBare_0.2.2.2.2.1 (by decide) (Eq.refl _) (Eq.refl _) (fun c4 => ?_) (fun c4 => ?_)
      · replace hF := hF.trans (congrArg (dv_k f_X12_firstBare_2b) (if_pos c4))
        refine lv_iconst (v := (-1)) hx hb gX12_firstBare_3.2.2.2.1 (by decide) ?_
        replace hF := hF.trans (dv_kr)
        exact th_iret hC hH hr hlocks rfl hB.2.1 ⟨_, rfl, by decide, by decide, (hF0.symm.trans (hF.trans (by rw [tk_m1]))), rfl⟩ gX12_firstBare_3.2.2.2.2
      · replace hF := hF.trans (congrArg (dv_k f_X12_firstBare_2b) (if_neg (Int.not_le.mpr c4)))
        refine lv_iconst (v := 0) hx hb gX12_firstBare_0.2.2.2.2.2.1 (by decide) ?_
        refine lv_istore (lv' := [(4, .int 0), (0, .ref a0), (1, .int p1), (2, .int p2), (3, .int j2_3)]) hx hb gX12_firstBare_0.2.2.2.2.2.2.1 hl (by decide) rfl (fun ls hl => ?_)
        have lp10 : ∀ (n10 : Nat) (locs : List Loc) (ls : Array Slot) (j10_4 : Int32), th_B G Γ Γ [] H0 H0 locs → lv_has ls 5 [(0, .ref a0), (1, .int p1), (2, .int p2), (3, .int j2_3), (4, .int j10_4)] → F = dv_k f_X12_firstBare_2b (dv_lp f_X12_firstBare_10b (dv G Γ H0, (a0 : Int), p1.toInt, p2.toInt, j2_3.toInt, j10_4.toInt)) → 0 ≤ j10_4.toInt → j10_4.toInt ≤ 12 → (2147483648 : Int) - j10_4.toInt ≤ (n10 : Int) → W p l e ({ frames := 1, cells := 0, slots := 0, locals := 21 } : Room) s m ([.ref a0, .int p1, .int p2] : List Value).toArray below meth c H0 locs 0 0 (MQ below (th_Q (fun (v : Option Value) (H1 : Heap) => ∃ r : Int32, v = some (.int r) ∧ (-1) ≤ r.toInt ∧ r.toInt ≤ 143 ∧ (f_X12_firstBare (dv G Γ H0) (a0 : Int) p1.toInt p2.toInt = (r.toInt, ())) ∧ H0 = H1) G) ([.ref a0, .int p1, .int p2] : List Value).toArray s 0 0 (fun q => G.1.2.2 ≤ q)) (F0 m 10 ls []) := by
          intro n10
          induction n10 with
          | zero => intro locs ls j10_4 hB hl hF g10_0 g10_1 hm10; exact absurd hm10 (by have := ti_hi j10_4; omega)
          | succ n10 ih10 =>
            intro locs ls j10_4 hB hl hF g10_0 g10_1 hm10
            have lj10_4 := ti_lo j10_4; have uj10_4 := ti_hi j10_4
            have hm10 : (2147483648 : Int) - j10_4.toInt ≤ (n10 : Int) + 1 := by omega
            replace hF := hF.trans (congrArg (dv_k f_X12_firstBare_2b) (dv_lp_eq))
            replace hF := hF.trans (congrArg (dv_k f_X12_firstBare_2b) (congrArg (dv_k f_X12_firstBare_10b) (f_X12_firstBare_10c.eq_1 (dv G Γ H0) ((a0 : Int)) (p1.toInt) (p2.toInt) (j2_3.toInt) (j10_4.toInt))))
            refine lv_iload hx hb gX12_firstBare_0.2.2.2.2.2.2.2 (lv_at hl 4 rfl) ?_
            refine lv_iload_n hx hb gX12_firstBare_1.1 rfl (lv_at hl 1 rfl) ?_
            refine tr_icmp_ge (tgt := 44) hx hb gX12_firstBare_1.2.1 (by decide) (Eq.refl _) (Eq.refl _) (fun c13 => ?_) (fun c13 => ?_)
            · replace hF := hF.trans (congrArg (dv_k f_X12_firstBare_2b) (congrArg (dv_k f_X12_firstBare_10b) (if_pos c13)))
              refine tr_iinc (fun x1 => [(3, .int x1), (0, .ref a0), (1, .int p1), (2, .int p2), (4, .int j10_4)]) hx hb gX12_firstBare_3.2.1 hl (k := 3) rfl (Eq.refl _) tk_1 (by omega) (by omega) (by decide) (fun _ => rfl) (fun x1 ls ex1 hl => ?_)
              replace hF := hF.trans (congrArg (dv_k f_X12_firstBare_2b) (congrArg (dv_k f_X12_firstBare_10b) (dv_bn (ex1.symm))))
              refine lv_goto (tgt := 2) hx hb gX12_firstBare_3.2.2.1 (by decide) ?_
              replace hF := hF.trans (congrArg (dv_k f_X12_firstBare_2b) (dv_kr))
              replace hF := hF.trans (dv_kl)
              exact ih2 locs ls x1 hB (lv_sub hl [1, 2, 3, 0] rfl) hF (by omega) (by omega) (by omega)
            · replace hF := hF.trans (congrArg (dv_k f_X12_firstBare_2b) (congrArg (dv_k f_X12_firstBare_10b) (if_neg (Int.not_le.mpr c13))))
              refine lv_aload_n hx hb gX12_firstBare_1.2.2.1 rfl (lv_at hl 0 rfl) ?_
              refine th_getO (j := 29) (r2 := 59) hC cf_X12 hB.1 h0 ro_46 rfl rfl kf_X12_66 gX12_firstBare_1.2.2.2.1 (fun b2 mb2 hb2 => ?_)
              refine lv_iload_n hx hb gX12_firstBare_1.2.2.2.2.1 rfl (lv_at hl 3 rfl) ?_
              refine th_ialdF hC hB.1 hb2 ro_59 rfl (Eq.refl _) (by omega) (by omega) rfl gX12_firstBare_1.2.2.2.2.2.1 (fun x3 mx3 lx3 ux3 => ?_)
              replace hF := hF.trans (congrArg (dv_k f_X12_firstBare_2b) (congrArg (dv_k f_X12_firstBare_10b) (dv_bn (dv_aldI hB.1 hU hb2 ow_59 (z := j2_3.toInt) mx3 (by omega)))))
              refine lv_iload hx hb gX12_firstBare_1.2.2.2.2.2.2.1 (lv_at hl 4 rfl) ?_
              refine th_call (th_runS (As := [.int x3, .int j10_4]) (rest := []) hC mf_X12_isIn km_X12_348 st_X12_isIn (c_X12_isIn l G Γ H0 hB.1 hU x3 j10_4 (by omega) (by omega)) rfl rfl ⟨Nat.le_of_ble_eq_true rfl, Nat.le_of_ble_eq_true rfl⟩ rfl hl.1 rfl (Nat.le_of_ble_eq_true rfl) gX12_firstBare_1.2.2.2.2.2.2.2 ⟨Nat.le_refl _, Nat.le_refl _⟩) hB.2.1 (fun v24 H24 locs hp hz hS => ?_)
              obtain ⟨x4, rfl, lx4, ux4, q24_0, q24_1, rfl⟩ := hp
              have hB := th_B_s hB hS
              replace hF := hF.trans (congrArg (dv_k f_X12_firstBare_2b) (congrArg (dv_k f_X12_firstBare_10b) (dv_bn2 (q24_1))))
              refine W.eq (g2 := F0 m 27 ls [.int x4]) rfl ?_
              refine tr_if_ne (tgt := 38) hx hb gX12_firstBare_2.1 (by decide) (Eq.refl _) (fun c27 => ?_) (fun c27 => ?_)
              · replace hF := hF.trans (congrArg (dv_k f_X12_firstBare_2b) (congrArg (dv_k f_X12_firstBare_10b) (if_pos c27)))
                refine tr_iinc (fun x5 => [(4, .int x5), (0, .ref a0), (1, .int p1), (2, .int p2), (3, .int j2_3)]) hx hb gX12_firstBare_2.2.2.2.2.2.2.2 hl (k := 4) rfl (Eq.refl _) tk_1 (by omega) (by omega) (by decide) (fun _ => rfl) (fun x5 ls ex5 hl => ?_)
                replace hF := hF.trans (congrArg (dv_k f_X12_firstBare_2b) (congrArg (dv_k f_X12_firstBare_10b) (dv_bn (ex5.symm))))
                refine lv_goto (tgt := 10) hx hb gX12_firstBare_3.1 (by decide) ?_
                replace hF := hF.trans (congrArg (dv_k f_X12_firstBare_2b) (dv_kl))
                exact ih10 locs ls x5 hB (lv_sub hl [1, 2, 3, 4, 0] rfl) hF (by omega) (by omega) (by omega)
              · replace hF := hF.trans (congrArg (dv_k f_X12_firstBare_2b) (congrArg (dv_k f_X12_firstBare_10b) (if_neg (not_not_intro c27))))
                refine lv_bipush (v := 12) hx hb gX12_firstBare_2.2.1 (by decide) ?_
                refine lv_iload_n hx hb gX12_firstBare_2.2.2.1 rfl (lv_at hl 3 rfl) ?_
                refine tr_imul hx hb gX12_firstBare_2.2.2.2.1 tk_12 (Eq.refl _) (by omega) (by omega) (fun x6 ex6 => ?_)
                replace hF := hF.trans (congrArg (dv_k f_X12_firstBare_2b) (congrArg (dv_k f_X12_firstBare_10b) (dv_bn (ex6.symm))))
                refine lv_iload hx hb gX12_firstBare_2.2.2.2.2.1 (lv_at hl 4 rfl) ?_
                refine tr_iadd hx hb gX12_firstBare_2.2.2.2.2.2.1 (Eq.refl _) (Eq.refl _) (by omega) (by omega) (fun x7 ex7 => ?_)
                replace hF := hF.trans (congrArg (dv_k f_X12_firstBare_2b) (congrArg (dv_k f_X12_firstBare_10b) (dv_bn (ex7.symm))))
                replace hF := hF.trans (congrArg (dv_k f_X12_firstBare_2b) (dv_kr))
                replace hF := hF.trans (dv_kr)
                exact th_iret hC hH hr hlocks rfl hB.2.1 ⟨_, rfl, by omega, by omega, (hF0.symm.trans hF), rfl⟩ gX12_firstBare_2.2.2.2.2.2.2.1
        exact lp10 ((2147483648 : Int) - (0)).toNat locs ls 0 hB (lv_sub hl [1, 2, 3, 4, 0] rfl) (by rw [tk_0]; exact hF) (by decide) (by decide) (by have w0 := tk_0; omega)
  exact lp2 ((2147483648 : Int) - (0)).toNat [] ls 0 hB (lv_sub hl [1, 2, 3, 0] rfl) (by rw [tk_0]; exact hF) (by decide) (by decide) (by have w0 := tk_0; omega)

set_option maxHeartbeats 4000000 in
set_option maxRecDepth 100000 in
theorem c_X12_isFree (l : Launch) (G : th_G) (Γ : th_Ga) (H0 : Heap) (hI : th_I G Γ H0) (hU : dv_U Γ) (a0 : Nat) (h0 : Γ a0 = (46, 0)) (p1 : Int32) (f1 : 0 ≤ p1.toInt) (g1 : p1.toInt ≤ 12) (p2 : Int32) (f2 : 0 ≤ p2.toInt) (g2 : p2.toInt ≤ 11) (p3 : Int32) (f3 : 0 ≤ p3.toInt) (g3 : p3.toInt ≤ 11) (p4 : Int32) (f4 : 0 ≤ p4.toInt) (g4 : p4.toInt ≤ 12) (p5 : Int32) (f5 : 0 ≤ p5.toInt) (g5 : p5.toInt ≤ 12) : Met l yX12_isFree (.code yX12_isFree cX12_isFree 8 (some FieldType.boolean) :: th_tb) ({ frames := 0, cells := 0, slots := 0, locals := 0 } : Room) (th_P [.ref a0, .int p1, .int p2, .int p3, .int p4, .int p5] G H0) (th_Q (fun (v : Option Value) (H1 : Heap) => ∃ r : Int32, v = some (.int r) ∧ 0 ≤ r.toInt ∧ r.toInt ≤ 1 ∧ (r.toInt = 1 → p2.toInt + p1.toInt ≤ p4.toInt ∧ p3.toInt + p1.toInt ≤ p5.toInt) ∧ (r.toInt = 1 → ∀ z : Int, p3.toInt ≤ z → z < p3.toInt + p1.toInt → mo_x G H0 a0 29 z &&& mo_mk p1 p2 = 0) ∧ (f_X12_isFree (dv G Γ H0) (a0 : Int) p1.toInt p2.toInt p3.toInt p4.toInt p5.toInt = (r.toInt, ())) ∧ H0 = H1) G) 0 0 (fun q => G.1.2.2 ≤ q) := by
  refine th_met RX12 (by decide) rfl (Nat.le_of_ble_eq_true rfl) ?_
  intro p e s m below meth c hC hH hr hlocks hnm ls hl
  have hx := hC.1
  have hb := hC.2.1
  have hB : th_B G Γ Γ [] H0 H0 [] := ⟨hI, va_S.rf, th_F_rf⟩
  have hl : lv_has ls 8 [(0, .ref a0), (1, .int p1), (2, .int p2), (3, .int p3), (4, .int p4), (5, .int p5)] := hl
  have lp1 := ti_lo p1; have up1 := ti_hi p1
  have lp2 := ti_lo p2; have up2 := ti_hi p2
  have lp3 := ti_lo p3; have up3 := ti_hi p3
  have lp4 := ti_lo p4; have up4 := ti_hi p4
  have lp5 := ti_lo p5; have up5 := ti_hi p5
  obtain ⟨F, hF0⟩ : ∃ F, F = f_X12_isFree (dv G Γ H0) ((a0 : Int)) (p1.toInt) (p2.toInt) (p3.toInt) (p4.toInt) (p5.toInt) := ⟨_, rfl⟩
  have hF := hF0.trans (f_X12_isFree.eq_1 (dv G Γ H0) ((a0 : Int)) (p1.toInt) (p2.toInt) (p3.toInt) (p4.toInt) (p5.toInt))
  refine lv_iload_n hx hb gX12_isFree_0.1 rfl (lv_at hl 2 rfl) ?_
  refine lv_iload_n hx hb gX12_isFree_0.2.1 rfl (lv_at hl 1 rfl) ?_
  refine tr_iadd hx hb gX12_isFree_0.2.2.1 (Eq.refl _) (Eq.refl _) (by omega) (by omega) (fun x1 ex1 => ?_)
  replace hF := hF.trans (dv_bn (ex1.symm))
  refine lv_iload hx hb gX12_isFree_0.2.2.2.1 (lv_at hl 4 rfl) ?_
  have jn21 : ∀ (locs : List Loc) (ls : Array Slot) (s21_0 : Int32), th_B G Γ Γ [] H0 H0 locs → lv_has ls 8 [(0, .ref a0), (1, .int p1), (2, .int p2), (3, .int p3)] → F = f_X12_isFree_21 (dv G Γ H0) ((a0 : Int)) (p1.toInt) (p2.toInt) (p3.toInt) (s21_0.toInt) → 0 ≤ s21_0.toInt → s21_0.toInt ≤ 1 → (s21_0.toInt = 1 → p2.toInt + p1.toInt ≤ p4.toInt ∧ p3.toInt + p1.toInt ≤ p5.toInt) → W p l e ({ frames := 0, cells := 0, slots := 0, locals := 0 } : Room) s m ([.ref a0, .int p1, .int p2, .int p3, .int p4, .int p5] : List Value).toArray below meth c H0 locs 0 0 (MQ below (th_Q (fun (v : Option Value) (H1 : Heap) => ∃ r : Int32, v = some (.int r) ∧ 0 ≤ r.toInt ∧ r.toInt ≤ 1 ∧ (r.toInt = 1 → p2.toInt + p1.toInt ≤ p4.toInt ∧ p3.toInt + p1.toInt ≤ p5.toInt) ∧ (r.toInt = 1 → ∀ z : Int, p3.toInt ≤ z → z < p3.toInt + p1.toInt → mo_x G H0 a0 29 z &&& mo_mk p1 p2 = 0) ∧ (f_X12_isFree (dv G Γ H0) (a0 : Int) p1.toInt p2.toInt p3.toInt p4.toInt p5.toInt = (r.toInt, ())) ∧ H0 = H1) G) ([.ref a0, .int p1, .int p2, .int p3, .int p4, .int p5] : List Value).toArray s 0 0 (fun q => G.1.2.2 ≤ q)) (F0 m 21 ls [.int s21_0]) := by
    intro locs ls s21_0 hB hl hF g21_0 g21_1 g21_2
    have ls21_0 := ti_lo s21_0; have us21_0 := ti_hi s21_0
    replace hF := hF.trans (f_X12_isFree_21.eq_1 (dv G Γ H0) ((a0 : Int)) (p1.toInt) (p2.toInt) (p3.toInt) (s21_0.toInt))
    refine lv_istore (lv' := [(6, .int s21_0), (0, .ref a0), (1, .int p1), (2, .int p2), (3, .int p3)]) hx hb gX12_isFree_1.2.2.2.2.2.1 hl (by decide) rfl (fun ls hl => ?_)
    refine lv_iload_n hx hb gX12_isFree_1.2.2.2.2.2.2.1 rfl (lv_at hl 4 rfl) ?_
    refine lv_istore (lv' := [(7, .int p3), (6, .int s21_0), (0, .ref a0), (1, .int p1), (2, .int p2), (3, .int p3)]) hx hb gX12_isFree_1.2.2.2.2.2.2.2 hl (by decide) rfl (fun ls hl => ?_)
    have lp26 : ∀ (n26 : Nat) (locs : List Loc) (ls : Array Slot) (j26_6 : Int32) (j26_7 : Int32), th_B G Γ Γ [] H0 H0 locs → lv_has ls 8 [(0, .ref a0), (1, .int p1), (2, .int p2), (3, .int p3), (6, .int j26_6), (7, .int j26_7)] → F = dv_lp f_X12_isFree_26b (dv G Γ H0, (a0 : Int), p1.toInt, p2.toInt, p3.toInt, j26_6.toInt, j26_7.toInt) → 0 ≤ j26_6.toInt → j26_6.toInt ≤ 1 → 0 ≤ j26_7.toInt → j26_7.toInt ≤ 23 → (j26_6.toInt = 1 → p2.toInt + p1.toInt ≤ p4.toInt ∧ p3.toInt + p1.toInt ≤ p5.toInt) → (j26_6.toInt = 1 → ∀ z : Int, p3.toInt ≤ z → z < j26_7.toInt → mo_x G H0 a0 29 z &&& mo_mk p1 p2 = 0) → (2147483648 : Int) - j26_7.toInt ≤ (n26 : Int) → W p l e ({ frames := 0, cells := 0, slots := 0, locals := 0 } : Room) s m ([.ref a0, .int p1, .int p2, .int p3, .int p4, .int p5] : List Value).toArray below meth c H0 locs 0 0 (MQ below (th_Q (fun (v : Option Value) (H1 : Heap) => ∃ r : Int32, v = some (.int r) ∧ 0 ≤ r.toInt ∧ r.toInt ≤ 1 ∧ (r.toInt = 1 → p2.toInt + p1.toInt ≤ p4.toInt ∧ p3.toInt + p1.toInt ≤ p5.toInt) ∧ (r.toInt = 1 → ∀ z : Int, p3.toInt ≤ z → z < p3.toInt + p1.toInt → mo_x G H0 a0 29 z &&& mo_mk p1 p2 = 0) ∧ (f_X12_isFree (dv G Γ H0) (a0 : Int) p1.toInt p2.toInt p3.toInt p4.toInt p5.toInt = (r.toInt, ())) ∧ H0 = H1) G) ([.ref a0, .int p1, .int p2, .int p3, .int p4, .int p5] : List Value).toArray s 0 0 (fun q => G.1.2.2 ≤ q)) (F0 m 26 ls []) := by
      intro n26
      induction n26 with
      | zero => intro locs ls j26_6 j26_7 hB hl hF g26_0 g26_1 g26_2 g26_3 g26_4 g26_5 hm26; exact absurd hm26 (by have := ti_hi j26_7; omega)
      | succ n26 ih26 =>
        intro locs ls j26_6 j26_7 hB hl hF g26_0 g26_1 g26_2 g26_3 g26_4 g26_5 hm26
        have lj26_6 := ti_lo j26_6; have uj26_6 := ti_hi j26_6
        have lj26_7 := ti_lo j26_7; have uj26_7 := ti_hi j26_7
        have hm26 : (2147483648 : Int) - j26_7.toInt ≤ (n26 : Int) + 1 := by omega
        replace hF := hF.trans (dv_lp_eq)
        replace hF := hF.trans (congrArg (dv_k f_X12_isFree_26b) (f_X12_isFree_26c.eq_1 (dv G Γ H0) ((a0 : Int)) (p1.toInt) (p2.toInt) (p3.toInt) (j26_6.toInt) (j26_7.toInt)))
        refine lv_iload hx hb gX12_isFree_2.1 (lv_at hl 5 rfl) ?_
        refine lv_iload_n hx hb gX12_isFree_2.2.1 rfl (lv_at hl 3 rfl) ?_
        refine lv_iload_n hx hb gX12_isFree_2.2.2.1 rfl (lv_at hl 1 rfl) ?_
        refine tr_iadd hx hb gX12_isFree_2.2.2.2.1 (Eq.refl _) (Eq.refl _) (by omega) (by omega) (fun x2 ex2 => ?_)
        replace hF := hF.trans (congrArg (dv_k f_X12_isFree_26b) (dv_bn (ex2.symm)))
        refine tr_icmp_ge (tgt := 70) hx hb gX12_isFree_2.2.2.2.2.1 (by decide) (Eq.refl _) (Eq.refl _) (fun c31 => ?_) (fun c31 => ?_)
        · replace hF := hF.trans (congrArg (dv_k f_X12_isFree_26b) (if_pos c31))
          refine lv_iload hx hb gX12_isFree_5.2.2.1 (lv_at hl 4 rfl) ?_
          replace hF := hF.trans (dv_kr)
          exact th_iret hC hH hr hlocks (th_nb (by omega) (by omega)) hB.2.1 ⟨_, rfl, by omega, by omega, by intros; omega, fun h9 z9 a9 b9 => g26_5 h9 z9 a9 (by omega), (hF0.symm.trans hF), rfl⟩ gX12_isFree_5.2.2.2
        · replace hF := hF.trans (congrArg (dv_k f_X12_isFree_26b) (if_neg (Int.not_le.mpr c31)))
          refine lv_iload hx hb gX12_isFree_2.2.2.2.2.2.1 (lv_at hl 4 rfl) ?_
          refine tr_if_eq (tgt := 70) hx hb gX12_isFree_2.2.2.2.2.2.2.1 (by decide) (Eq.refl _) (fun c36 => ?_) (fun c36 => ?_)
          · replace hF := hF.trans (congrArg (dv_k f_X12_isFree_26b) (if_pos c36))
            refine lv_iload hx hb gX12_isFree_5.2.2.1 (lv_at hl 4 rfl) ?_
            replace hF := hF.trans (dv_kr)
            exact th_iret hC hH hr hlocks (th_nb (by omega) (by omega)) hB.2.1 ⟨_, rfl, by omega, by omega, by intros; omega, fun h9 z9 a9 b9 => g26_5 h9 z9 a9 (by omega), (hF0.symm.trans hF), rfl⟩ gX12_isFree_5.2.2.2
          · replace hF := hF.trans (congrArg (dv_k f_X12_isFree_26b) (if_neg c36))
            refine lv_aload_n hx hb gX12_isFree_2.2.2.2.2.2.2.2 rfl (lv_at hl 0 rfl) ?_
            refine th_getO (j := 29) (r2 := 59) hC cf_X12 hB.1 h0 ro_46 rfl rfl kf_X12_66 gX12_isFree_3.1 (fun b3 mb3 hb3 => ?_)
            refine lv_iload hx hb gX12_isFree_3.2.1 (lv_at hl 5 rfl) ?_
            refine th_ialdF hC hB.1 hb3 ro_59 rfl (Eq.refl _) (by omega) (by omega) rfl gX12_isFree_3.2.2.1 (fun x4 mx4 lx4 ux4 => ?_)
            replace hF := hF.trans (congrArg (dv_k f_X12_isFree_26b) (dv_bn (dv_aldI hB.1 hU hb3 ow_59 (z := j26_7.toInt) mx4 (by omega))))
            have vgx4 : mo_x G H0 a0 29 j26_7.toInt = x4 := by rw [show (j26_7.toInt : Int) = j26_7.toInt by omega]; exact mo_xat mb3 mx4 (by omega)
            refine lv_iconst (v := 1) hx hb gX12_isFree_3.2.2.2.1 (by decide) ?_
            refine lv_iload_n hx hb gX12_isFree_3.2.2.2.2.1 rfl (lv_at hl 1 rfl) ?_
            refine lv_ishl hx hb gX12_isFree_3.2.2.2.2.2.1 ?_
            refine lv_topi (fun x5 ex5 => ?_)
            have lx5 := ti_lo x5; have ux5 := ti_hi x5
            replace hF := hF.trans (congrArg (dv_k f_X12_isFree_26b) (dv_bn (dv_shl_e tk_1 (Eq.refl _) ex5)))
            refine lv_iconst (v := 1) hx hb gX12_isFree_3.2.2.2.2.2.2.1 (by decide) ?_
            refine lv_isub hx hb gX12_isFree_3.2.2.2.2.2.2.2 ?_
            refine lv_topi (fun x6 ex6 => ?_)
            have lx6 := ti_lo x6; have ux6 := ti_hi x6
            replace hF := hF.trans (congrArg (dv_k f_X12_isFree_26b) (dv_bn (dv_sub_e (Eq.refl _) tk_1 ex6)))
            refine lv_iload_n hx hb gX12_isFree_4.1 rfl (lv_at hl 2 rfl) ?_
            refine lv_ishl hx hb gX12_isFree_4.2.1 ?_
            refine lv_topi (fun x7 ex7 => ?_)
            have lx7 := ti_lo x7; have ux7 := ti_hi x7
            replace hF := hF.trans (congrArg (dv_k f_X12_isFree_26b) (dv_bn (dv_shl_e (Eq.refl _) (Eq.refl _) ex7)))
            refine lv_iand hx hb gX12_isFree_4.2.2.1 ?_
            refine lv_topi (fun x8 ex8 => ?_)
            have lx8 := ti_lo x8; have ux8 := ti_hi x8
            replace hF := hF.trans (congrArg (dv_k f_X12_isFree_26b) (dv_bn (dv_and_e (Eq.refl _) (Eq.refl _) ex8)))
            refine tr_if_ne (tgt := 61) hx hb gX12_isFree_4.2.2.2.1 (by decide) (Eq.refl _) (fun c54 => ?_) (fun c54 => ?_)
            · replace hF := hF.trans (congrArg (dv_k f_X12_isFree_26b) (if_pos c54))
              refine lv_iconst (v := 0) hx hb gX12_isFree_4.2.2.2.2.2.2.1 (by decide) ?_
              refine lv_istore (lv' := [(6, .int 0), (0, .ref a0), (1, .int p1), (2, .int p2), (3, .int p3), (7, .int j26_7)]) hx hb gX12_isFree_4.2.2.2.2.2.2.2 hl (by decide) rfl (fun ls hl => ?_)
              refine tr_iinc (fun x9 => [(7, .int x9), (6, .int 0), (0, .ref a0), (1, .int p1), (2, .int p2), (3, .int p3)]) hx hb gX12_isFree_5.1 hl (k := 5) rfl (Eq.refl _) tk_1 (by omega) (by omega) (by decide) (fun _ => rfl) (fun x9 ls ex9 hl => ?_)
              replace hF := hF.trans (congrArg (dv_k f_X12_isFree_26b) (dv_bn (ex9.symm)))
              refine lv_goto (tgt := 26) hx hb gX12_isFree_5.2.1 (by decide) ?_
              replace hF := hF.trans (dv_kl)
              exact ih26 locs ls 0 x9 hB (lv_sub hl [2, 3, 4, 5, 1, 0] rfl) (by rw [tk_0]; exact hF) (by decide) (by decide) (by omega) (by omega) (by have w0 := tk_0; omega) (fun h9 z9 a9 b9 => (Int.lt_or_le z9 j26_7.toInt).elim (fun q9 => g26_5 (by omega) z9 a9 q9) (fun q9 => by first | exact absurd h9 (by decide) | (rw [show z9 = j26_7.toInt by omega, vgx4, mo_mk, ← ex5, ← ex6, ← ex7, ← ex8]; exact Int32.toInt_inj.mp (by have w0 := tk_0; omega)))) (by have w0 := tk_0; omega)
            · replace hF := hF.trans (congrArg (dv_k f_X12_isFree_26b) (if_neg (not_not_intro c54)))
              refine lv_iconst (v := 1) hx hb gX12_isFree_4.2.2.2.2.1 (by decide) ?_
              refine lv_goto (tgt := 62) hx hb gX12_isFree_4.2.2.2.2.2.1 (by decide) ?_
              refine lv_istore (lv' := [(6, .int 1), (0, .ref a0), (1, .int p1), (2, .int p2), (3, .int p3), (7, .int j26_7)]) hx hb gX12_isFree_4.2.2.2.2.2.2.2 hl (by decide) rfl (fun ls hl => ?_)
              refine tr_iinc (fun x10 => [(7, .int x10), (6, .int 1), (0, .ref a0), (1, .int p1), (2, .int p2), (3, .int p3)]) hx hb gX12_isFree_5.1 hl (k := 5) rfl (Eq.refl _) tk_1 (by omega) (by omega) (by decide) (fun _ => rfl) (fun x10 ls ex10 hl => ?_)
              replace hF := hF.trans (congrArg (dv_k f_X12_isFree_26b) (dv_bn (ex10.symm)))
              refine lv_goto (tgt := 26) hx hb gX12_isFree_5.2.1 (by decide) ?_
              replace hF := hF.trans (dv_kl)
              exact ih26 locs ls 1 x10 hB (lv_sub hl [2, 3, 4, 5, 1, 0] rfl) (by rw [tk_1]; exact hF) (by decide) (by decide) (by omega) (by omega) (by have w0 := tk_1; omega) (fun h9 z9 a9 b9 => (Int.lt_or_le z9 j26_7.toInt).elim (fun q9 => g26_5 (by omega) z9 a9 q9) (fun q9 => by first | exact absurd h9 (by decide) | (rw [show z9 = j26_7.toInt by omega, vgx4, mo_mk, ← ex5, ← ex6, ← ex7, ← ex8]; exact Int32.toInt_inj.mp (by have w0 := tk_0; omega)))) (by have w0 := tk_1; omega)
    exact lp26 ((2147483648 : Int) - (p3.toInt)).toNat locs ls s21_0 p3 hB (lv_sub hl [2, 3, 4, 5, 1, 0] rfl) hF (by omega) (by omega) (by omega) (by omega) (by omega) (fun _ z9 a9 b9 => by omega) (by omega)
  have jn20 : ∀ (locs : List Loc) (ls : Array Slot) , th_B G Γ Γ [] H0 H0 locs → lv_has ls 8 [(0, .ref a0), (1, .int p1), (2, .int p2), (3, .int p3)] → F = f_X12_isFree_20 (dv G Γ H0) ((a0 : Int)) (p1.toInt) (p2.toInt) (p3.toInt) → W p l e ({ frames := 0, cells := 0, slots := 0, locals := 0 } : Room) s m ([.ref a0, .int p1, .int p2, .int p3, .int p4, .int p5] : List Value).toArray below meth c H0 locs 0 0 (MQ below (th_Q (fun (v : Option Value) (H1 : Heap) => ∃ r : Int32, v = some (.int r) ∧ 0 ≤ r.toInt ∧ r.toInt ≤ 1 ∧ (r.toInt = 1 → p2.toInt + p1.toInt ≤ p4.toInt ∧ p3.toInt + p1.toInt ≤ p5.toInt) ∧ (r.toInt = 1 → ∀ z : Int, p3.toInt ≤ z → z < p3.toInt + p1.toInt → mo_x G H0 a0 29 z &&& mo_mk p1 p2 = 0) ∧ (f_X12_isFree (dv G Γ H0) (a0 : Int) p1.toInt p2.toInt p3.toInt p4.toInt p5.toInt = (r.toInt, ())) ∧ H0 = H1) G) ([.ref a0, .int p1, .int p2, .int p3, .int p4, .int p5] : List Value).toArray s 0 0 (fun q => G.1.2.2 ≤ q)) (F0 m 20 ls []) := by
    intro locs ls hB hl hF
    replace hF := hF.trans (f_X12_isFree_20.eq_1 (dv G Γ H0) ((a0 : Int)) (p1.toInt) (p2.toInt) (p3.toInt))
    refine lv_iconst (v := 0) hx hb gX12_isFree_1.2.2.2.2.1 (by decide) ?_
    exact jn21 locs ls 0 hB (lv_sub hl [0, 1, 2, 3] rfl) (by rw [tk_0]; exact hF) (by decide) (by decide) (by have w0 := tk_0; omega)
  refine tr_icmp_gt (tgt := 20) hx hb gX12_isFree_0.2.2.2.2.1 (by decide) (Eq.refl _) (Eq.refl _) (fun c5 => ?_) (fun c5 => ?_)
  · replace hF := hF.trans (if_pos c5)
    exact jn20 [] ls hB (lv_sub hl [0, 1, 2, 3] rfl) hF
  · replace hF := hF.trans (if_neg (Int.not_lt.mpr c5))
    refine lv_iload_n hx hb gX12_isFree_0.2.2.2.2.2.1 rfl (lv_at hl 3 rfl) ?_
    refine lv_iload_n hx hb gX12_isFree_0.2.2.2.2.2.2.1 rfl (lv_at hl 1 rfl) ?_
    refine tr_iadd hx hb gX12_isFree_0.2.2.2.2.2.2.2 (Eq.refl _) (Eq.refl _) (by omega) (by omega) (fun x11 ex11 => ?_)
    replace hF := hF.trans (dv_bn (ex11.symm))
    refine lv_iload hx hb gX12_isFree_1.1 (lv_at hl 5 rfl) ?_
    refine tr_icmp_gt (tgt := 20) hx hb gX12_isFree_1.2.1 (by decide) (Eq.refl _) (Eq.refl _) (fun c13 => ?_) (fun c13 => ?_)
    · replace hF := hF.trans (if_pos c13)
      exact jn20 [] ls hB (lv_sub hl [0, 1, 2, 3] rfl) hF
    · replace hF := hF.trans (if_neg (Int.not_lt.mpr c13))
      refine lv_iconst (v := 1) hx hb gX12_isFree_1.2.2.1 (by decide) ?_
      refine lv_goto (tgt := 21) hx hb gX12_isFree_1.2.2.2.1 (by decide) ?_
      exact jn21 [] ls 1 hB (lv_sub hl [0, 1, 2, 3] rfl) (by rw [tk_1]; exact hF) (by decide) (by decide) (by have w0 := tk_1; omega)

set_option maxHeartbeats 4000000 in
set_option maxRecDepth 100000 in
theorem c_X12_carpetBehind (l : Launch) (G : th_G) (Γ : th_Ga) (H0 : Heap) (hI : th_I G Γ H0) (hU : dv_U Γ) (a0 : Nat) (h0 : Γ a0 = (46, 0)) (p1 : Int32) (f1 : 0 ≤ p1.toInt) (g1 : p1.toInt ≤ 9) (p2 : Int32) (p3 : Int32) : Met l yX12_carpetBehind (.code yX12_carpetBehind cX12_carpetBehind 8 (some FieldType.int) :: th_tb) ({ frames := 3, cells := 0, slots := 0, locals := 69 } : Room) (th_P [.ref a0, .int p1, .int p2, .int p3] G H0) (th_Q (fun (v : Option Value) (H1 : Heap) => ∃ r : Int32, v = some (.int r) ∧ (-1) ≤ r.toInt ∧ r.toInt ≤ 8 ∧ (f_X12_carpetBehind (dv G Γ H0) (a0 : Int) p1.toInt p2.toInt p3.toInt = (r.toInt, ())) ∧ H0 = H1) G) 0 0 (fun q => G.1.2.2 ≤ q) := by
  refine th_met RX12 (by decide) rfl (Nat.le_of_ble_eq_true rfl) ?_
  intro p e s m below meth c hC hH hr hlocks hnm ls hl
  have hx := hC.1
  have hb := hC.2.1
  have hB : th_B G Γ Γ [] H0 H0 [] := ⟨hI, va_S.rf, th_F_rf⟩
  have hl : lv_has ls 8 [(0, .ref a0), (1, .int p1), (2, .int p2), (3, .int p3)] := hl
  have lp1 := ti_lo p1; have up1 := ti_hi p1
  have lp2 := ti_lo p2; have up2 := ti_hi p2
  have lp3 := ti_lo p3; have up3 := ti_hi p3
  obtain ⟨F, hF0⟩ : ∃ F, F = f_X12_carpetBehind (dv G Γ H0) ((a0 : Int)) (p1.toInt) (p2.toInt) (p3.toInt) := ⟨_, rfl⟩
  have hF := hF0.trans (f_X12_carpetBehind.eq_1 (dv G Γ H0) ((a0 : Int)) (p1.toInt) (p2.toInt) (p3.toInt))
  refine lv_aload_n hx hb gX12_carpetBehind_0.1 rfl (lv_at hl 0 rfl) ?_
  refine lv_iload_n hx hb gX12_carpetBehind_0.2.1 rfl (lv_at hl 2 rfl) ?_
  refine lv_iload_n hx hb gX12_carpetBehind_0.2.2.1 rfl (lv_at hl 3 rfl) ?_
  refine th_call (th_runV (As := [.int p2, .int p3]) (rest := []) hC mf_X12_at km_X12_394 im_X12_at se_X12_at (c_X12_at l G Γ H0 hB.1 hU a0 h0 p2 p3) rfl rfl ⟨Nat.le_of_ble_eq_true rfl, Nat.le_of_ble_eq_true rfl⟩ hB.1 h0 ro_46 rfl rfl hl.1 rfl (Nat.le_of_ble_eq_true rfl) gX12_carpetBehind_0.2.2.2.1 ⟨Nat.le_refl _, Nat.le_refl _⟩) hB.2.1 (fun v3 H3 locs hp hz hS => ?_)
  obtain ⟨x1, rfl, lx1, ux1, q3_0, rfl⟩ := hp
  have hB := th_B_s hB hS
  replace hF := hF.trans (dv_bn2 (q3_0))
  refine W.eq (g2 := F0 m 6 ls [.int x1]) rfl ?_
  refine lv_istore (lv' := [(4, .int x1), (0, .ref a0), (1, .int p1), (2, .int p2), (3, .int p3)]) hx hb gX12_carpetBehind_0.2.2.2.2.1 hl (by decide) rfl (fun ls hl => ?_)
  refine lv_iconst (v := 0) hx hb gX12_carpetBehind_0.2.2.2.2.2.1 (by decide) ?_
  refine lv_istore (lv' := [(5, .int 0), (4, .int x1), (0, .ref a0), (1, .int p1), (2, .int p2), (3, .int p3)]) hx hb gX12_carpetBehind_0.2.2.2.2.2.2.1 hl (by decide) rfl (fun ls hl => ?_)
  have lp11 : ∀ (n11 : Nat) (locs : List Loc) (ls : Array Slot) (j11_4 : Int32) (j11_5 : Int32), th_B G Γ Γ [] H0 H0 locs → lv_has ls 8 [(0, .ref a0), (1, .int p1), (2, .int p2), (3, .int p3), (4, .int j11_4), (5, .int j11_5)] → F = dv_lp f_X12_carpetBehind_11b (dv G Γ H0, (a0 : Int), p1.toInt, p2.toInt, p3.toInt, j11_4.toInt, j11_5.toInt) → (-1) ≤ j11_4.toInt → j11_4.toInt ≤ 8 → 0 ≤ j11_5.toInt → j11_5.toInt ≤ 9 → (2147483648 : Int) - j11_5.toInt ≤ (n11 : Int) → W p l e ({ frames := 3, cells := 0, slots := 0, locals := 69 } : Room) s m ([.ref a0, .int p1, .int p2, .int p3] : List Value).toArray below meth c H0 locs 0 0 (MQ below (th_Q (fun (v : Option Value) (H1 : Heap) => ∃ r : Int32, v = some (.int r) ∧ (-1) ≤ r.toInt ∧ r.toInt ≤ 8 ∧ (f_X12_carpetBehind (dv G Γ H0) (a0 : Int) p1.toInt p2.toInt p3.toInt = (r.toInt, ())) ∧ H0 = H1) G) ([.ref a0, .int p1, .int p2, .int p3] : List Value).toArray s 0 0 (fun q => G.1.2.2 ≤ q)) (F0 m 11 ls []) := by
    intro n11
    induction n11 with
    | zero => intro locs ls j11_4 j11_5 hB hl hF g11_0 g11_1 g11_2 g11_3 hm11; exact absurd hm11 (by have := ti_hi j11_5; omega)
    | succ n11 ih11 =>
      intro locs ls j11_4 j11_5 hB hl hF g11_0 g11_1 g11_2 g11_3 hm11
      have lj11_4 := ti_lo j11_4; have uj11_4 := ti_hi j11_4
      have lj11_5 := ti_lo j11_5; have uj11_5 := ti_hi j11_5
      have hm11 : (2147483648 : Int) - j11_5.toInt ≤ (n11 : Int) + 1 := by omega
      replace hF := hF.trans (dv_lp_eq)
      replace hF := hF.trans (congrArg (dv_k f_X12_carpetBehind_11b) (f_X12_carpetBehind_11c.eq_1 (dv G Γ H0) ((a0 : Int)) (p1.toInt) (p2.toInt) (p3.toInt) (j11_4.toInt) (j11_5.toInt)))
      refine lv_iload hx hb gX12_carpetBehind_0.2.2.2.2.2.2.2 (lv_at hl 5 rfl) ?_
      refine lv_iload_n hx hb gX12_carpetBehind_1.1 rfl (lv_at hl 1 rfl) ?_
      refine tr_icmp_ge (tgt := 112) hx hb gX12_carpetBehind_1.2.1 (by decide) (Eq.refl _) (Eq.refl _) (fun c14 => ?_) (fun c14 => ?_)
      · replace hF := hF.trans (congrArg (dv_k f_X12_carpetBehind_11b) (if_pos c14))
        refine lv_iload hx hb gX12_carpetBehind_7.2.2.2.2.2.2.2 (lv_at hl 4 rfl) ?_
        replace hF := hF.trans (dv_kr)
        exact th_iret hC hH hr hlocks rfl hB.2.1 ⟨_, rfl, by omega, by omega, (hF0.symm.trans hF), rfl⟩ gX12_carpetBehind_8
      · replace hF := hF.trans (congrArg (dv_k f_X12_carpetBehind_11b) (if_neg (Int.not_le.mpr c14)))
        refine lv_aload_n hx hb gX12_carpetBehind_1.2.2.1 rfl (lv_at hl 0 rfl) ?_
        refine th_getO (j := 2) (r2 := 48) hC cf_X12 hB.1 h0 ro_46 rfl rfl kf_X12_28 gX12_carpetBehind_1.2.2.2.1 (fun b2 mb2 hb2 => ?_)
        refine lv_bipush (v := 29) hx hb gX12_carpetBehind_1.2.2.2.2.1 (by decide) ?_
        refine lv_aload_n hx hb gX12_carpetBehind_1.2.2.2.2.2.1 rfl (lv_at hl 0 rfl) ?_
        refine th_getO (j := 35) (r2 := 64) hC cf_X12 hB.1 h0 ro_46 rfl rfl kf_X12_81 gX12_carpetBehind_1.2.2.2.2.2.2.1 (fun b3 mb3 hb3 => ?_)
        refine lv_iload hx hb gX12_carpetBehind_1.2.2.2.2.2.2.2 (lv_at hl 5 rfl) ?_
        refine th_ialdF hC hB.1 hb3 ro_64 rfl (Eq.refl _) (by omega) (by omega) rfl gX12_carpetBehind_2.1 (fun x4 mx4 lx4 ux4 => ?_)
        replace hF := hF.trans (congrArg (dv_k f_X12_carpetBehind_11b) (dv_bn (dv_aldI hB.1 hU hb3 ow_64 (z := j11_5.toInt) mx4 (by omega))))
        refine tr_iadd hx hb gX12_carpetBehind_2.2.1 tk_29 (Eq.refl _) (by omega) (by omega) (fun x5 ex5 => ?_)
        replace hF := hF.trans (congrArg (dv_k f_X12_carpetBehind_11b) (dv_bn (ex5.symm)))
        refine th_ialdF hC hB.1 hb2 ro_48 rfl (Eq.refl _) (by omega) (by omega) (ek_side (by omega) (by omega)) gX12_carpetBehind_2.2.2.1 (fun x6 mx6 lx6 ux6 => ?_)
        replace hF := hF.trans (congrArg (dv_k f_X12_carpetBehind_11b) (dv_bn (dv_aldI hB.1 hU hb2 ow_48 (z := x5.toInt) mx6 (by omega))))
        refine lv_istore (lv' := [(6, .int x6), (0, .ref a0), (1, .int p1), (2, .int p2), (3, .int p3), (4, .int j11_4), (5, .int j11_5)]) hx hb gX12_carpetBehind_2.2.2.2.1 hl (by decide) rfl (fun ls hl => ?_)
        refine lv_iload_n hx hb gX12_carpetBehind_2.2.2.2.2.1 rfl (lv_at hl 3 rfl) ?_
        refine lv_aload_n hx hb gX12_carpetBehind_2.2.2.2.2.2.1 rfl (lv_at hl 1 rfl) ?_
        refine th_getO (j := 36) (r2 := 65) hC cf_X12 hB.1 h0 ro_46 rfl rfl kf_X12_84 gX12_carpetBehind_2.2.2.2.2.2.2.1 (fun b7 mb7 hb7 => ?_)
        refine lv_iload hx hb gX12_carpetBehind_2.2.2.2.2.2.2.2 (lv_at hl 6 rfl) ?_
        refine th_ialdF hC hB.1 hb7 ro_65 rfl (Eq.refl _) (by omega) (by omega) rfl gX12_carpetBehind_3.1 (fun x8 mx8 lx8 ux8 => ?_)
        replace hF := hF.trans (congrArg (dv_k f_X12_carpetBehind_11b) (dv_bn (dv_aldI hB.1 hU hb7 ow_65 (z := j11_5.toInt) mx8 (by omega))))
        refine lv_bipush (v := 12) hx hb gX12_carpetBehind_3.2.1 (by decide) ?_
        refine tr_irem hx hb gX12_carpetBehind_3.2.2.1 (Eq.refl _) tk_12 (by omega) (by omega) (fun x9 ex9 => ?_)
        replace hF := hF.trans (congrArg (dv_k f_X12_carpetBehind_11b) (dv_bn (ex9.symm)))
        refine lv_isub hx hb gX12_carpetBehind_3.2.2.2.1 ?_
        refine lv_topi (fun x10 ex10 => ?_)
        have lx10 := ti_lo x10; have ux10 := ti_hi x10
        replace hF := hF.trans (congrArg (dv_k f_X12_carpetBehind_11b) (dv_bn (dv_sub_e (Eq.refl _) (Eq.refl _) ex10)))
        refine lv_iconst (v := 0) hx hb gX12_carpetBehind_3.2.2.2.2.1 (by decide) ?_
        refine lv_iload hx hb gX12_carpetBehind_3.2.2.2.2.2.1 (lv_at hl 0 rfl) ?_
        refine lv_iconst (v := 1) hx hb gX12_carpetBehind_3.2.2.2.2.2.2.1 (by decide) ?_
        refine tr_isub hx hb gX12_carpetBehind_3.2.2.2.2.2.2.2 (Eq.refl _) tk_1 (by omega) (by omega) (fun x11 ex11 => ?_)
        replace hF := hF.trans (congrArg (dv_k f_X12_carpetBehind_11b) (dv_bn (ex11.symm)))
        refine th_call (th_runS (As := [.int x10, .int 0, .int x11]) (rest := []) hC mf_X12_lies km_X12_18 st_X12_lies (c_X12_lies l G Γ H0 hB.1 hU x10 0 x11) rfl rfl ⟨Nat.le_of_ble_eq_true rfl, Nat.le_of_ble_eq_true rfl⟩ rfl hl.1 rfl (Nat.le_of_ble_eq_true rfl) gX12_carpetBehind_4.1 ⟨Nat.le_refl _, Nat.le_refl _⟩) hB.2.1 (fun v51 H51 locs hp hz hS => ?_)
        obtain ⟨x12, rfl, lx12, ux12, q51_0, q51_1, q51_2, rfl⟩ := hp
        have hB := th_B_s hB hS
        have w51_1 := tk_0
        have zf51 := q51_2
        rw [tk_0] at zf51
        replace hF := hF.trans (congrArg (dv_k f_X12_carpetBehind_11b) (dv_bn2 (zf51)))
        refine W.eq (g2 := F0 m 54 ls [.int x12]) rfl ?_
        have jn85 : ∀ (locs : List Loc) (ls : Array Slot) (s85_0 : Int32), th_B G Γ Γ [] H0 H0 locs → lv_has ls 8 [(0, .ref a0), (1, .int p1), (2, .int p2), (3, .int p3), (4, .int j11_4), (5, .int j11_5)] → F = dv_k f_X12_carpetBehind_11b (f_X12_carpetBehind_85 (dv G Γ H0) ((a0 : Int)) (p1.toInt) (p2.toInt) (p3.toInt) (j11_4.toInt) (j11_5.toInt) (s85_0.toInt)) → 0 ≤ s85_0.toInt → s85_0.toInt ≤ 1 → W p l e ({ frames := 3, cells := 0, slots := 0, locals := 69 } : Room) s m ([.ref a0, .int p1, .int p2, .int p3] : List Value).toArray below meth c H0 locs 0 0 (MQ below (th_Q (fun (v : Option Value) (H1 : Heap) => ∃ r : Int32, v = some (.int r) ∧ (-1) ≤ r.toInt ∧ r.toInt ≤ 8 ∧ (f_X12_carpetBehind (dv G Γ H0) (a0 : Int) p1.toInt p2.toInt p3.toInt = (r.toInt, ())) ∧ H0 = H1) G) ([.ref a0, .int p1, .int p2, .int p3] : List Value).toArray s 0 0 (fun q => G.1.2.2 ≤ q)) (F0 m 85 ls [.int s85_0]) := by
          intro locs ls s85_0 hB hl hF g85_0 g85_1
          have ls85_0 := ti_lo s85_0; have us85_0 := ti_hi s85_0
          replace hF := hF.trans (congrArg (dv_k f_X12_carpetBehind_11b) (f_X12_carpetBehind_85.eq_1 (dv G Γ H0) ((a0 : Int)) (p1.toInt) (p2.toInt) (p3.toInt) (j11_4.toInt) (j11_5.toInt) (s85_0.toInt)))
          refine lv_istore (lv' := [(7, .int s85_0), (0, .ref a0), (1, .int p1), (2, .int p2), (3, .int p3), (4, .int j11_4), (5, .int j11_5)]) hx hb gX12_carpetBehind_6.2.2.2.1 hl (by decide) rfl (fun ls hl => ?_)
          refine lv_iload hx hb gX12_carpetBehind_6.2.2.2.2.1 (lv_at hl 0 rfl) ?_
          have jn104 : ∀ (locs : List Loc) (ls : Array Slot) (s104_0 : Int32), th_B G Γ Γ [] H0 H0 locs → lv_has ls 8 [(0, .ref a0), (1, .int p1), (2, .int p2), (3, .int p3), (5, .int j11_5)] → F = dv_k f_X12_carpetBehind_11b (f_X12_carpetBehind_104 (dv G Γ H0) ((a0 : Int)) (p1.toInt) (p2.toInt) (p3.toInt) (j11_5.toInt) (s104_0.toInt)) → (-1) ≤ s104_0.toInt → s104_0.toInt ≤ 8 → W p l e ({ frames := 3, cells := 0, slots := 0, locals := 69 } : Room) s m ([.ref a0, .int p1, .int p2, .int p3] : List Value).toArray below meth c H0 locs 0 0 (MQ below (th_Q (fun (v : Option Value) (H1 : Heap) => ∃ r : Int32, v = some (.int r) ∧ (-1) ≤ r.toInt ∧ r.toInt ≤ 8 ∧ (f_X12_carpetBehind (dv G Γ H0) (a0 : Int) p1.toInt p2.toInt p3.toInt = (r.toInt, ())) ∧ H0 = H1) G) ([.ref a0, .int p1, .int p2, .int p3] : List Value).toArray s 0 0 (fun q => G.1.2.2 ≤ q)) (F0 m 104 ls [.int s104_0]) := by
            intro locs ls s104_0 hB hl hF g104_0 g104_1
            have ls104_0 := ti_lo s104_0; have us104_0 := ti_hi s104_0
            replace hF := hF.trans (congrArg (dv_k f_X12_carpetBehind_11b) (f_X12_carpetBehind_104.eq_1 (dv G Γ H0) ((a0 : Int)) (p1.toInt) (p2.toInt) (p3.toInt) (j11_5.toInt) (s104_0.toInt)))
            refine lv_istore (lv' := [(4, .int s104_0), (0, .ref a0), (1, .int p1), (2, .int p2), (3, .int p3), (5, .int j11_5)]) hx hb gX12_carpetBehind_7.2.2.2.2.1 hl (by decide) rfl (fun ls hl => ?_)
            refine tr_iinc (fun x13 => [(5, .int x13), (4, .int s104_0), (0, .ref a0), (1, .int p1), (2, .int p2), (3, .int p3)]) hx hb gX12_carpetBehind_7.2.2.2.2.2.1 hl (k := 5) rfl (Eq.refl _) tk_1 (by omega) (by omega) (by decide) (fun _ => rfl) (fun x13 ls ex13 hl => ?_)
            replace hF := hF.trans (congrArg (dv_k f_X12_carpetBehind_11b) (dv_bn (ex13.symm)))
            refine lv_goto (tgt := 11) hx hb gX12_carpetBehind_7.2.2.2.2.2.2.1 (by decide) ?_
            replace hF := hF.trans (dv_kl)
            exact ih11 locs ls s104_0 x13 hB (lv_sub hl [2, 3, 4, 5, 1, 0] rfl) hF (by omega) (by omega) (by omega) (by omega) (by omega)
          refine tr_if_eq (tgt := 102) hx hb gX12_carpetBehind_6.2.2.2.2.2.1 (by decide) (Eq.refl _) (fun c89 => ?_) (fun c89 => ?_)
          · replace hF := hF.trans (congrArg (dv_k f_X12_carpetBehind_11b) (if_pos c89))
            refine lv_iload hx hb gX12_carpetBehind_7.2.2.2.1 (lv_at hl 5 rfl) ?_
            exact jn104 locs ls j11_4 hB (lv_sub hl [1, 2, 3, 4, 6] rfl) hF (by omega) (by omega)
          · replace hF := hF.trans (congrArg (dv_k f_X12_carpetBehind_11b) (if_neg c89))
            refine lv_aload_n hx hb gX12_carpetBehind_6.2.2.2.2.2.2.1 rfl (lv_at hl 1 rfl) ?_
            refine th_getK hC cf_X12 hB.1 h0 ro_46 rfl (j := 35) (by decide) mb3 kf_X12_81 gX12_carpetBehind_6.2.2.2.2.2.2.2 ?_
            refine lv_iload hx hb gX12_carpetBehind_7.1 (lv_at hl 6 rfl) ?_
            refine th_ialdF hC hB.1 hb3 ro_64 rfl (Eq.refl _) (by omega) (by omega) rfl gX12_carpetBehind_7.2.1 (fun x14 mx14 lx14 ux14 => ?_)
            replace hF := hF.trans (congrArg (dv_k f_X12_carpetBehind_11b) (dv_bn (dv_aldI hB.1 hU hb3 ow_64 (z := j11_5.toInt) mx14 (by omega))))
            have qx14 : x14.toInt = x4.toInt := by rw [show x14 = x4 from Value.int.inj (mx14.symm.trans mx4)]
            refine lv_goto (tgt := 104) hx hb gX12_carpetBehind_7.2.2.1 (by decide) ?_
            exact jn104 locs ls x14 hB (lv_sub hl [1, 2, 3, 4, 6] rfl) hF (by omega) (by omega)
        have jn84 : ∀ (locs : List Loc) (ls : Array Slot) , th_B G Γ Γ [] H0 H0 locs → lv_has ls 8 [(0, .ref a0), (1, .int p1), (2, .int p2), (3, .int p3), (4, .int j11_4), (5, .int j11_5)] → F = dv_k f_X12_carpetBehind_11b (f_X12_carpetBehind_84 (dv G Γ H0) ((a0 : Int)) (p1.toInt) (p2.toInt) (p3.toInt) (j11_4.toInt) (j11_5.toInt)) → W p l e ({ frames := 3, cells := 0, slots := 0, locals := 69 } : Room) s m ([.ref a0, .int p1, .int p2, .int p3] : List Value).toArray below meth c H0 locs 0 0 (MQ below (th_Q (fun (v : Option Value) (H1 : Heap) => ∃ r : Int32, v = some (.int r) ∧ (-1) ≤ r.toInt ∧ r.toInt ≤ 8 ∧ (f_X12_carpetBehind (dv G Γ H0) (a0 : Int) p1.toInt p2.toInt p3.toInt = (r.toInt, ())) ∧ H0 = H1) G) ([.ref a0, .int p1, .int p2, .int p3] : List Value).toArray s 0 0 (fun q => G.1.2.2 ≤ q)) (F0 m 84 ls []) := by
          intro locs ls hB hl hF
          replace hF := hF.trans (congrArg (dv_k f_X12_carpetBehind_11b) (f_X12_carpetBehind_84.eq_1 (dv G Γ H0) ((a0 : Int)) (p1.toInt) (p2.toInt) (p3.toInt) (j11_4.toInt) (j11_5.toInt)))
          refine lv_iconst (v := 0) hx hb gX12_carpetBehind_6.2.2.1 (by decide) ?_
          exact jn85 locs ls 0 hB (lv_sub hl [0, 1, 2, 3, 4, 5] rfl) (by rw [tk_0]; exact hF) (by decide) (by decide)
        refine tr_if_eq (tgt := 84) hx hb gX12_carpetBehind_4.2.1 (by decide) (Eq.refl _) (fun c54 => ?_) (fun c54 => ?_)
        · replace hF := hF.trans (congrArg (dv_k f_X12_carpetBehind_11b) (if_pos c54))
          exact jn84 locs ls hB (lv_sub hl [1, 2, 3, 4, 5, 6] rfl) hF
        · replace hF := hF.trans (congrArg (dv_k f_X12_carpetBehind_11b) (if_neg c54))
          refine lv_iload_n hx hb gX12_carpetBehind_4.2.2.1 rfl (lv_at hl 4 rfl) ?_
          refine lv_aload_n hx hb gX12_carpetBehind_4.2.2.2.1 rfl (lv_at hl 1 rfl) ?_
          refine th_getK hC cf_X12 hB.1 h0 ro_46 rfl (j := 36) (by decide) mb7 kf_X12_84 gX12_carpetBehind_4.2.2.2.2.1 ?_
          refine lv_iload hx hb gX12_carpetBehind_4.2.2.2.2.2.1 (lv_at hl 6 rfl) ?_
          refine th_ialdF hC hB.1 hb7 ro_65 rfl (Eq.refl _) (by omega) (by omega) rfl gX12_carpetBehind_4.2.2.2.2.2.2.1 (fun x15 mx15 lx15 ux15 => ?_)
          replace hF := hF.trans (congrArg (dv_k f_X12_carpetBehind_11b) (dv_bn (dv_aldI hB.1 hU hb7 ow_65 (z := j11_5.toInt) mx15 (by omega))))
          have qx15 : x15.toInt = x8.toInt := by rw [show x15 = x8 from Value.int.inj (mx15.symm.trans mx8)]
          refine lv_bipush (v := 12) hx hb gX12_carpetBehind_4.2.2.2.2.2.2.2 (by decide) ?_
          refine tr_idiv hx hb gX12_carpetBehind_5.1 (Eq.refl _) tk_12 (by omega) (by omega) (fun x16 ex16 => ?_)
          replace hF := hF.trans (congrArg (dv_k f_X12_carpetBehind_11b) (dv_bn (ex16.symm)))
          refine lv_isub hx hb gX12_carpetBehind_5.2.1 ?_
          refine lv_topi (fun x17 ex17 => ?_)
          have lx17 := ti_lo x17; have ux17 := ti_hi x17
          replace hF := hF.trans (congrArg (dv_k f_X12_carpetBehind_11b) (dv_bn (dv_sub_e (Eq.refl _) (Eq.refl _) ex17)))
          refine lv_iconst (v := 0) hx hb gX12_carpetBehind_5.2.2.1 (by decide) ?_
          refine lv_iload hx hb gX12_carpetBehind_5.2.2.2.1 (lv_at hl 0 rfl) ?_
          refine lv_iconst (v := 1) hx hb gX12_carpetBehind_5.2.2.2.2.1 (by decide) ?_
          refine tr_isub hx hb gX12_carpetBehind_5.2.2.2.2.2.1 (Eq.refl _) tk_1 (by omega) (by omega) (fun x18 ex18 => ?_)
          replace hF := hF.trans (congrArg (dv_k f_X12_carpetBehind_11b) (dv_bn (ex18.symm)))
          refine th_call (th_runS (As := [.int x17, .int 0, .int x18]) (rest := []) hC mf_X12_lies km_X12_18 st_X12_lies (c_X12_lies l G Γ H0 hB.1 hU x17 0 x18) rfl rfl ⟨Nat.le_of_ble_eq_true rfl, Nat.le_of_ble_eq_true rfl⟩ rfl hl.1 rfl (Nat.le_of_ble_eq_true rfl) gX12_carpetBehind_5.2.2.2.2.2.2.1 ⟨Nat.le_refl _, Nat.le_refl _⟩) hB.2.1 (fun v74 H74 locs hp hz hS => ?_)
          obtain ⟨x19, rfl, lx19, ux19, q74_0, q74_1, q74_2, rfl⟩ := hp
          have hB := th_B_s hB hS
          have w74_1 := tk_0
          have zf74 := q74_2
          rw [tk_0] at zf74
          replace hF := hF.trans (congrArg (dv_k f_X12_carpetBehind_11b) (dv_bn2 (zf74)))
          refine W.eq (g2 := F0 m 77 ls [.int x19]) rfl ?_
          refine tr_if_eq (tgt := 84) hx hb gX12_carpetBehind_5.2.2.2.2.2.2.2 (by decide) (Eq.refl _) (fun c77 => ?_) (fun c77 => ?_)
          · replace hF := hF.trans (congrArg (dv_k f_X12_carpetBehind_11b) (if_pos c77))
            exact jn84 locs ls hB (lv_sub hl [1, 2, 3, 4, 5, 6] rfl) hF
          · replace hF := hF.trans (congrArg (dv_k f_X12_carpetBehind_11b) (if_neg c77))
            refine lv_iconst (v := 1) hx hb gX12_carpetBehind_6.1 (by decide) ?_
            refine lv_goto (tgt := 85) hx hb gX12_carpetBehind_6.2.1 (by decide) ?_
            exact jn85 locs ls 1 hB (lv_sub hl [1, 2, 3, 4, 5, 6] rfl) (by rw [tk_1]; exact hF) (by decide) (by decide)
  exact lp11 ((2147483648 : Int) - (0)).toNat locs ls x1 0 hB (lv_sub hl [2, 3, 4, 5, 1, 0] rfl) (by rw [tk_0]; exact hF) (by omega) (by omega) (by decide) (by decide) (by have w0 := tk_0; omega)

set_option maxHeartbeats 4000000 in
set_option maxRecDepth 100000 in
theorem c_X12_isSeenSo (l : Launch) (G : th_G) (Γ : th_Ga) (H0 : Heap) (hI : th_I G Γ H0) (hU : dv_U Γ) (a0 : Nat) (h0 : Γ a0 = (46, 0)) (p1 : Int32) (f1 : 0 ≤ p1.toInt) (g1 : p1.toInt ≤ 9) : Met l yX12_isSeenSo (.code yX12_isSeenSo cX12_isSeenSo 5 (some FieldType.boolean) :: th_tb) ({ frames := 4, cells := 0, slots := 0, locals := 96 } : Room) (th_P [.ref a0, .int p1] G H0) (th_Q (fun (v : Option Value) (H1 : Heap) => ∃ r : Int32, v = some (.int r) ∧ 0 ≤ r.toInt ∧ r.toInt ≤ 1 ∧ (f_X12_isSeenSo (dv G Γ H0) (a0 : Int) p1.toInt = (r.toInt, ())) ∧ H0 = H1) G) 0 0 (fun q => G.1.2.2 ≤ q) := by
  refine th_met RX12 (by decide) rfl (Nat.le_of_ble_eq_true rfl) ?_
  intro p e s m below meth c hC hH hr hlocks hnm ls hl
  have hx := hC.1
  have hb := hC.2.1
  have hB : th_B G Γ Γ [] H0 H0 [] := ⟨hI, va_S.rf, th_F_rf⟩
  have hl : lv_has ls 5 [(0, .ref a0), (1, .int p1)] := hl
  have lp1 := ti_lo p1; have up1 := ti_hi p1
  obtain ⟨F, hF0⟩ : ∃ F, F = f_X12_isSeenSo (dv G Γ H0) ((a0 : Int)) (p1.toInt) := ⟨_, rfl⟩
  have hF := hF0.trans (f_X12_isSeenSo.eq_1 (dv G Γ H0) ((a0 : Int)) (p1.toInt))
  refine lv_iconst (v := 1) hx hb gX12_isSeenSo_0.1 (by decide) ?_
  refine lv_istore_n (lv' := [(2, .int 1), (0, .ref a0), (1, .int p1)]) hx hb gX12_isSeenSo_0.2.1 rfl hl (by decide) rfl (fun ls hl => ?_)
  refine lv_iconst (v := 0) hx hb gX12_isSeenSo_0.2.2.1 (by decide) ?_
  refine lv_istore_n (lv' := [(3, .int 0), (2, .int 1), (0, .ref a0), (1, .int p1)]) hx hb gX12_isSeenSo_0.2.2.2.1 rfl hl (by decide) rfl (fun ls hl => ?_)
  have lp4 : ∀ (n4 : Nat) (locs : List Loc) (ls : Array Slot) (j4_2 : Int32) (j4_3 : Int32), th_B G Γ Γ [] H0 H0 locs → lv_has ls 5 [(0, .ref a0), (1, .int p1), (2, .int j4_2), (3, .int j4_3)] → F = dv_lp f_X12_isSeenSo_4b (dv G Γ H0, (a0 : Int), p1.toInt, j4_2.toInt, j4_3.toInt) → 0 ≤ j4_2.toInt → j4_2.toInt ≤ 1 → 0 ≤ j4_3.toInt → j4_3.toInt ≤ 6 → (2147483648 : Int) - j4_3.toInt ≤ (n4 : Int) → W p l e ({ frames := 4, cells := 0, slots := 0, locals := 96 } : Room) s m ([.ref a0, .int p1] : List Value).toArray below meth c H0 locs 0 0 (MQ below (th_Q (fun (v : Option Value) (H1 : Heap) => ∃ r : Int32, v = some (.int r) ∧ 0 ≤ r.toInt ∧ r.toInt ≤ 1 ∧ (f_X12_isSeenSo (dv G Γ H0) (a0 : Int) p1.toInt = (r.toInt, ())) ∧ H0 = H1) G) ([.ref a0, .int p1] : List Value).toArray s 0 0 (fun q => G.1.2.2 ≤ q)) (F0 m 4 ls []) := by
    intro n4
    induction n4 with
    | zero => intro locs ls j4_2 j4_3 hB hl hF g4_0 g4_1 g4_2 g4_3 hm4; exact absurd hm4 (by have := ti_hi j4_3; omega)
    | succ n4 ih4 =>
      intro locs ls j4_2 j4_3 hB hl hF g4_0 g4_1 g4_2 g4_3 hm4
      have lj4_2 := ti_lo j4_2; have uj4_2 := ti_hi j4_2
      have lj4_3 := ti_lo j4_3; have uj4_3 := ti_hi j4_3
      have hm4 : (2147483648 : Int) - j4_3.toInt ≤ (n4 : Int) + 1 := by omega
      replace hF := hF.trans (dv_lp_eq)
      replace hF := hF.trans (congrArg (dv_k f_X12_isSeenSo_4b) (f_X12_isSeenSo_4c.eq_1 (dv G Γ H0) ((a0 : Int)) (p1.toInt) (j4_2.toInt) (j4_3.toInt)))
      refine lv_iload_n hx hb gX12_isSeenSo_0.2.2.2.2.1 rfl (lv_at hl 3 rfl) ?_
      refine lv_aload_n hx hb gX12_isSeenSo_0.2.2.2.2.2.1 rfl (lv_at hl 0 rfl) ?_
      refine th_getO (j := 2) (r2 := 48) hC cf_X12 hB.1 h0 ro_46 rfl rfl kf_X12_28 gX12_isSeenSo_0.2.2.2.2.2.2.1 (fun b1 mb1 hb1 => ?_)
      refine lv_bipush (v := 70) hx hb gX12_isSeenSo_0.2.2.2.2.2.2.2 (by decide) ?_
      refine th_ialdF hC hB.1 hb1 ro_48 rfl tk_70 (by omega) (by omega) (ek_seen (by omega) (by omega)) gX12_isSeenSo_1.1 (fun x2 mx2 lx2 ux2 => ?_)
      replace hF := hF.trans (congrArg (dv_k f_X12_isSeenSo_4b) (dv_bn (dv_aldI hB.1 hU hb1 ow_48 (z := 70) mx2 (by omega))))
      refine tr_icmp_ge (tgt := 94) hx hb gX12_isSeenSo_1.2.1 (by decide) (Eq.refl _) (Eq.refl _) (fun c12 => ?_) (fun c12 => ?_)
      · replace hF := hF.trans (congrArg (dv_k f_X12_isSeenSo_4b) (if_pos c12))
        refine lv_iload_n hx hb gX12_isSeenSo_7.2.2.2.2.1 rfl (lv_at hl 2 rfl) ?_
        replace hF := hF.trans (dv_kr)
        exact th_iret hC hH hr hlocks (th_nb (by omega) (by omega)) hB.2.1 ⟨_, rfl, by omega, by omega, (hF0.symm.trans hF), rfl⟩ gX12_isSeenSo_7.2.2.2.2.2
      · replace hF := hF.trans (congrArg (dv_k f_X12_isSeenSo_4b) (if_neg (Int.not_le.mpr c12)))
        refine lv_iload_n hx hb gX12_isSeenSo_1.2.2.1 rfl (lv_at hl 2 rfl) ?_
        refine tr_if_eq (tgt := 94) hx hb gX12_isSeenSo_1.2.2.2.1 (by decide) (Eq.refl _) (fun c16 => ?_) (fun c16 => ?_)
        · replace hF := hF.trans (congrArg (dv_k f_X12_isSeenSo_4b) (if_pos c16))
          refine lv_iload_n hx hb gX12_isSeenSo_7.2.2.2.2.1 rfl (lv_at hl 2 rfl) ?_
          replace hF := hF.trans (dv_kr)
          exact th_iret hC hH hr hlocks (th_nb (by omega) (by omega)) hB.2.1 ⟨_, rfl, by omega, by omega, (hF0.symm.trans hF), rfl⟩ gX12_isSeenSo_7.2.2.2.2.2
        · replace hF := hF.trans (congrArg (dv_k f_X12_isSeenSo_4b) (if_neg c16))
          refine lv_aload_n hx hb gX12_isSeenSo_1.2.2.2.2.1 rfl (lv_at hl 0 rfl) ?_
          refine lv_iload_n hx hb gX12_isSeenSo_1.2.2.2.2.2.1 rfl (lv_at hl 1 rfl) ?_
          refine lv_aload_n hx hb gX12_isSeenSo_1.2.2.2.2.2.2.1 rfl (lv_at hl 0 rfl) ?_
          refine th_getK hC cf_X12 hB.1 h0 ro_46 rfl (j := 2) (by decide) mb1 kf_X12_28 gX12_isSeenSo_1.2.2.2.2.2.2.2 ?_
          refine lv_bipush (v := 47) hx hb gX12_isSeenSo_2.1 (by decide) ?_
          refine lv_iconst (v := 3) hx hb gX12_isSeenSo_2.2.1 (by decide) ?_
          refine lv_iload_n hx hb gX12_isSeenSo_2.2.2.1 rfl (lv_at hl 3 rfl) ?_
          refine tr_imul hx hb gX12_isSeenSo_2.2.2.2.1 tk_3 (Eq.refl _) (by omega) (by omega) (fun x3 ex3 => ?_)
          replace hF := hF.trans (congrArg (dv_k f_X12_isSeenSo_4b) (dv_bn (ex3.symm)))
          refine tr_iadd hx hb gX12_isSeenSo_2.2.2.2.2.1 tk_47 (Eq.refl _) (by omega) (by omega) (fun x4 ex4 => ?_)
          replace hF := hF.trans (congrArg (dv_k f_X12_isSeenSo_4b) (dv_bn (ex4.symm)))
          refine th_ialdF hC hB.1 hb1 ro_48 rfl (Eq.refl _) (by omega) (by omega) (ek_b (by omega) (by omega)) gX12_isSeenSo_2.2.2.2.2.2.1 (fun x5 mx5 lx5 ux5 => ?_)
          replace hF := hF.trans (congrArg (dv_k f_X12_isSeenSo_4b) (dv_bn (dv_aldI hB.1 hU hb1 ow_48 (z := x4.toInt) mx5 (by omega))))
          refine lv_aload_n hx hb gX12_isSeenSo_2.2.2.2.2.2.2.1 rfl (lv_at hl 0 rfl) ?_
          refine th_getK hC cf_X12 hB.1 h0 ro_46 rfl (j := 2) (by decide) mb1 kf_X12_28 gX12_isSeenSo_2.2.2.2.2.2.2.2 ?_
          refine lv_bipush (v := 47) hx hb gX12_isSeenSo_3.1 (by decide) ?_
          refine lv_iconst (v := 3) hx hb gX12_isSeenSo_3.2.1 (by decide) ?_
          refine lv_iload_n hx hb gX12_isSeenSo_3.2.2.1 rfl (lv_at hl 3 rfl) ?_
          refine tr_imul hx hb gX12_isSeenSo_3.2.2.2.1 tk_3 (Eq.refl _) (by omega) (by omega) (fun x6 ex6 => ?_)
          replace hF := hF.trans (congrArg (dv_k f_X12_isSeenSo_4b) (dv_bn (ex6.symm)))
          refine tr_iadd hx hb gX12_isSeenSo_3.2.2.2.2.1 tk_47 (Eq.refl _) (by omega) (by omega) (fun x7 ex7 => ?_)
          replace hF := hF.trans (congrArg (dv_k f_X12_isSeenSo_4b) (dv_bn (ex7.symm)))
          refine lv_iconst (v := 1) hx hb gX12_isSeenSo_3.2.2.2.2.2.1 (by decide) ?_
          refine tr_iadd hx hb gX12_isSeenSo_3.2.2.2.2.2.2.1 (Eq.refl _) tk_1 (by omega) (by omega) (fun x8 ex8 => ?_)
          replace hF := hF.trans (congrArg (dv_k f_X12_isSeenSo_4b) (dv_bn (ex8.symm)))
          refine th_ialdF hC hB.1 hb1 ro_48 rfl (Eq.refl _) (by omega) (by omega) (ek_b (by omega) (by omega)) gX12_isSeenSo_3.2.2.2.2.2.2.2 (fun x9 mx9 lx9 ux9 => ?_)
          replace hF := hF.trans (congrArg (dv_k f_X12_isSeenSo_4b) (dv_bn (dv_aldI hB.1 hU hb1 ow_48 (z := x8.toInt) mx9 (by omega))))
          refine th_call (th_runV (As := [.int p1, .int x5, .int x9]) (rest := []) hC mf_X12_carpetBehind km_X12_397 im_X12_carpetBehind se_X12_carpetBehind (c_X12_carpetBehind l G Γ H0 hB.1 hU a0 h0 p1 (by omega) (by omega) x5 x9) rfl rfl ⟨Nat.le_of_ble_eq_true rfl, Nat.le_of_ble_eq_true rfl⟩ hB.1 h0 ro_46 rfl rfl hl.1 rfl (Nat.le_of_ble_eq_true rfl) gX12_isSeenSo_4.1 ⟨Nat.le_refl _, Nat.le_refl _⟩) hB.2.1 (fun v45 H45 locs hp hz hS => ?_)
          obtain ⟨x10, rfl, lx10, ux10, q45_0, rfl⟩ := hp
          have hB := th_B_s hB hS
          replace hF := hF.trans (congrArg (dv_k f_X12_isSeenSo_4b) (dv_bn2 (q45_0)))
          refine W.eq (g2 := F0 m 48 ls [.int x10]) rfl ?_
          refine lv_istore (lv' := [(4, .int x10), (0, .ref a0), (1, .int p1), (2, .int j4_2), (3, .int j4_3)]) hx hb gX12_isSeenSo_4.2.1 hl (by decide) rfl (fun ls hl => ?_)
          refine lv_iload hx hb gX12_isSeenSo_4.2.2.1 (lv_at hl 0 rfl) ?_
          refine lv_iconst (v := (-1)) hx hb gX12_isSeenSo_4.2.2.2.1 (by decide) ?_
          have jn87 : ∀ (locs : List Loc) (ls : Array Slot) (s87_0 : Int32), th_B G Γ Γ [] H0 H0 locs → lv_has ls 5 [(0, .ref a0), (1, .int p1), (3, .int j4_3)] → F = dv_k f_X12_isSeenSo_4b (f_X12_isSeenSo_87 (dv G Γ H0) ((a0 : Int)) (p1.toInt) (j4_3.toInt) (s87_0.toInt)) → 0 ≤ s87_0.toInt → s87_0.toInt ≤ 1 → W p l e ({ frames := 4, cells := 0, slots := 0, locals := 96 } : Room) s m ([.ref a0, .int p1] : List Value).toArray below meth c H0 locs 0 0 (MQ below (th_Q (fun (v : Option Value) (H1 : Heap) => ∃ r : Int32, v = some (.int r) ∧ 0 ≤ r.toInt ∧ r.toInt ≤ 1 ∧ (f_X12_isSeenSo (dv G Γ H0) (a0 : Int) p1.toInt = (r.toInt, ())) ∧ H0 = H1) G) ([.ref a0, .int p1] : List Value).toArray s 0 0 (fun q => G.1.2.2 ≤ q)) (F0 m 87 ls [.int s87_0]) := by
            intro locs ls s87_0 hB hl hF g87_0 g87_1
            have ls87_0 := ti_lo s87_0; have us87_0 := ti_hi s87_0
            replace hF := hF.trans (congrArg (dv_k f_X12_isSeenSo_4b) (f_X12_isSeenSo_87.eq_1 (dv G Γ H0) ((a0 : Int)) (p1.toInt) (j4_3.toInt) (s87_0.toInt)))
            refine lv_istore_n (lv' := [(2, .int s87_0), (0, .ref a0), (1, .int p1), (3, .int j4_3)]) hx hb gX12_isSeenSo_7.2.1 rfl hl (by decide) rfl (fun ls hl => ?_)
            refine tr_iinc (fun x11 => [(3, .int x11), (2, .int s87_0), (0, .ref a0), (1, .int p1)]) hx hb gX12_isSeenSo_7.2.2.1 hl (k := 3) rfl (Eq.refl _) tk_1 (by omega) (by omega) (by decide) (fun _ => rfl) (fun x11 ls ex11 hl => ?_)
            replace hF := hF.trans (congrArg (dv_k f_X12_isSeenSo_4b) (dv_bn (ex11.symm)))
            refine lv_goto (tgt := 4) hx hb gX12_isSeenSo_7.2.2.2.1 (by decide) ?_
            replace hF := hF.trans (dv_kl)
            exact ih4 locs ls s87_0 x11 hB (lv_sub hl [2, 3, 1, 0] rfl) hF (by omega) (by omega) (by omega) (by omega) (by omega)
          have jn86 : ∀ (locs : List Loc) (ls : Array Slot) , th_B G Γ Γ [] H0 H0 locs → lv_has ls 5 [(0, .ref a0), (1, .int p1), (3, .int j4_3)] → F = dv_k f_X12_isSeenSo_4b (f_X12_isSeenSo_86 (dv G Γ H0) ((a0 : Int)) (p1.toInt) (j4_3.toInt)) → W p l e ({ frames := 4, cells := 0, slots := 0, locals := 96 } : Room) s m ([.ref a0, .int p1] : List Value).toArray below meth c H0 locs 0 0 (MQ below (th_Q (fun (v : Option Value) (H1 : Heap) => ∃ r : Int32, v = some (.int r) ∧ 0 ≤ r.toInt ∧ r.toInt ≤ 1 ∧ (f_X12_isSeenSo (dv G Γ H0) (a0 : Int) p1.toInt = (r.toInt, ())) ∧ H0 = H1) G) ([.ref a0, .int p1] : List Value).toArray s 0 0 (fun q => G.1.2.2 ≤ q)) (F0 m 86 ls []) := by
            intro locs ls hB hl hF
            replace hF := hF.trans (congrArg (dv_k f_X12_isSeenSo_4b) (f_X12_isSeenSo_86.eq_1 (dv G Γ H0) ((a0 : Int)) (p1.toInt) (j4_3.toInt)))
            refine lv_iconst (v := 0) hx hb gX12_isSeenSo_7.1 (by decide) ?_
            exact jn87 locs ls 0 hB (lv_sub hl [0, 1, 2] rfl) (by rw [tk_0]; exact hF) (by decide) (by decide)
          refine tr_icmp_eq (tgt := 86) hx hb gX12_isSeenSo_4.2.2.2.2.1 (by decide) (Eq.refl _) tk_m1 (fun c53 => ?_) (fun c53 => ?_)
          · replace hF := hF.trans (congrArg (dv_k f_X12_isSeenSo_4b) (if_pos c53))
            exact jn86 locs ls hB (lv_sub hl [1, 2, 4] rfl) hF
          · replace hF := hF.trans (congrArg (dv_k f_X12_isSeenSo_4b) (if_neg c53))
            refine lv_aload_n hx hb gX12_isSeenSo_4.2.2.2.2.2.1 rfl (lv_at hl 1 rfl) ?_
            refine th_getK hC cf_X12 hB.1 h0 ro_46 rfl (j := 2) (by decide) mb1 kf_X12_28 gX12_isSeenSo_4.2.2.2.2.2.2.1 ?_
            refine lv_bipush (v := 29) hx hb gX12_isSeenSo_4.2.2.2.2.2.2.2 (by decide) ?_
            refine lv_iload hx hb gX12_isSeenSo_5.1 (lv_at hl 0 rfl) ?_
            refine tr_iadd hx hb gX12_isSeenSo_5.2.1 tk_29 (Eq.refl _) (by omega) (by omega) (fun x12 ex12 => ?_)
            replace hF := hF.trans (congrArg (dv_k f_X12_isSeenSo_4b) (dv_bn (ex12.symm)))
            refine th_ialdF hC hB.1 hb1 ro_48 rfl (Eq.refl _) (by omega) (by omega) (ek_side (by omega) (by omega)) gX12_isSeenSo_5.2.2.1 (fun x13 mx13 lx13 ux13 => ?_)
            replace hF := hF.trans (congrArg (dv_k f_X12_isSeenSo_4b) (dv_bn (dv_aldI hB.1 hU hb1 ow_48 (z := x12.toInt) mx13 (by omega))))
            refine lv_aload_n hx hb gX12_isSeenSo_5.2.2.2.1 rfl (lv_at hl 1 rfl) ?_
            refine th_getK hC cf_X12 hB.1 h0 ro_46 rfl (j := 2) (by decide) mb1 kf_X12_28 gX12_isSeenSo_5.2.2.2.2.1 ?_
            refine lv_bipush (v := 47) hx hb gX12_isSeenSo_5.2.2.2.2.2.1 (by decide) ?_
            refine lv_iconst (v := 3) hx hb gX12_isSeenSo_5.2.2.2.2.2.2.1 (by decide) ?_
            refine lv_iload_n hx hb gX12_isSeenSo_5.2.2.2.2.2.2.2 rfl (lv_at hl 4 rfl) ?_
            refine tr_imul hx hb gX12_isSeenSo_6.1 tk_3 (Eq.refl _) (by omega) (by omega) (fun x14 ex14 => ?_)
            replace hF := hF.trans (congrArg (dv_k f_X12_isSeenSo_4b) (dv_bn (ex14.symm)))
            refine tr_iadd hx hb gX12_isSeenSo_6.2.1 tk_47 (Eq.refl _) (by omega) (by omega) (fun x15 ex15 => ?_)
            replace hF := hF.trans (congrArg (dv_k f_X12_isSeenSo_4b) (dv_bn (ex15.symm)))
            refine lv_iconst (v := 2) hx hb gX12_isSeenSo_6.2.2.1 (by decide) ?_
            refine tr_iadd hx hb gX12_isSeenSo_6.2.2.2.1 (Eq.refl _) tk_2 (by omega) (by omega) (fun x16 ex16 => ?_)
            replace hF := hF.trans (congrArg (dv_k f_X12_isSeenSo_4b) (dv_bn (ex16.symm)))
            refine th_ialdF hC hB.1 hb1 ro_48 rfl (Eq.refl _) (by omega) (by omega) (ek_b (by omega) (by omega)) gX12_isSeenSo_6.2.2.2.2.1 (fun x17 mx17 lx17 ux17 => ?_)
            replace hF := hF.trans (congrArg (dv_k f_X12_isSeenSo_4b) (dv_bn (dv_aldI hB.1 hU hb1 ow_48 (z := x16.toInt) mx17 (by omega))))
            refine tr_icmp_ne (tgt := 86) hx hb gX12_isSeenSo_6.2.2.2.2.2.1 (by decide) (Eq.refl _) (Eq.refl _) (fun c79 => ?_) (fun c79 => ?_)
            · replace hF := hF.trans (congrArg (dv_k f_X12_isSeenSo_4b) (if_pos c79))
              exact jn86 locs ls hB (lv_sub hl [1, 2, 4] rfl) hF
            · replace hF := hF.trans (congrArg (dv_k f_X12_isSeenSo_4b) (if_neg (not_not_intro c79)))
              refine lv_iconst (v := 1) hx hb gX12_isSeenSo_6.2.2.2.2.2.2.1 (by decide) ?_
              refine lv_goto (tgt := 87) hx hb gX12_isSeenSo_6.2.2.2.2.2.2.2 (by decide) ?_
              exact jn87 locs ls 1 hB (lv_sub hl [1, 2, 4] rfl) (by rw [tk_1]; exact hF) (by decide) (by decide)
  exact lp4 ((2147483648 : Int) - (0)).toNat [] ls 1 0 hB (lv_sub hl [2, 3, 1, 0] rfl) (by rw [tk_1, tk_0]; exact hF) (by decide) (by decide) (by decide) (by decide) (by have w0 := tk_0; have w1 := tk_1; omega)

set_option maxHeartbeats 4000000 in
set_option maxRecDepth 100000 in
theorem c_X12_count (l : Launch) (G : th_G) (Γ : th_Ga) (H0 : Heap) (hI : th_I G Γ H0) (hU : dv_U Γ) (a0 : Nat) (h0 : Γ a0 = (46, 0)) (p1 : Int32) : Met l yX12_count (.code yX12_count cX12_count 2 (some FieldType.int) :: th_tb) ({ frames := 2, cells := 0, slots := 0, locals := 43 } : Room) (th_P [.ref a0, .int p1] G H0) (th_Q (fun (v : Option Value) (H1 : Heap) => ∃ r : Int32, v = some (.int r) ∧ (f_X12_count (dv G Γ H0) (a0 : Int) p1.toInt = (r.toInt, ())) ∧ H0 = H1) G) 0 0 (fun q => G.1.2.2 ≤ q) := by
  refine th_met RX12 (by decide) rfl (Nat.le_of_ble_eq_true rfl) ?_
  intro p e s m below meth c hC hH hr hlocks hnm ls hl
  have hx := hC.1
  have hb := hC.2.1
  have hB : th_B G Γ Γ [] H0 H0 [] := ⟨hI, va_S.rf, th_F_rf⟩
  have hl : lv_has ls 2 [(0, .ref a0), (1, .int p1)] := hl
  have lp1 := ti_lo p1; have up1 := ti_hi p1
  obtain ⟨F, hF0⟩ : ∃ F, F = f_X12_count (dv G Γ H0) ((a0 : Int)) (p1.toInt) := ⟨_, rfl⟩
  have hF := hF0.trans (f_X12_count.eq_1 (dv G Γ H0) ((a0 : Int)) (p1.toInt))
  refine lv_iload_n hx hb gX12_count_0.1 rfl (lv_at hl 1 rfl) ?_
  by_cases k1_0 : p1.toInt = 0
  · replace hF := hF.trans (if_pos k1_0)
    refine lv_tableIn (off := 91) (tgt := 92) hx hb gX12_count_0.2.1 (by omega) (by omega) (by rw [show p1.toInt = 0 from k1_0]; decide) (by decide) ?_
    refine lv_aload_n hx hb gX12_count_0.2.2.1 rfl (lv_at hl 0 rfl) ?_
    refine th_call (th_runV (As := []) (rest := []) hC mf_X12_many km_X12_115 im_X12_many se_X12_many (c_X12_many l G Γ H0 hB.1 hU a0 h0) rfl rfl ⟨Nat.le_of_ble_eq_true rfl, Nat.le_of_ble_eq_true rfl⟩ hB.1 h0 ro_46 rfl rfl hl.1 rfl (Nat.le_of_ble_eq_true rfl) gX12_count_0.2.2.2.1 ⟨Nat.le_refl _, Nat.le_refl _⟩) hB.2.1 (fun v93 H93 locs hp hz hS => ?_)
    obtain ⟨x1, rfl, lx1, ux1, q93_0, q93_1, rfl⟩ := hp
    have hB := th_B_s hB hS
    replace hF := hF.trans (dv_bn2 (q93_1))
    refine W.eq (g2 := F0 m 96 ls [.int x1]) rfl ?_
    exact th_iret hC hH hr hlocks rfl hB.2.1 ⟨_, rfl, (hF0.symm.trans hF), rfl⟩ gX12_count_0.2.2.2.2.1
  replace hF := hF.trans (if_neg k1_0)
  by_cases k1_1 : p1.toInt = 1
  · replace hF := hF.trans (if_pos k1_1)
    refine lv_tableIn (off := 96) (tgt := 97) hx hb gX12_count_0.2.1 (by omega) (by omega) (by rw [show p1.toInt = 1 from k1_1]; decide) (by decide) ?_
    refine lv_aload_n hx hb gX12_count_0.2.2.2.2.2.1 rfl (lv_at hl 0 rfl) ?_
    refine th_call (th_runV (As := []) (rest := []) hC mf_X12_laidMany km_X12_143 im_X12_laidMany se_X12_laidMany (c_X12_laidMany l G Γ H0 hB.1 hU a0 h0) rfl rfl ⟨Nat.le_of_ble_eq_true rfl, Nat.le_of_ble_eq_true rfl⟩ hB.1 h0 ro_46 rfl rfl hl.1 rfl (Nat.le_of_ble_eq_true rfl) gX12_count_0.2.2.2.2.2.2.1 ⟨Nat.le_refl _, Nat.le_refl _⟩) hB.2.1 (fun v98 H98 locs hp hz hS => ?_)
    obtain ⟨x2, rfl, lx2, ux2, q98_0, q98_1, rfl⟩ := hp
    have hB := th_B_s hB hS
    replace hF := hF.trans (dv_bn2 (q98_1))
    refine W.eq (g2 := F0 m 101 ls [.int x2]) rfl ?_
    exact th_iret hC hH hr hlocks rfl hB.2.1 ⟨_, rfl, (hF0.symm.trans hF), rfl⟩ gX12_count_0.2.2.2.2.2.2.2
  replace hF := hF.trans (if_neg k1_1)
  by_cases k1_2 : p1.toInt = 2
  · replace hF := hF.trans (if_pos k1_2)
    refine lv_tableIn (off := 101) (tgt := 102) hx hb gX12_count_0.2.1 (by omega) (by omega) (by rw [show p1.toInt = 2 from k1_2]; decide) (by decide) ?_
    refine lv_aload_n hx hb gX12_count_1.1 rfl (lv_at hl 0 rfl) ?_
    refine th_call (th_runV (As := []) (rest := []) hC mf_X12_ragMany km_X12_526 im_X12_ragMany se_X12_ragMany (c_X12_ragMany l G Γ H0 hB.1 hU a0 h0) rfl rfl ⟨Nat.le_of_ble_eq_true rfl, Nat.le_of_ble_eq_true rfl⟩ hB.1 h0 ro_46 rfl rfl hl.1 rfl (Nat.le_of_ble_eq_true rfl) gX12_count_1.2.1 ⟨Nat.le_refl _, Nat.le_refl _⟩) hB.2.1 (fun v103 H103 locs hp hz hS => ?_)
    obtain ⟨x3, rfl, q103_0, rfl⟩ := hp
    have hB := th_B_s hB hS
    replace hF := hF.trans (dv_bn2 (q103_0))
    refine W.eq (g2 := F0 m 106 ls [.int x3]) rfl ?_
    exact th_iret hC hH hr hlocks rfl hB.2.1 ⟨_, rfl, (hF0.symm.trans hF), rfl⟩ gX12_count_1.2.2.1
  replace hF := hF.trans (if_neg k1_2)
  by_cases k1_3 : p1.toInt = 3
  · replace hF := hF.trans (if_pos k1_3)
    refine lv_tableIn (off := 106) (tgt := 107) hx hb gX12_count_0.2.1 (by omega) (by omega) (by rw [show p1.toInt = 3 from k1_3]; decide) (by decide) ?_
    refine lv_aload_n hx hb gX12_count_1.2.2.2.1 rfl (lv_at hl 0 rfl) ?_
    refine th_getO (j := 2) (r2 := 48) hC cf_X12 hB.1 h0 ro_46 rfl rfl kf_X12_28 gX12_count_1.2.2.2.2.1 (fun b4 mb4 hb4 => ?_)
    refine lv_bipush (v := 27) hx hb gX12_count_1.2.2.2.2.2.1 (by decide) ?_
    refine th_ialdF hC hB.1 hb4 ro_48 rfl tk_27 (by omega) (by omega) (ek_a (by omega) (by omega)) gX12_count_1.2.2.2.2.2.2.1 (fun x5 mx5 lx5 ux5 => ?_)
    replace hF := hF.trans (dv_bn (dv_aldI hB.1 hU hb4 ow_48 (z := 27) mx5 (by omega)))
    exact th_iret hC hH hr hlocks rfl hB.2.1 ⟨_, rfl, (hF0.symm.trans hF), rfl⟩ gX12_count_1.2.2.2.2.2.2.2
  replace hF := hF.trans (if_neg k1_3)
  by_cases k1_4 : p1.toInt = 4
  · replace hF := hF.trans (if_pos k1_4)
    refine lv_tableIn (off := 114) (tgt := 115) hx hb gX12_count_0.2.1 (by omega) (by omega) (by rw [show p1.toInt = 4 from k1_4]; decide) (by decide) ?_
    refine lv_aload_n hx hb gX12_count_2.1 rfl (lv_at hl 0 rfl) ?_
    refine th_getO (j := 2) (r2 := 48) hC cf_X12 hB.1 h0 ro_46 rfl rfl kf_X12_28 gX12_count_2.2.1 (fun b6 mb6 hb6 => ?_)
    refine lv_bipush (v := 70) hx hb gX12_count_2.2.2.1 (by decide) ?_
    refine th_ialdF hC hB.1 hb6 ro_48 rfl tk_70 (by omega) (by omega) (ek_seen (by omega) (by omega)) gX12_count_2.2.2.2.1 (fun x7 mx7 lx7 ux7 => ?_)
    replace hF := hF.trans (dv_bn (dv_aldI hB.1 hU hb6 ow_48 (z := 70) mx7 (by omega)))
    exact th_iret hC hH hr hlocks rfl hB.2.1 ⟨_, rfl, (hF0.symm.trans hF), rfl⟩ gX12_count_2.2.2.2.2.1
  replace hF := hF.trans (if_neg k1_4)
  by_cases k1_5 : p1.toInt = 5
  · replace hF := hF.trans (if_pos k1_5)
    refine lv_tableIn (off := 122) (tgt := 123) hx hb gX12_count_0.2.1 (by omega) (by omega) (by rw [show p1.toInt = 5 from k1_5]; decide) (by decide) ?_
    refine lv_aload_n hx hb gX12_count_2.2.2.2.2.2.1 rfl (lv_at hl 0 rfl) ?_
    refine th_getO (j := 2) (r2 := 48) hC cf_X12 hB.1 h0 ro_46 rfl rfl kf_X12_28 gX12_count_2.2.2.2.2.2.2.1 (fun b8 mb8 hb8 => ?_)
    refine lv_bipush (v := 71) hx hb gX12_count_2.2.2.2.2.2.2.2 (by decide) ?_
    refine th_ialdF hC hB.1 hb8 ro_48 rfl tk_71 (by omega) (by omega) (ek_told (by omega) (by omega)) gX12_count_3.1 (fun x9 mx9 lx9 ux9 => ?_)
    replace hF := hF.trans (dv_bn (dv_aldI hB.1 hU hb8 ow_48 (z := 71) mx9 (by omega)))
    exact th_iret hC hH hr hlocks rfl hB.2.1 ⟨_, rfl, (hF0.symm.trans hF), rfl⟩ gX12_count_3.2.1
  replace hF := hF.trans (if_neg k1_5)
  by_cases k1_6 : p1.toInt = 6
  · replace hF := hF.trans (if_pos k1_6)
    refine lv_tableIn (off := 130) (tgt := 131) hx hb gX12_count_0.2.1 (by omega) (by omega) (by rw [show p1.toInt = 6 from k1_6]; decide) (by decide) ?_
    refine lv_aload_n hx hb gX12_count_3.2.2.1 rfl (lv_at hl 0 rfl) ?_
    refine th_getI (j := 33) hC cf_X12 hB.1 h0 ro_46 rfl rfl kf_X12_11 gX12_count_3.2.2.2.1 (fun x10 mx10 lx10 ux10 => ?_)
    replace hF := hF.trans (dv_bn (dv_getI h0 ro_46 (j := 33) rfl mx10 (by decide)))
    exact th_iret hC hH hr hlocks rfl hB.2.1 ⟨_, rfl, (hF0.symm.trans hF), rfl⟩ gX12_count_3.2.2.2.2.1
  replace hF := hF.trans (if_neg k1_6)
  by_cases k1_7 : p1.toInt = 7
  · replace hF := hF.trans (if_pos k1_7)
    refine lv_tableIn (off := 135) (tgt := 136) hx hb gX12_count_0.2.1 (by omega) (by omega) (by rw [show p1.toInt = 7 from k1_7]; decide) (by decide) ?_
    refine lv_aload_n hx hb gX12_count_3.2.2.2.2.2.1 rfl (lv_at hl 0 rfl) ?_
    refine th_getI (j := 13) hC cf_X12 hB.1 h0 ro_46 rfl rfl kf_X12_169 gX12_count_3.2.2.2.2.2.2.1 (fun x11 mx11 lx11 ux11 => ?_)
    replace hF := hF.trans (dv_bn (dv_getI h0 ro_46 (j := 13) rfl mx11 (by decide)))
    exact th_iret hC hH hr hlocks rfl hB.2.1 ⟨_, rfl, (hF0.symm.trans hF), rfl⟩ gX12_count_3.2.2.2.2.2.2.2
  replace hF := hF.trans (if_neg k1_7)
  by_cases k1_8 : p1.toInt = 8
  · replace hF := hF.trans (if_pos k1_8)
    refine lv_tableIn (off := 140) (tgt := 141) hx hb gX12_count_0.2.1 (by omega) (by omega) (by rw [show p1.toInt = 8 from k1_8]; decide) (by decide) ?_
    refine lv_aload_n hx hb gX12_count_4.1 rfl (lv_at hl 0 rfl) ?_
    refine th_getO (j := 1) (r2 := 47) hC cf_X12 hB.1 h0 ro_46 rfl rfl kf_X12_7 gX12_count_4.2.1 (fun b12 mb12 hb12 => ?_)
    refine lv_iload_n hx hb gX12_count_4.2.2.1 rfl (lv_at hl 1 rfl) ?_
    refine lv_bipush (v := 7) hx hb gX12_count_4.2.2.2.1 (by decide) ?_
    refine tr_isub hx hb gX12_count_4.2.2.2.2.1 (Eq.refl _) tk_7 (by omega) (by omega) (fun x13 ex13 => ?_)
    replace hF := hF.trans (dv_bn (ex13.symm))
    refine th_ialdF hC hB.1 hb12 ro_47 rfl (Eq.refl _) (by omega) (by omega) rfl gX12_count_4.2.2.2.2.2.1 (fun x14 mx14 lx14 ux14 => ?_)
    replace hF := hF.trans (dv_bn (dv_aldI hB.1 hU hb12 ow_47 (z := x13.toInt) mx14 (by omega)))
    exact th_iret hC hH hr hlocks rfl hB.2.1 ⟨_, rfl, (hF0.symm.trans hF), rfl⟩ gX12_count_4.2.2.2.2.2.2.1
  replace hF := hF.trans (if_neg k1_8)
  by_cases k1_9 : p1.toInt = 9
  · replace hF := hF.trans (if_pos k1_9)
    refine lv_tableIn (off := 140) (tgt := 141) hx hb gX12_count_0.2.1 (by omega) (by omega) (by rw [show p1.toInt = 9 from k1_9]; decide) (by decide) ?_
    refine lv_aload_n hx hb gX12_count_4.1 rfl (lv_at hl 0 rfl) ?_
    refine th_getO (j := 1) (r2 := 47) hC cf_X12 hB.1 h0 ro_46 rfl rfl kf_X12_7 gX12_count_4.2.1 (fun b15 mb15 hb15 => ?_)
    refine lv_iload_n hx hb gX12_count_4.2.2.1 rfl (lv_at hl 1 rfl) ?_
    refine lv_bipush (v := 7) hx hb gX12_count_4.2.2.2.1 (by decide) ?_
    refine tr_isub hx hb gX12_count_4.2.2.2.2.1 (Eq.refl _) tk_7 (by omega) (by omega) (fun x16 ex16 => ?_)
    replace hF := hF.trans (dv_bn (ex16.symm))
    refine th_ialdF hC hB.1 hb15 ro_47 rfl (Eq.refl _) (by omega) (by omega) rfl gX12_count_4.2.2.2.2.2.1 (fun x17 mx17 lx17 ux17 => ?_)
    replace hF := hF.trans (dv_bn (dv_aldI hB.1 hU hb15 ow_47 (z := x16.toInt) mx17 (by omega)))
    exact th_iret hC hH hr hlocks rfl hB.2.1 ⟨_, rfl, (hF0.symm.trans hF), rfl⟩ gX12_count_4.2.2.2.2.2.2.1
  replace hF := hF.trans (if_neg k1_9)
  by_cases k1_10 : p1.toInt = 10
  · replace hF := hF.trans (if_pos k1_10)
    refine lv_tableIn (off := 140) (tgt := 141) hx hb gX12_count_0.2.1 (by omega) (by omega) (by rw [show p1.toInt = 10 from k1_10]; decide) (by decide) ?_
    refine lv_aload_n hx hb gX12_count_4.1 rfl (lv_at hl 0 rfl) ?_
    refine th_getO (j := 1) (r2 := 47) hC cf_X12 hB.1 h0 ro_46 rfl rfl kf_X12_7 gX12_count_4.2.1 (fun b18 mb18 hb18 => ?_)
    refine lv_iload_n hx hb gX12_count_4.2.2.1 rfl (lv_at hl 1 rfl) ?_
    refine lv_bipush (v := 7) hx hb gX12_count_4.2.2.2.1 (by decide) ?_
    refine tr_isub hx hb gX12_count_4.2.2.2.2.1 (Eq.refl _) tk_7 (by omega) (by omega) (fun x19 ex19 => ?_)
    replace hF := hF.trans (dv_bn (ex19.symm))
    refine th_ialdF hC hB.1 hb18 ro_47 rfl (Eq.refl _) (by omega) (by omega) rfl gX12_count_4.2.2.2.2.2.1 (fun x20 mx20 lx20 ux20 => ?_)
    replace hF := hF.trans (dv_bn (dv_aldI hB.1 hU hb18 ow_47 (z := x19.toInt) mx20 (by omega)))
    exact th_iret hC hH hr hlocks rfl hB.2.1 ⟨_, rfl, (hF0.symm.trans hF), rfl⟩ gX12_count_4.2.2.2.2.2.2.1
  replace hF := hF.trans (if_neg k1_10)
  by_cases k1_11 : p1.toInt = 11
  · replace hF := hF.trans (if_pos k1_11)
    refine lv_tableIn (off := 150) (tgt := 151) hx hb gX12_count_0.2.1 (by omega) (by omega) (by rw [show p1.toInt = 11 from k1_11]; decide) (by decide) ?_
    refine lv_aload_n hx hb gX12_count_4.2.2.2.2.2.2.2 rfl (lv_at hl 0 rfl) ?_
    refine th_getO (j := 1) (r2 := 47) hC cf_X12 hB.1 h0 ro_46 rfl rfl kf_X12_7 gX12_count_5.1 (fun b21 mb21 hb21 => ?_)
    refine lv_iconst (v := 5) hx hb gX12_count_5.2.1 (by decide) ?_
    refine th_ialdF hC hB.1 hb21 ro_47 rfl tk_5 (by omega) (by omega) rfl gX12_count_5.2.2.1 (fun x22 mx22 lx22 ux22 => ?_)
    replace hF := hF.trans (dv_bn (dv_aldI hB.1 hU hb21 ow_47 (z := 5) mx22 (by omega)))
    exact th_iret hC hH hr hlocks rfl hB.2.1 ⟨_, rfl, (hF0.symm.trans hF), rfl⟩ gX12_count_5.2.2.2.1
  replace hF := hF.trans (if_neg k1_11)
  by_cases k1_12 : p1.toInt = 12
  · replace hF := hF.trans (if_pos k1_12)
    refine lv_tableIn (off := 157) (tgt := 158) hx hb gX12_count_0.2.1 (by omega) (by omega) (by rw [show p1.toInt = 12 from k1_12]; decide) (by decide) ?_
    refine lv_aload_n hx hb gX12_count_5.2.2.2.2.1 rfl (lv_at hl 0 rfl) ?_
    refine th_getO (j := 1) (r2 := 47) hC cf_X12 hB.1 h0 ro_46 rfl rfl kf_X12_7 gX12_count_5.2.2.2.2.2.1 (fun b23 mb23 hb23 => ?_)
    refine lv_bipush (v := 6) hx hb gX12_count_5.2.2.2.2.2.2.1 (by decide) ?_
    refine th_ialdF hC hB.1 hb23 ro_47 rfl tk_6 (by omega) (by omega) rfl gX12_count_5.2.2.2.2.2.2.2 (fun x24 mx24 lx24 ux24 => ?_)
    replace hF := hF.trans (dv_bn (dv_aldI hB.1 hU hb23 ow_47 (z := 6) mx24 (by omega)))
    exact th_iret hC hH hr hlocks rfl hB.2.1 ⟨_, rfl, (hF0.symm.trans hF), rfl⟩ gX12_count_6.1
  replace hF := hF.trans (if_neg k1_12)
  by_cases k1_13 : p1.toInt = 13
  · replace hF := hF.trans (if_pos k1_13)
    refine lv_tableIn (off := 165) (tgt := 166) hx hb gX12_count_0.2.1 (by omega) (by omega) (by rw [show p1.toInt = 13 from k1_13]; decide) (by decide) ?_
    refine lv_aload_n hx hb gX12_count_6.2.1 rfl (lv_at hl 0 rfl) ?_
    refine th_getO (j := 2) (r2 := 48) hC cf_X12 hB.1 h0 ro_46 rfl rfl kf_X12_28 gX12_count_6.2.2.1 (fun b25 mb25 hb25 => ?_)
    refine lv_bipush (v := 72) hx hb gX12_count_6.2.2.2.1 (by decide) ?_
    refine th_ialdF hC hB.1 hb25 ro_48 rfl tk_72 (by omega) (by omega) (ek_force (by omega) (by omega)) gX12_count_6.2.2.2.2.1 (fun x26 mx26 lx26 ux26 => ?_)
    replace hF := hF.trans (dv_bn (dv_aldI hB.1 hU hb25 ow_48 (z := 72) mx26 (by omega)))
    exact th_iret hC hH hr hlocks rfl hB.2.1 ⟨_, rfl, (hF0.symm.trans hF), rfl⟩ gX12_count_6.2.2.2.2.2.1
  replace hF := hF.trans (if_neg k1_13)
  by_cases k1_14 : p1.toInt = 14
  · replace hF := hF.trans (if_pos k1_14)
    refine lv_tableIn (off := 173) (tgt := 174) hx hb gX12_count_0.2.1 (by omega) (by omega) (by rw [show p1.toInt = 14 from k1_14]; decide) (by decide) ?_
    refine lv_aload_n hx hb gX12_count_6.2.2.2.2.2.2.1 rfl (lv_at hl 0 rfl) ?_
    refine th_getO (j := 2) (r2 := 48) hC cf_X12 hB.1 h0 ro_46 rfl rfl kf_X12_28 gX12_count_6.2.2.2.2.2.2.2 (fun b27 mb27 hb27 => ?_)
    refine lv_iload_n hx hb gX12_count_7.1 rfl (lv_at hl 1 rfl) ?_
    refine lv_bipush (v := 14) hx hb gX12_count_7.2.1 (by decide) ?_
    refine tr_isub hx hb gX12_count_7.2.2.1 (Eq.refl _) tk_14 (by omega) (by omega) (fun x28 ex28 => ?_)
    replace hF := hF.trans (dv_bn (ex28.symm))
    refine th_call (th_runS (As := [.int x28]) (rest := [.ref b27]) hC mf_X12_termAt km_X12_166 st_X12_termAt (c_X12_termAt l G Γ H0 hB.1 hU x28) rfl rfl ⟨Nat.le_of_ble_eq_true rfl, Nat.le_of_ble_eq_true rfl⟩ rfl hl.1 rfl (Nat.le_of_ble_eq_true rfl) gX12_count_7.2.2.2.1 ⟨Nat.le_refl _, Nat.le_refl _⟩) hB.2.1 (fun v182 H182 locs hp hz hS => ?_)
    obtain ⟨x29, rfl, lx29, ux29, q182_0, q182_1, rfl⟩ := hp
    have hB := th_B_s hB hS
    replace hF := hF.trans (dv_bn2 (q182_1))
    refine W.eq (g2 := F0 m 185 ls [.int x29, .ref b27]) rfl ?_
    refine th_ialdF hC hB.1 hb27 ro_48 rfl (Eq.refl _) (by omega) (by omega) (ek_t (by omega) (by omega)) gX12_count_7.2.2.2.2.1 (fun x30 mx30 lx30 ux30 => ?_)
    replace hF := hF.trans (dv_bn (dv_aldI hB.1 hU hb27 ow_48 (z := x29.toInt) mx30 (by omega)))
    exact th_iret hC hH hr hlocks rfl hB.2.1 ⟨_, rfl, (hF0.symm.trans hF), rfl⟩ gX12_count_7.2.2.2.2.2.1
  replace hF := hF.trans (if_neg k1_14)
  by_cases k1_15 : p1.toInt = 15
  · replace hF := hF.trans (if_pos k1_15)
    refine lv_tableIn (off := 173) (tgt := 174) hx hb gX12_count_0.2.1 (by omega) (by omega) (by rw [show p1.toInt = 15 from k1_15]; decide) (by decide) ?_
    refine lv_aload_n hx hb gX12_count_6.2.2.2.2.2.2.1 rfl (lv_at hl 0 rfl) ?_
    refine th_getO (j := 2) (r2 := 48) hC cf_X12 hB.1 h0 ro_46 rfl rfl kf_X12_28 gX12_count_6.2.2.2.2.2.2.2 (fun b31 mb31 hb31 => ?_)
    refine lv_iload_n hx hb gX12_count_7.1 rfl (lv_at hl 1 rfl) ?_
    refine lv_bipush (v := 14) hx hb gX12_count_7.2.1 (by decide) ?_
    refine tr_isub hx hb gX12_count_7.2.2.1 (Eq.refl _) tk_14 (by omega) (by omega) (fun x32 ex32 => ?_)
    replace hF := hF.trans (dv_bn (ex32.symm))
    refine th_call (th_runS (As := [.int x32]) (rest := [.ref b31]) hC mf_X12_termAt km_X12_166 st_X12_termAt (c_X12_termAt l G Γ H0 hB.1 hU x32) rfl rfl ⟨Nat.le_of_ble_eq_true rfl, Nat.le_of_ble_eq_true rfl⟩ rfl hl.1 rfl (Nat.le_of_ble_eq_true rfl) gX12_count_7.2.2.2.1 ⟨Nat.le_refl _, Nat.le_refl _⟩) hB.2.1 (fun v182 H182 locs hp hz hS => ?_)
    obtain ⟨x33, rfl, lx33, ux33, q182_0, q182_1, rfl⟩ := hp
    have hB := th_B_s hB hS
    replace hF := hF.trans (dv_bn2 (q182_1))
    refine W.eq (g2 := F0 m 185 ls [.int x33, .ref b31]) rfl ?_
    refine th_ialdF hC hB.1 hb31 ro_48 rfl (Eq.refl _) (by omega) (by omega) (ek_t (by omega) (by omega)) gX12_count_7.2.2.2.2.1 (fun x34 mx34 lx34 ux34 => ?_)
    replace hF := hF.trans (dv_bn (dv_aldI hB.1 hU hb31 ow_48 (z := x33.toInt) mx34 (by omega)))
    exact th_iret hC hH hr hlocks rfl hB.2.1 ⟨_, rfl, (hF0.symm.trans hF), rfl⟩ gX12_count_7.2.2.2.2.2.1
  replace hF := hF.trans (if_neg k1_15)
  by_cases k1_16 : p1.toInt = 16
  · replace hF := hF.trans (if_pos k1_16)
    refine lv_tableIn (off := 173) (tgt := 174) hx hb gX12_count_0.2.1 (by omega) (by omega) (by rw [show p1.toInt = 16 from k1_16]; decide) (by decide) ?_
    refine lv_aload_n hx hb gX12_count_6.2.2.2.2.2.2.1 rfl (lv_at hl 0 rfl) ?_
    refine th_getO (j := 2) (r2 := 48) hC cf_X12 hB.1 h0 ro_46 rfl rfl kf_X12_28 gX12_count_6.2.2.2.2.2.2.2 (fun b35 mb35 hb35 => ?_)
    refine lv_iload_n hx hb gX12_count_7.1 rfl (lv_at hl 1 rfl) ?_
    refine lv_bipush (v := 14) hx hb gX12_count_7.2.1 (by decide) ?_
    refine tr_isub hx hb gX12_count_7.2.2.1 (Eq.refl _) tk_14 (by omega) (by omega) (fun x36 ex36 => ?_)
    replace hF := hF.trans (dv_bn (ex36.symm))
    refine th_call (th_runS (As := [.int x36]) (rest := [.ref b35]) hC mf_X12_termAt km_X12_166 st_X12_termAt (c_X12_termAt l G Γ H0 hB.1 hU x36) rfl rfl ⟨Nat.le_of_ble_eq_true rfl, Nat.le_of_ble_eq_true rfl⟩ rfl hl.1 rfl (Nat.le_of_ble_eq_true rfl) gX12_count_7.2.2.2.1 ⟨Nat.le_refl _, Nat.le_refl _⟩) hB.2.1 (fun v182 H182 locs hp hz hS => ?_)
    obtain ⟨x37, rfl, lx37, ux37, q182_0, q182_1, rfl⟩ := hp
    have hB := th_B_s hB hS
    replace hF := hF.trans (dv_bn2 (q182_1))
    refine W.eq (g2 := F0 m 185 ls [.int x37, .ref b35]) rfl ?_
    refine th_ialdF hC hB.1 hb35 ro_48 rfl (Eq.refl _) (by omega) (by omega) (ek_t (by omega) (by omega)) gX12_count_7.2.2.2.2.1 (fun x38 mx38 lx38 ux38 => ?_)
    replace hF := hF.trans (dv_bn (dv_aldI hB.1 hU hb35 ow_48 (z := x37.toInt) mx38 (by omega)))
    exact th_iret hC hH hr hlocks rfl hB.2.1 ⟨_, rfl, (hF0.symm.trans hF), rfl⟩ gX12_count_7.2.2.2.2.2.1
  replace hF := hF.trans (if_neg k1_16)
  by_cases k1_17 : p1.toInt = 17
  · replace hF := hF.trans (if_pos k1_17)
    refine lv_tableIn (off := 186) (tgt := 187) hx hb gX12_count_0.2.1 (by omega) (by omega) (by rw [show p1.toInt = 17 from k1_17]; decide) (by decide) ?_
    refine lv_aload_n hx hb gX12_count_7.2.2.2.2.2.2.1 rfl (lv_at hl 0 rfl) ?_
    refine th_getO (j := 2) (r2 := 48) hC cf_X12 hB.1 h0 ro_46 rfl rfl kf_X12_28 gX12_count_7.2.2.2.2.2.2.2 (fun b39 mb39 hb39 => ?_)
    refine lv_bipush (v := 67) hx hb gX12_count_8.1 (by decide) ?_
    refine th_ialdF hC hB.1 hb39 ro_48 rfl tk_67 (by omega) (by omega) (ek_hall (by omega) (by omega)) gX12_count_8.2.1 (fun x40 mx40 lx40 ux40 => ?_)
    replace hF := hF.trans (dv_bn (dv_aldI hB.1 hU hb39 ow_48 (z := 67) mx40 (by omega)))
    exact th_iret hC hH hr hlocks rfl hB.2.1 ⟨_, rfl, (hF0.symm.trans hF), rfl⟩ gX12_count_8.2.2.1
  replace hF := hF.trans (if_neg k1_17)
  by_cases k1_18 : p1.toInt = 18
  · replace hF := hF.trans (if_pos k1_18)
    refine lv_tableIn (off := 194) (tgt := 195) hx hb gX12_count_0.2.1 (by omega) (by omega) (by rw [show p1.toInt = 18 from k1_18]; decide) (by decide) ?_
    refine lv_aload_n hx hb gX12_count_8.2.2.2.1 rfl (lv_at hl 0 rfl) ?_
    refine th_getO (j := 2) (r2 := 48) hC cf_X12 hB.1 h0 ro_46 rfl rfl kf_X12_28 gX12_count_8.2.2.2.2.1 (fun b41 mb41 hb41 => ?_)
    refine lv_bipush (v := 68) hx hb gX12_count_8.2.2.2.2.2.1 (by decide) ?_
    refine th_ialdF hC hB.1 hb41 ro_48 rfl tk_68 (by omega) (by omega) (ek_hall (by omega) (by omega)) gX12_count_8.2.2.2.2.2.2.1 (fun x42 mx42 lx42 ux42 => ?_)
    replace hF := hF.trans (dv_bn (dv_aldI hB.1 hU hb41 ow_48 (z := 68) mx42 (by omega)))
    exact th_iret hC hH hr hlocks rfl hB.2.1 ⟨_, rfl, (hF0.symm.trans hF), rfl⟩ gX12_count_8.2.2.2.2.2.2.2
  replace hF := hF.trans (if_neg k1_18)
  refine lv_tableOut (tgt := 203) hx hb gX12_count_0.2.1 (by omega) (by decide) ?_
  refine lv_iconst (v := (-1)) hx hb gX12_count_9.1 (by decide) ?_
  exact th_iret hC hH hr hlocks rfl hB.2.1 ⟨_, rfl, (hF0.symm.trans (hF.trans (by rw [tk_m1]))), rfl⟩ gX12_count_9.2
end
section
section MO5
variable {p : Program} {l : Launch} {e : Env} {R : Room} {s : State} {m : MethodId} {args : Array Value} {below : List Frame} {meth : Method} {c : Code} {H H0 : Heap} {locs : List Loc} {cells slots : Nat} {Q : State → Prop}
variable {cc : ByteArray} {pc : Nat} {ls : Array Slot} {rest : List Value} {G : th_G} {Γ Γ0 : th_Ga} {L : List (Nat × Nat)}
theorem ti_i2l {x : Int32} {y : Int64} (e : y = x.toInt64) : y.toInt = x.toInt := by
  rw [e]; exact Int32.toInt_toInt64 x
theorem ti_l2i {y : Int64} {x : Int32} (e : x = y.toInt32) (h0 : 0 ≤ y.toInt) (h1 : y.toInt ≤ 2147483647) : x.toInt = y.toInt := by
  rw [e, Int64.toInt_toInt32]; exact ti_bmod (by omega) (by omega)
theorem mo_ce_nz {a : Nat} {B m : Int} (h : mo_ce G H a B m ≠ 0) : 0 ≤ m ∧ B + m < mo_f G H a 23 := by
  unfold mo_ce mo_tf at h
  split at h
  · omega
  · exact absurd rfl h
theorem mo_ce_at {a : Nat} {B z r : Int} (hB : B ≤ z) (h1 : z < mo_f G H a 23 → mo_v G H a 2 (80 + z) = r) (h2 : mo_f G H a 23 ≤ z → r = 0) : r = mo_ce G H a B (z - B) := by
  unfold mo_ce mo_tf
  split
  · have := h1 (by omega)
    rw [← this]
    congr 1
    omega
  · exact h2 (by omega)
theorem mo_lp {R : Int → Int → Prop} {op : Int → Prop} {cv : Int → Int} {f B j : Int} (hR : ∀ i j, R i j → i < j) (h : ∃ m : Int, f = B + m ∧ 0 ≤ m ∧ mo_rest cv R op m j) : f ≤ B + j := by
  obtain ⟨m, h1, -, h2⟩ := h
  have := mo_rest_le hR h2
  omega
theorem mo_lpn {R : Int → Int → Prop} {cv : Int → Int} {f B j : Int} (hR : ∀ i j, R i j → i < j) (h : ∃ m : Int, f = B + m ∧ 0 ≤ m ∧ mo_nots cv R m j) : f ≤ B + j := by
  obtain ⟨m, h1, -, h2⟩ := h
  have := mo_nots_lt hR _ _ h2
  omega
theorem mo_ce_T {a : Nat} {B n : Int} {k : Int → Int} (hv : mo_v G H a 2 = k) (h : mo_f G H a 23 = B + n) : mo_ce G H a B = mo_tf k (80 + B) n := by
  unfold mo_ce
  rw [hv, h, show B + n - B = n by omega]
theorem mo_lpt {R : Int → Int → Prop} {op : Int → Prop} {cv : Int → Int} {f B n : Int} (hR : ∀ i j, R i j → i < j) (h : ∃ m : Int, f = B + m ∧ 0 ≤ m ∧ (m = n + 1 ∨ mo_chain cv R op m n)) : f ≤ B + n + 1 := by
  obtain ⟨m, h1, -, h2 | h2⟩ := h
  · omega
  · have := mo_chain_lt hR h2
    omega
theorem mo_tf_nz {k : Int → Int} {b n i : Int} (h : mo_tf k b n i ≠ 0) : 0 ≤ i ∧ i < n := by
  unfold mo_tf at h
  split at h
  · omega
  · exact absurd rfl h
end MO5
set_option maxHeartbeats 4000000 in
set_option maxRecDepth 100000 in
theorem c_X12_codeAt (l : Launch) (G : th_G) (Γ : th_Ga) (H0 : Heap) (hI : th_I G Γ H0) (hU : dv_U Γ) (a0 : Nat) (h0 : Γ a0 = (46, 0)) (p1 : Int32) (f1 : 0 ≤ p1.toInt) (B : Int) (k1 : mo_f G H0 a0 23 ≤ 2800) (k2 : 0 ≤ B ∧ B ≤ p1.toInt) : Met l yX12_codeAt (.code yX12_codeAt cX12_codeAt 2 (some FieldType.int) :: th_tb) ({ frames := 0, cells := 0, slots := 0, locals := 0 } : Room) (th_P [.ref a0, .int p1] G H0) (th_Q (fun (v : Option Value) (H1 : Heap) => ∃ r : Int32, v = some (.int r) ∧ (r.toInt = mo_ce G H0 a0 B (p1.toInt - B)) ∧ (f_X12_codeAt (dv G Γ H0) (a0 : Int) p1.toInt = (r.toInt, ())) ∧ H0 = H1) G) 0 0 (fun q => G.1.2.2 ≤ q) := by
  refine th_met RX12 (by decide) rfl (Nat.le_of_ble_eq_true rfl) ?_
  intro p e s m below meth c hC hH hr hlocks hnm ls hl
  have hx := hC.1
  have hb := hC.2.1
  have hB : th_B G Γ Γ [] H0 H0 [] := ⟨hI, va_S.rf, th_F_rf⟩
  have hl : lv_has ls 2 [(0, .ref a0), (1, .int p1)] := hl
  have lp1 := ti_lo p1; have up1 := ti_hi p1
  obtain ⟨F, hF0⟩ : ∃ F, F = f_X12_codeAt (dv G Γ H0) ((a0 : Int)) (p1.toInt) := ⟨_, rfl⟩
  have hF := hF0.trans (f_X12_codeAt.eq_1 (dv G Γ H0) ((a0 : Int)) (p1.toInt))
  refine lv_iload_n hx hb gX12_codeAt_0.1 rfl (lv_at hl 1 rfl) ?_
  refine lv_aload_n hx hb gX12_codeAt_0.2.1 rfl (lv_at hl 0 rfl) ?_
  refine th_getI (j := 23) hC cf_X12 hB.1 h0 ro_46 rfl rfl kf_X12_278 gX12_codeAt_0.2.2.1 (fun x1 mx1 lx1 ux1 => ?_)
  replace hF := hF.trans (dv_bn (dv_getI h0 ro_46 (j := 23) rfl mx1 (by decide)))
  have fg2 : mo_f G H0 a0 23 = x1.toInt := mo_fat mx1
  refine tr_icmp_ge (tgt := 20) hx hb gX12_codeAt_0.2.2.2.1 (by decide) (Eq.refl _) (Eq.refl _) (fun c5 => ?_) (fun c5 => ?_)
  · replace hF := hF.trans (if_pos c5)
    refine lv_iconst (v := 0) hx hb gX12_codeAt_1.2.2.2.1 (by decide) ?_
    exact th_iret hC hH hr hlocks rfl hB.2.1 ⟨_, rfl, mo_ce_at (by omega) (fun _ => by omega) (fun _ => by first | rfl | omega), (hF0.symm.trans (hF.trans (by rw [tk_0]))), rfl⟩ gX12_codeAt_1.2.2.2.2
  · replace hF := hF.trans (if_neg (Int.not_le.mpr c5))
    refine lv_aload_n hx hb gX12_codeAt_0.2.2.2.2.1 rfl (lv_at hl 0 rfl) ?_
    refine th_getO (j := 2) (r2 := 48) hC cf_X12 hB.1 h0 ro_46 rfl rfl kf_X12_28 gX12_codeAt_0.2.2.2.2.2.1 (fun b3 mb3 hb3 => ?_)
    refine lv_bipush (v := 80) hx hb gX12_codeAt_0.2.2.2.2.2.2.1 (by decide) ?_
    refine lv_iload_n hx hb gX12_codeAt_0.2.2.2.2.2.2.2 rfl (lv_at hl 1 rfl) ?_
    refine tr_iadd hx hb gX12_codeAt_1.1 tk_80 (Eq.refl _) (by omega) (by omega) (fun x4 ex4 => ?_)
    replace hF := hF.trans (dv_bn (ex4.symm))
    refine th_ialdF hC hB.1 hb3 ro_48 rfl (Eq.refl _) (by omega) (by omega) (ek_c (by omega) (by omega)) gX12_codeAt_1.2.1 (fun x5 mx5 lx5 ux5 => ?_)
    replace hF := hF.trans (dv_bn (dv_aldI hB.1 hU hb3 ow_48 (z := x4.toInt) mx5 (by omega)))
    have vgx5 : mo_v G H0 a0 2 (80 + p1.toInt) = x5.toInt := by rw [show ((80 + p1.toInt) : Int) = x4.toInt by omega]; exact mo_vat mb3 mx5 (by omega)
    refine lv_goto (tgt := 21) hx hb gX12_codeAt_1.2.2.1 (by decide) ?_
    exact th_iret hC hH hr hlocks rfl hB.2.1 ⟨_, rfl, mo_ce_at (by omega) (fun _ => by omega) (fun _ => by first | rfl | omega), (hF0.symm.trans hF), rfl⟩ gX12_codeAt_1.2.2.2.2

set_option maxHeartbeats 4000000 in
set_option maxRecDepth 100000 in
theorem c_X12_passes0 (l : Launch) (G : th_G) (Γ : th_Ga) (H0 : Heap) (hI : th_I G Γ H0) (hR : th_RC G Γ H0) (hU : dv_U Γ) (a0 : Nat) (h0 : Γ a0 = (46, 0)) (p1 : Int32) (f1 : 1 ≤ p1.toInt) (B i : Int) (k1 : 0 ≤ B ∧ 0 ≤ i ∧ mo_f G H0 a0 22 = B + i ∧ mo_f G H0 a0 23 ≤ 2800) : Met l yX12_passes0 (.code yX12_passes0 cX12_passes0 3 (some FieldType.boolean) :: th_tb) ({ frames := 1, cells := 0, slots := 0, locals := 21 } : Room) (th_P [.ref a0, .int p1] G H0) (th_Q (fun (v : Option Value) (H1 : Heap) => ∃ r : Int32, v = some (.int r) ∧ 0 ≤ r.toInt ∧ r.toInt ≤ 1 ∧ th_I G Γ H1 ∧ th_F G Γ [(46, 22)] H0 H1 ∧ th_RC G Γ H1 ∧ (r.toInt = 1 → mo_f G H1 a0 22 = B + i + 1 ∧ mo_ce G H0 a0 B i = p1.toInt) ∧ (r.toInt = 0 → mo_f G H1 a0 22 = B + i ∧ mo_ce G H0 a0 B i ≠ p1.toInt) ∧ (f_X12_passes0 (dv G Γ H0) (a0 : Int) p1.toInt = (dv G Γ H1, r.toInt))) G) 0 0 (fun q => G.1.2.2 ≤ q) := by
  refine th_met RX12 (by decide) rfl (Nat.le_of_ble_eq_true rfl) ?_
  intro p e s m below meth c hC hH hr hlocks hnm ls hl
  have hx := hC.1
  have hb := hC.2.1
  have hB : th_B G Γ Γ [(46, 22)] H0 H0 [] := ⟨hI, va_S.rf, th_F_rf⟩
  have hl : lv_has ls 3 [(0, .ref a0), (1, .int p1)] := hl
  have lp1 := ti_lo p1; have up1 := ti_hi p1
  obtain ⟨F, hF0⟩ : ∃ F, F = f_X12_passes0 (dv G Γ H0) ((a0 : Int)) (p1.toInt) := ⟨_, rfl⟩
  have hF := hF0.trans (f_X12_passes0.eq_1 (dv G Γ H0) ((a0 : Int)) (p1.toInt))
  refine lv_aload_n hx hb gX12_passes0_0.1 rfl (lv_at hl 0 rfl) ?_
  refine lv_aload_n hx hb gX12_passes0_0.2.1 rfl (lv_at hl 0 rfl) ?_
  refine th_getI (j := 22) hC cf_X12 hB.1 h0 ro_46 rfl rfl kf_X12_281 gX12_passes0_0.2.2.1 (fun x1 mx1 lx1 ux1 => ?_)
  replace hF := hF.trans (dv_bn (dv_getI h0 ro_46 (j := 22) rfl mx1 (by decide)))
  have fg2 : mo_f G H0 a0 22 = x1.toInt := mo_fat mx1
  refine th_call (th_runV (As := [.int x1]) (rest := []) hC mf_X12_codeAt km_X12_284 im_X12_codeAt se_X12_codeAt (c_X12_codeAt l G Γ H0 hB.1 hU a0 h0 x1 (by omega) B (by omega) (by omega)) rfl rfl ⟨Nat.le_of_ble_eq_true rfl, Nat.le_of_ble_eq_true rfl⟩ hB.1 h0 ro_46 rfl rfl hl.1 rfl (Nat.le_of_ble_eq_true rfl) gX12_passes0_0.2.2.2.1 ⟨Nat.le_refl _, Nat.le_refl _⟩) hB.2.1 (fun v5 H5 locs hp hz hS => ?_)
  obtain ⟨x3, rfl, q5_0, q5_1, rfl⟩ := hp
  have hB := th_B_s hB hS
  replace hF := hF.trans (dv_bn2 (q5_1))
  refine W.eq (g2 := F0 m 8 ls [.int x3]) rfl ?_
  have cd5 : mo_ce G H0 a0 B i = x3.toInt := by have q9 := q5_0; rw [mo_ce_F hB.1 hB.2.2 h0 (by decide)] at q9; rw [q9]; congr 1; omega
  refine lv_iload_n hx hb gX12_passes0_0.2.2.2.2.1 rfl (lv_at hl 1 rfl) ?_
  refine tr_icmp_ne (tgt := 16) hx hb gX12_passes0_0.2.2.2.2.2.1 (by decide) (Eq.refl _) (Eq.refl _) (fun c9 => ?_) (fun c9 => ?_)
  · replace hF := hF.trans (if_pos c9)
    refine lv_iconst (v := 0) hx hb gX12_passes0_1.1 (by decide) ?_
    refine lv_istore_n (lv' := [(2, .int 0), (0, .ref a0), (1, .int p1)]) hx hb gX12_passes0_1.2.1 rfl hl (by decide) rfl (fun ls hl => ?_)
    refine lv_iload_n hx hb gX12_passes0_1.2.2.1 rfl (lv_at hl 0 rfl) ?_
    refine tr_if_eq (tgt := 32) hx hb gX12_passes0_1.2.2.2.1 (by decide) tk_0 (fun c19 => ?_) (fun c19 => ?_)
    · refine lv_iload_n hx hb gX12_passes0_2.2.2.1 rfl (lv_at hl 0 rfl) ?_
      exact th_iret hC hH hr hlocks narrow_b0 hB.2.1 ⟨_, rfl, by decide, by decide, hB.1, hB.2.2, hR, by first | (intro h9; exact absurd h9 (by decide)) | (intro _; exact ⟨by omega, by omega⟩), by first | (intro h9; exact absurd h9 (by decide)) | (intro _; exact ⟨by omega, by omega⟩), (hF0.symm.trans (hF.trans (by rw [tk_0])))⟩ gX12_passes0_2.2.2.2
    · exfalso; omega
  · replace hF := hF.trans (if_neg (not_not_intro c9))
    refine lv_iconst (v := 1) hx hb gX12_passes0_0.2.2.2.2.2.2.1 (by decide) ?_
    refine lv_goto (tgt := 17) hx hb gX12_passes0_0.2.2.2.2.2.2.2 (by decide) ?_
    refine lv_istore_n (lv' := [(2, .int 1), (0, .ref a0), (1, .int p1)]) hx hb gX12_passes0_1.2.1 rfl hl (by decide) rfl (fun ls hl => ?_)
    refine lv_iload_n hx hb gX12_passes0_1.2.2.1 rfl (lv_at hl 0 rfl) ?_
    refine tr_if_eq (tgt := 32) hx hb gX12_passes0_1.2.2.2.1 (by decide) tk_1 (fun c19 => ?_) (fun c19 => ?_)
    · exfalso; omega
    · refine lv_aload_n hx hb gX12_passes0_1.2.2.2.2.1 rfl (lv_at hl 1 rfl) ?_
      refine lv_dup hx hb gX12_passes0_1.2.2.2.2.2.1 rfl ?_
      refine th_getK hC cf_X12 hB.1 h0 ro_46 rfl (j := 22) (by decide) mx1 kf_X12_281 gX12_passes0_1.2.2.2.2.2.2.1 ?_
      replace hF := hF.trans (dv_bn (dv_getI h0 ro_46 (j := 22) rfl mx1 (by decide)))
      have fg4 : mo_f G H0 a0 22 = x1.toInt := mo_fat mx1
      have nz24 := mo_ce_nz (show mo_ce G H0 a0 B i ≠ 0 by omega)
      refine lv_iconst (v := 1) hx hb gX12_passes0_1.2.2.2.2.2.2.2 (by decide) ?_
      refine tr_iadd hx hb gX12_passes0_2.1 (Eq.refl _) tk_1 (by omega) (by omega) (fun x5 ex5 => ?_)
      replace hF := hF.trans (dv_bn (ex5.symm))
      refine th_put hC cf_X12 hB h0 (Or.inl h0) ro_46 rfl (j := 22) rfl th_sIa (by decide) rfl rfl rfl kf_X12_281 gX12_passes0_2.2.1 (fun H29 locs hB hf hst29 => ?_)
      have hR := th_RC_F hB.1 hR hf (th_T_s h0 ro_46 hst29) (by decide)
      have fv_H29_23 : mo_f G H29 a0 23 = mo_f G H0 a0 23 := mo_f_F hf h0 (by decide) (by decide)
      replace hF := hF.trans (dv_bn (dv_putI hB.1 h0 ro_46 (j := 22) rfl (th_apart hC cf_X12) hst29 (Eq.refl _) (by decide)))
      have fp29 : mo_f G H29 a0 22 = x5.toInt := mo_f_St hst29
      refine lv_iload_n hx hb gX12_passes0_2.2.2.1 rfl (lv_at hl 0 rfl) ?_
      exact th_iret hC hH hr hlocks narrow_b1 hB.2.1 ⟨_, rfl, by decide, by decide, hB.1, hB.2.2, hR, by first | (intro h9; exact absurd h9 (by decide)) | (intro _; exact ⟨by omega, by omega⟩), by first | (intro h9; exact absurd h9 (by decide)) | (intro _; exact ⟨by omega, by omega⟩), (hF0.symm.trans (hF.trans (by rw [tk_1])))⟩ gX12_passes0_2.2.2.2

set_option maxHeartbeats 4000000 in
set_option maxRecDepth 100000 in
theorem c_X12_bounded (l : Launch) (G : th_G) (Γ : th_Ga) (H0 : Heap) (hI : th_I G Γ H0) (hR : th_RC G Γ H0) (hU : dv_U Γ) (a0 : Nat) (h0 : Γ a0 = (46, 0)) (p1 : Int64) (p2 : Int32) (f2 : 0 ≤ p2.toInt) (g2 : p2.toInt ≤ 1) : Met l yX12_bounded (.code yX12_bounded cX12_bounded 4 (some FieldType.long) :: th_tb) ({ frames := 0, cells := 0, slots := 0, locals := 0 } : Room) (th_P [.ref a0, .long p1, .int p2] G H0) (th_Q (fun (v : Option Value) (H1 : Heap) => ∃ r : Int64, v = some (.long r) ∧ th_I G Γ H1 ∧ th_F G Γ [(46, 24)] H0 H1 ∧ th_RC G Γ H1 ∧ (f_X12_bounded (dv G Γ H0) (a0 : Int) p1.toInt p2.toInt = (dv G Γ H1, r.toInt))) G) 0 0 (fun q => G.1.2.2 ≤ q) := by
  refine th_met RX12 (by decide) rfl (Nat.le_of_ble_eq_true rfl) ?_
  intro p e s m below meth c hC hH hr hlocks hnm ls hl
  have hx := hC.1
  have hb := hC.2.1
  have hB : th_B G Γ Γ [(46, 24)] H0 H0 [] := ⟨hI, va_S.rf, th_F_rf⟩
  have hl : lv_has ls 4 [(0, .ref a0), (1, .long p1), (3, .int p2)] := hl
  have lp2 := ti_lo p2; have up2 := ti_hi p2
  obtain ⟨F, hF0⟩ : ∃ F, F = f_X12_bounded (dv G Γ H0) ((a0 : Int)) (p1.toInt) (p2.toInt) := ⟨_, rfl⟩
  have hF := hF0.trans (f_X12_bounded.eq_1 (dv G Γ H0) ((a0 : Int)) (p1.toInt) (p2.toInt))
  refine lv_iload_n hx hb gX12_bounded_0.1 rfl (lv_at hl 2 rfl) ?_
  have jn25 : ∀ (H25 : Heap) (locs : List Loc) (ls : Array Slot) , th_B G Γ Γ [(46, 24)] H0 H25 locs → th_RC G Γ H25 → lv_has ls 4 [(0, .ref a0), (1, .long p1)] → F = f_X12_bounded_25 (dv G Γ H25) ((a0 : Int)) (p1.toInt) → W p l e ({ frames := 0, cells := 0, slots := 0, locals := 0 } : Room) s m ([.ref a0, .long p1, .int p2] : List Value).toArray below meth c H25 locs 0 0 (MQ below (th_Q (fun (v : Option Value) (H1 : Heap) => ∃ r : Int64, v = some (.long r) ∧ th_I G Γ H1 ∧ th_F G Γ [(46, 24)] H0 H1 ∧ th_RC G Γ H1 ∧ (f_X12_bounded (dv G Γ H0) (a0 : Int) p1.toInt p2.toInt = (dv G Γ H1, r.toInt))) G) ([.ref a0, .long p1, .int p2] : List Value).toArray s 0 0 (fun q => G.1.2.2 ≤ q)) (F0 m 25 ls []) := by
    intro H25 locs ls hB hR hl hF
    replace hF := hF.trans (f_X12_bounded_25.eq_1 (dv G Γ H25) ((a0 : Int)) (p1.toInt))
    refine lv_aload_n hx hb gX12_bounded_1.2.2.2.2.2.1 rfl (lv_at hl 0 rfl) ?_
    refine th_getI (j := 24) hC cf_X12 hB.1 h0 ro_46 rfl rfl kf_X12_291 gX12_bounded_1.2.2.2.2.2.2.1 (fun x1 mx1 lx1 ux1 => ?_)
    replace hF := hF.trans (dv_bn (dv_getI h0 ro_46 (j := 24) rfl mx1 (by decide)))
    refine tr_if_eq (tgt := 36) hx hb gX12_bounded_1.2.2.2.2.2.2.2 (by decide) (Eq.refl _) (fun c29 => ?_) (fun c29 => ?_)
    · replace hF := hF.trans (if_pos c29)
      refine lv_lload_n hx hb gX12_bounded_2.2.2.1 rfl (lv_at hl 1 rfl) ?_
      exact th_lret hC hH hr hlocks hB.2.1 ⟨_, rfl, hB.1, hB.2.2, hR, (hF0.symm.trans hF)⟩ gX12_bounded_2.2.2.2
    · replace hF := hF.trans (if_neg c29)
      refine lv_lconst (v := 0) hx hb gX12_bounded_2.1 rfl ?_
      refine lv_goto (tgt := 37) hx hb gX12_bounded_2.2.1 (by decide) ?_
      exact th_lret hC hH hr hlocks hB.2.1 ⟨_, rfl, hB.1, hB.2.2, hR, (hF0.symm.trans (hF.trans (by rw [show (0 : Int64).toInt = 0 from rfl])))⟩ gX12_bounded_2.2.2.2
  refine tr_if_eq (tgt := 25) hx hb gX12_bounded_0.2.1 (by decide) (Eq.refl _) (fun c1 => ?_) (fun c1 => ?_)
  · replace hF := hF.trans (if_pos c1)
    exact jn25 H0 [] ls hB hR (lv_sub hl [0, 1] rfl) hF
  · replace hF := hF.trans (if_neg c1)
    refine lv_lload_n hx hb gX12_bounded_0.2.2.1 rfl (lv_at hl 1 rfl) ?_
    refine lv_ldc2 (v := 1000000000) hx hb hC.2.2.2.1 (hC.2.2.2.2.1 _ kw_1502) gX12_bounded_0.2.2.2.1 ?_
    refine tr_lcmp2 hx hb gX12_bounded_0.2.2.2.2.1 (fun x2 fx2 gx2 ix2 => ?_)
    replace hF := hF.trans (dv_bn (dv_lcmp_e (Eq.refl (p1.toInt)) (rfl : (1000000000 : Int64).toInt = 1000000000) fx2 ix2))
    have jn20 : ∀ (locs : List Loc) (ls : Array Slot) , th_B G Γ Γ [(46, 24)] H0 H0 locs → lv_has ls 4 [(0, .ref a0), (1, .long p1)] → F = f_X12_bounded_20 (dv G Γ H0) ((a0 : Int)) (p1.toInt) → W p l e ({ frames := 0, cells := 0, slots := 0, locals := 0 } : Room) s m ([.ref a0, .long p1, .int p2] : List Value).toArray below meth c H0 locs 0 0 (MQ below (th_Q (fun (v : Option Value) (H1 : Heap) => ∃ r : Int64, v = some (.long r) ∧ th_I G Γ H1 ∧ th_F G Γ [(46, 24)] H0 H1 ∧ th_RC G Γ H1 ∧ (f_X12_bounded (dv G Γ H0) (a0 : Int) p1.toInt p2.toInt = (dv G Γ H1, r.toInt))) G) ([.ref a0, .long p1, .int p2] : List Value).toArray s 0 0 (fun q => G.1.2.2 ≤ q)) (F0 m 20 ls []) := by
      intro locs ls hB hl hF
      replace hF := hF.trans (f_X12_bounded_20.eq_1 (dv G Γ H0) ((a0 : Int)) (p1.toInt))
      refine lv_aload_n hx hb gX12_bounded_1.2.2.1 rfl (lv_at hl 0 rfl) ?_
      refine lv_iconst (v := 1) hx hb gX12_bounded_1.2.2.2.1 (by decide) ?_
      refine th_put hC cf_X12 hB h0 (Or.inl h0) ro_46 rfl (j := 24) rfl (th_sI (by decide) (by decide)) (by decide) rfl narrow_b1 rfl kf_X12_291 gX12_bounded_1.2.2.2.2.1 (fun H22 locs hB hf hst22 => ?_)
      have hR := th_RC_F hB.1 hR hf (th_T_s h0 ro_46 hst22) (by decide)
      replace hF := hF.trans (dv_bn (dv_putI hB.1 h0 ro_46 (j := 24) rfl (th_apart hC cf_X12) hst22 tk_1 (by decide)))
      have mm3 := hst22.2.1
      exact jn25 H22 locs ls hB hR (lv_sub hl [0, 1] rfl) hF
    refine tr_if_gt (tgt := 20) hx hb gX12_bounded_0.2.2.2.2.2.1 (by decide) (Eq.refl _) (fun c9 => ?_) (fun c9 => ?_)
    · replace hF := hF.trans (if_pos c9)
      exact jn20 [] ls hB (lv_sub hl [0, 1] rfl) hF
    · replace hF := hF.trans (if_neg (Int.not_lt.mpr c9))
      refine lv_lload_n hx hb gX12_bounded_0.2.2.2.2.2.2.1 rfl (lv_at hl 1 rfl) ?_
      refine lv_ldc2 (v := (-1000000000)) hx hb hC.2.2.2.1 (hC.2.2.2.2.1 _ kw_1503) gX12_bounded_0.2.2.2.2.2.2.2 ?_
      refine tr_lcmp2 hx hb gX12_bounded_1.1 (fun x4 fx4 gx4 ix4 => ?_)
      replace hF := hF.trans (dv_bn (dv_lcmp_e (Eq.refl (p1.toInt)) (rfl : ((-1000000000) : Int64).toInt = (-1000000000)) fx4 ix4))
      refine tr_if_ge (tgt := 25) hx hb gX12_bounded_1.2.1 (by decide) (Eq.refl _) (fun c17 => ?_) (fun c17 => ?_)
      · replace hF := hF.trans (if_pos c17)
        exact jn25 H0 [] ls hB hR (lv_sub hl [0, 1] rfl) hF
      · replace hF := hF.trans (if_neg (Int.not_le.mpr c17))
        exact jn20 [] ls hB (lv_sub hl [0, 1] rfl) hF

set_option maxHeartbeats 4000000 in
set_option maxRecDepth 100000 in
theorem c_X12_orderValue (l : Launch) (G : th_G) (Γ : th_Ga) (H0 : Heap) (hI : th_I G Γ H0) (hU : dv_U Γ) (a0 : Nat) (h0 : Γ a0 = (46, 0)) (p1 : Int32) (p2 : Int32) : Met l yX12_orderValue (.code yX12_orderValue cX12_orderValue 3 (some FieldType.int) :: th_tb) ({ frames := 2, cells := 0, slots := 0, locals := 43 } : Room) (th_P [.ref a0, .int p1, .int p2] G H0) (th_Q (fun (v : Option Value) (H1 : Heap) => ∃ r : Int32, v = some (.int r) ∧ (f_X12_orderValue (dv G Γ H0) (a0 : Int) p1.toInt p2.toInt = (r.toInt, ())) ∧ H0 = H1) G) 0 0 (fun q => G.1.2.2 ≤ q) := by
  refine th_met RX12 (by decide) rfl (Nat.le_of_ble_eq_true rfl) ?_
  intro p e s m below meth c hC hH hr hlocks hnm ls hl
  have hx := hC.1
  have hb := hC.2.1
  have hB : th_B G Γ Γ [] H0 H0 [] := ⟨hI, va_S.rf, th_F_rf⟩
  have hl : lv_has ls 3 [(0, .ref a0), (1, .int p1), (2, .int p2)] := hl
  have lp1 := ti_lo p1; have up1 := ti_hi p1
  have lp2 := ti_lo p2; have up2 := ti_hi p2
  obtain ⟨F, hF0⟩ : ∃ F, F = f_X12_orderValue (dv G Γ H0) ((a0 : Int)) (p1.toInt) (p2.toInt) := ⟨_, rfl⟩
  have hF := hF0.trans (f_X12_orderValue.eq_1 (dv G Γ H0) ((a0 : Int)) (p1.toInt) (p2.toInt))
  refine lv_iload_n hx hb gX12_orderValue_0.1 rfl (lv_at hl 1 rfl) ?_
  by_cases k1_0 : p1.toInt = 14
  · replace hF := hF.trans (if_pos k1_0)
    refine lv_tableIn (off := 43) (tgt := 44) hx hb gX12_orderValue_0.2.1 (by omega) (by omega) (by rw [show p1.toInt = 14 from k1_0]; decide) (by decide) ?_
    refine lv_aload_n hx hb gX12_orderValue_0.2.2.1 rfl (lv_at hl 0 rfl) ?_
    refine lv_iload_n hx hb gX12_orderValue_0.2.2.2.1 rfl (lv_at hl 2 rfl) ?_
    refine th_call (th_runV (As := [.int p2]) (rest := []) hC mf_X12_isCarpet km_X12_134 im_X12_isCarpet se_X12_isCarpet (c_X12_isCarpet l G Γ H0 hB.1 hU a0 h0 p2) rfl rfl ⟨Nat.le_of_ble_eq_true rfl, Nat.le_of_ble_eq_true rfl⟩ hB.1 h0 ro_46 rfl rfl hl.1 rfl (Nat.le_of_ble_eq_true rfl) gX12_orderValue_0.2.2.2.2.1 ⟨Nat.le_refl _, Nat.le_refl _⟩) hB.2.1 (fun v46 H46 locs hp hz hS => ?_)
    obtain ⟨x1, rfl, lx1, ux1, q46_0, q46_1, rfl⟩ := hp
    have hB := th_B_s hB hS
    replace hF := hF.trans (dv_bn2 (q46_1))
    refine W.eq (g2 := F0 m 49 ls [.int x1]) rfl ?_
    refine tr_if_eq (tgt := 63) hx hb gX12_orderValue_0.2.2.2.2.2.1 (by decide) (Eq.refl _) (fun c49 => ?_) (fun c49 => ?_)
    · replace hF := hF.trans (if_pos c49)
      refine lv_iconst (v := (-1)) hx hb gX12_orderValue_1.2.2.2.2.2.1 (by decide) ?_
      exact th_iret hC hH hr hlocks rfl hB.2.1 ⟨_, rfl, (hF0.symm.trans (hF.trans (by rw [tk_m1]))), rfl⟩ gX12_orderValue_1.2.2.2.2.2.2.1
    · replace hF := hF.trans (if_neg c49)
      refine lv_aload_n hx hb gX12_orderValue_0.2.2.2.2.2.2.1 rfl (lv_at hl 0 rfl) ?_
      refine th_getO (j := 2) (r2 := 48) hC cf_X12 hB.1 h0 ro_46 rfl rfl kf_X12_28 gX12_orderValue_0.2.2.2.2.2.2.2 (fun b2 mb2 hb2 => ?_)
      refine lv_iconst (v := 0) hx hb gX12_orderValue_1.1 (by decide) ?_
      refine lv_iload_n hx hb gX12_orderValue_1.2.1 rfl (lv_at hl 2 rfl) ?_
      refine tr_iadd hx hb gX12_orderValue_1.2.2.1 tk_0 (Eq.refl _) (by omega) (by omega) (fun x3 ex3 => ?_)
      replace hF := hF.trans (dv_bn (ex3.symm))
      refine th_ialdF hC hB.1 hb2 ro_48 rfl (Eq.refl _) (by omega) (by omega) (ek_a (by omega) (by omega)) gX12_orderValue_1.2.2.2.1 (fun x4 mx4 lx4 ux4 => ?_)
      replace hF := hF.trans (dv_bn (dv_aldI hB.1 hU hb2 ow_48 (z := x3.toInt) mx4 (by omega)))
      refine lv_goto (tgt := 64) hx hb gX12_orderValue_1.2.2.2.2.1 (by decide) ?_
      exact th_iret hC hH hr hlocks rfl hB.2.1 ⟨_, rfl, (hF0.symm.trans hF), rfl⟩ gX12_orderValue_1.2.2.2.2.2.2.1
  replace hF := hF.trans (if_neg k1_0)
  by_cases k1_1 : p1.toInt = 15
  · replace hF := hF.trans (if_pos k1_1)
    refine lv_tableIn (off := 90) (tgt := 91) hx hb gX12_orderValue_0.2.1 (by omega) (by omega) (by rw [show p1.toInt = 15 from k1_1]; decide) (by decide) ?_
    refine lv_aload_n hx hb gX12_orderValue_3.2.2.2.2.2.1 rfl (lv_at hl 0 rfl) ?_
    refine th_getO (j := 2) (r2 := 48) hC cf_X12 hB.1 h0 ro_46 rfl rfl kf_X12_28 gX12_orderValue_3.2.2.2.2.2.2.1 (fun b5 mb5 hb5 => ?_)
    refine lv_bipush (v := 28) hx hb gX12_orderValue_3.2.2.2.2.2.2.2 (by decide) ?_
    refine th_ialdF hC hB.1 hb5 ro_48 rfl tk_28 (by omega) (by omega) (ek_a (by omega) (by omega)) gX12_orderValue_4.1 (fun x6 mx6 lx6 ux6 => ?_)
    replace hF := hF.trans (dv_bn (dv_aldI hB.1 hU hb5 ow_48 (z := 28) mx6 (by omega)))
    exact th_iret hC hH hr hlocks rfl hB.2.1 ⟨_, rfl, (hF0.symm.trans hF), rfl⟩ gX12_orderValue_4.2.1
  replace hF := hF.trans (if_neg k1_1)
  by_cases k1_2 : p1.toInt = 16
  · replace hF := hF.trans (if_pos k1_2)
    refine lv_tableIn (off := 98) (tgt := 99) hx hb gX12_orderValue_0.2.1 (by omega) (by omega) (by rw [show p1.toInt = 16 from k1_2]; decide) (by decide) ?_
    refine lv_aload_n hx hb gX12_orderValue_4.2.2.1 rfl (lv_at hl 0 rfl) ?_
    refine th_getI (j := 27) hC cf_X12 hB.1 h0 ro_46 rfl rfl kf_X12_317 gX12_orderValue_4.2.2.2.1 (fun x7 mx7 lx7 ux7 => ?_)
    replace hF := hF.trans (dv_bn (dv_getI h0 ro_46 (j := 27) rfl mx7 (by decide)))
    exact th_iret hC hH hr hlocks rfl hB.2.1 ⟨_, rfl, (hF0.symm.trans hF), rfl⟩ gX12_orderValue_4.2.2.2.2.1
  replace hF := hF.trans (if_neg k1_2)
  by_cases k1_3 : p1.toInt = 17
  · replace hF := hF.trans (if_pos k1_3)
    refine lv_tableIn (off := 103) (tgt := 104) hx hb gX12_orderValue_0.2.1 (by omega) (by omega) (by rw [show p1.toInt = 17 from k1_3]; decide) (by decide) ?_
    refine lv_aload_n hx hb gX12_orderValue_4.2.2.2.2.2.1 rfl (lv_at hl 0 rfl) ?_
    refine th_getI (j := 28) hC cf_X12 hB.1 h0 ro_46 rfl rfl kf_X12_320 gX12_orderValue_4.2.2.2.2.2.2.1 (fun x8 mx8 lx8 ux8 => ?_)
    replace hF := hF.trans (dv_bn (dv_getI h0 ro_46 (j := 28) rfl mx8 (by decide)))
    exact th_iret hC hH hr hlocks rfl hB.2.1 ⟨_, rfl, (hF0.symm.trans hF), rfl⟩ gX12_orderValue_4.2.2.2.2.2.2.2
  replace hF := hF.trans (if_neg k1_3)
  by_cases k1_4 : p1.toInt = 18
  · replace hF := hF.trans (if_pos k1_4)
    refine lv_tableIn (off := 108) (tgt := 109) hx hb gX12_orderValue_0.2.1 (by omega) (by omega) (by rw [show p1.toInt = 18 from k1_4]; decide) (by decide) ?_
    refine lv_aload_n hx hb gX12_orderValue_5.1 rfl (lv_at hl 0 rfl) ?_
    refine th_call (th_runV (As := []) (rest := []) hC mf_X12_bareMany km_X12_323 im_X12_bareMany se_X12_bareMany (c_X12_bareMany l G Γ H0 hB.1 hU a0 h0) rfl rfl ⟨Nat.le_of_ble_eq_true rfl, Nat.le_of_ble_eq_true rfl⟩ hB.1 h0 ro_46 rfl rfl hl.1 rfl (Nat.le_of_ble_eq_true rfl) gX12_orderValue_5.2.1 ⟨Nat.le_refl _, Nat.le_refl _⟩) hB.2.1 (fun v110 H110 locs hp hz hS => ?_)
    obtain ⟨x9, rfl, lx9, ux9, q110_0, q110_1, rfl⟩ := hp
    have hB := th_B_s hB hS
    replace hF := hF.trans (dv_bn2 (q110_1))
    refine W.eq (g2 := F0 m 113 ls [.int x9]) rfl ?_
    exact th_iret hC hH hr hlocks rfl hB.2.1 ⟨_, rfl, (hF0.symm.trans hF), rfl⟩ gX12_orderValue_5.2.2.1
  replace hF := hF.trans (if_neg k1_4)
  by_cases k1_5 : p1.toInt = 19
  · replace hF := hF.trans (if_pos k1_5)
    refine lv_tableIn (off := 113) (tgt := 114) hx hb gX12_orderValue_0.2.1 (by omega) (by omega) (by rw [show p1.toInt = 19 from k1_5]; decide) (by decide) ?_
    refine lv_aload_n hx hb gX12_orderValue_5.2.2.2.1 rfl (lv_at hl 0 rfl) ?_
    refine th_getO (j := 2) (r2 := 48) hC cf_X12 hB.1 h0 ro_46 rfl rfl kf_X12_28 gX12_orderValue_5.2.2.2.2.1 (fun b10 mb10 hb10 => ?_)
    refine lv_bipush (v := 27) hx hb gX12_orderValue_5.2.2.2.2.2.1 (by decide) ?_
    refine th_ialdF hC hB.1 hb10 ro_48 rfl tk_27 (by omega) (by omega) (ek_a (by omega) (by omega)) gX12_orderValue_5.2.2.2.2.2.2.1 (fun x11 mx11 lx11 ux11 => ?_)
    replace hF := hF.trans (dv_bn (dv_aldI hB.1 hU hb10 ow_48 (z := 27) mx11 (by omega)))
    exact th_iret hC hH hr hlocks rfl hB.2.1 ⟨_, rfl, (hF0.symm.trans hF), rfl⟩ gX12_orderValue_5.2.2.2.2.2.2.2
  replace hF := hF.trans (if_neg k1_5)
  by_cases k1_6 : p1.toInt = 20
  · replace hF := hF.trans (if_pos k1_6)
    refine lv_tableIn (off := 64) (tgt := 65) hx hb gX12_orderValue_0.2.1 (by omega) (by omega) (by rw [show p1.toInt = 20 from k1_6]; decide) (by decide) ?_
    refine lv_aload_n hx hb gX12_orderValue_1.2.2.2.2.2.2.2 rfl (lv_at hl 0 rfl) ?_
    refine lv_iload_n hx hb gX12_orderValue_2.1 rfl (lv_at hl 2 rfl) ?_
    refine th_call (th_runV (As := [.int p2]) (rest := []) hC mf_X12_isCarpet km_X12_134 im_X12_isCarpet se_X12_isCarpet (c_X12_isCarpet l G Γ H0 hB.1 hU a0 h0 p2) rfl rfl ⟨Nat.le_of_ble_eq_true rfl, Nat.le_of_ble_eq_true rfl⟩ hB.1 h0 ro_46 rfl rfl hl.1 rfl (Nat.le_of_ble_eq_true rfl) gX12_orderValue_2.2.1 ⟨Nat.le_refl _, Nat.le_refl _⟩) hB.2.1 (fun v67 H67 locs hp hz hS => ?_)
    obtain ⟨x12, rfl, lx12, ux12, q67_0, q67_1, rfl⟩ := hp
    have hB := th_B_s hB hS
    replace hF := hF.trans (dv_bn2 (q67_1))
    refine W.eq (g2 := F0 m 70 ls [.int x12]) rfl ?_
    refine tr_if_ne (tgt := 77) hx hb gX12_orderValue_2.2.2.1 (by decide) (Eq.refl _) (fun c70 => ?_) (fun c70 => ?_)
    · replace hF := hF.trans (if_pos c70)
      refine lv_aload_n hx hb gX12_orderValue_2.2.2.2.2.2.1 rfl (lv_at hl 0 rfl) ?_
      refine lv_iload_n hx hb gX12_orderValue_2.2.2.2.2.2.2.1 rfl (lv_at hl 2 rfl) ?_
      refine th_call (th_runV (As := [.int p2]) (rest := []) hC mf_X12_isLaid km_X12_137 im_X12_isLaid se_X12_isLaid (c_X12_isLaid l G Γ H0 hB.1 hU a0 h0 p2 (by omega) (by omega)) rfl rfl ⟨Nat.le_of_ble_eq_true rfl, Nat.le_of_ble_eq_true rfl⟩ hB.1 h0 ro_46 rfl rfl hl.1 rfl (Nat.le_of_ble_eq_true rfl) gX12_orderValue_2.2.2.2.2.2.2.2 ⟨Nat.le_refl _, Nat.le_refl _⟩) hB.2.1 (fun v79 H79 locs hp hz hS => ?_)
      obtain ⟨x13, rfl, lx13, ux13, q79_0, q79_1, q79_2, rfl⟩ := hp
      have hB := th_B_s hB hS
      replace hF := hF.trans (dv_bn2 (q79_2))
      refine W.eq (g2 := F0 m 82 ls [.int x13]) rfl ?_
      refine tr_if_eq (tgt := 89) hx hb gX12_orderValue_3.1 (by decide) (Eq.refl _) (fun c82 => ?_) (fun c82 => ?_)
      · replace hF := hF.trans (if_pos c82)
        refine lv_iconst (v := 0) hx hb gX12_orderValue_3.2.2.2.1 (by decide) ?_
        exact th_iret hC hH hr hlocks rfl hB.2.1 ⟨_, rfl, (hF0.symm.trans (hF.trans (by rw [tk_0]))), rfl⟩ gX12_orderValue_3.2.2.2.2.1
      · replace hF := hF.trans (if_neg c82)
        refine lv_iconst (v := 1) hx hb gX12_orderValue_3.2.1 (by decide) ?_
        refine lv_goto (tgt := 90) hx hb gX12_orderValue_3.2.2.1 (by decide) ?_
        exact th_iret hC hH hr hlocks rfl hB.2.1 ⟨_, rfl, (hF0.symm.trans (hF.trans (by rw [tk_1]))), rfl⟩ gX12_orderValue_3.2.2.2.2.1
    · replace hF := hF.trans (if_neg (not_not_intro c70))
      refine lv_iconst (v := (-1)) hx hb gX12_orderValue_2.2.2.2.1 (by decide) ?_
      refine lv_goto (tgt := 90) hx hb gX12_orderValue_2.2.2.2.2.1 (by decide) ?_
      exact th_iret hC hH hr hlocks rfl hB.2.1 ⟨_, rfl, (hF0.symm.trans (hF.trans (by rw [tk_m1]))), rfl⟩ gX12_orderValue_3.2.2.2.2.1
  replace hF := hF.trans (if_neg k1_6)
  refine lv_tableOut (tgt := 114) hx hb gX12_orderValue_0.2.1 (by omega) (by decide) ?_
  refine lv_aload_n hx hb gX12_orderValue_5.2.2.2.1 rfl (lv_at hl 0 rfl) ?_
  refine th_getO (j := 2) (r2 := 48) hC cf_X12 hB.1 h0 ro_46 rfl rfl kf_X12_28 gX12_orderValue_5.2.2.2.2.1 (fun b14 mb14 hb14 => ?_)
  refine lv_bipush (v := 27) hx hb gX12_orderValue_5.2.2.2.2.2.1 (by decide) ?_
  refine th_ialdF hC hB.1 hb14 ro_48 rfl tk_27 (by omega) (by omega) (ek_a (by omega) (by omega)) gX12_orderValue_5.2.2.2.2.2.2.1 (fun x15 mx15 lx15 ux15 => ?_)
  replace hF := hF.trans (dv_bn (dv_aldI hB.1 hU hb14 ow_48 (z := 27) mx15 (by omega)))
  exact th_iret hC hH hr hlocks rfl hB.2.1 ⟨_, rfl, (hF0.symm.trans hF), rfl⟩ gX12_orderValue_5.2.2.2.2.2.2.2
end
section
def s_X12_partOf (d : Nat) : Prop := ∀ (l : Launch) (G : th_G) (Γ : th_Ga) (H0 : Heap) (hI : th_I G Γ H0) (hR : th_RC G Γ H0) (hU : dv_U Γ) (a0 : Nat) (h0 : Γ a0 = (46, 0)) (p1 : Int32) (f1 : 0 ≤ p1.toInt) (g1 : p1.toInt ≤ 1) (B i j : Int) (k1 : 0 ≤ B ∧ 0 ≤ i ∧ mo_f G H0 a0 22 = B + i ∧ mo_f G H0 a0 23 ≤ 2800) (k2 : mo_part (mo_f G H0 a0 25) (mo_ce G H0 a0 B) d i j), Met l yX12_partOf (.code yX12_partOf cX12_partOf 4 (some FieldType.long) :: th_tb) ({ frames := 10 + 3 * d, cells := 0, slots := 0, locals := 400 + d * 80 } : Room) (th_P [.ref a0, .int p1] G H0) (th_Q (fun (v : Option Value) (H1 : Heap) => ∃ r : Int64, v = some (.long r) ∧ th_I G Γ H1 ∧ th_F G Γ [(46, 22), (46, 24)] H0 H1 ∧ th_RC G Γ H1 ∧ (mo_f G H1 a0 22 = B + j) ∧ (f_X12_partOf d (dv G Γ H0) (a0 : Int) p1.toInt = (dv G Γ H1, r.toInt))) G) 0 0 (fun q => G.1.2.2 ≤ q)

def s_X12_termOf (d : Nat) : Prop := ∀ (l : Launch) (G : th_G) (Γ : th_Ga) (H0 : Heap) (hI : th_I G Γ H0) (hR : th_RC G Γ H0) (hU : dv_U Γ) (a0 : Nat) (h0 : Γ a0 = (46, 0)) (p1 : Int32) (f1 : 0 ≤ p1.toInt) (g1 : p1.toInt ≤ 1) (B i j : Int) (k1 : 0 ≤ B ∧ 0 ≤ i ∧ mo_f G H0 a0 22 = B + i ∧ mo_f G H0 a0 23 ≤ 2800) (k2 : mo_term (mo_f G H0 a0 25) (mo_ce G H0 a0 B) d i j), Met l yX12_termOf (.code yX12_termOf cX12_termOf 7 (some FieldType.long) :: th_tb) ({ frames := 11 + 3 * d, cells := 0, slots := 0, locals := 423 + d * 80 } : Room) (th_P [.ref a0, .int p1] G H0) (th_Q (fun (v : Option Value) (H1 : Heap) => ∃ r : Int64, v = some (.long r) ∧ th_I G Γ H1 ∧ th_F G Γ [(46, 22), (46, 24)] H0 H1 ∧ th_RC G Γ H1 ∧ (mo_f G H1 a0 22 = B + j) ∧ (f_X12_termOf d (dv G Γ H0) (a0 : Int) p1.toInt = (dv G Γ H1, r.toInt))) G) 0 0 (fun q => G.1.2.2 ≤ q)

def s_X12_sumOf (d : Nat) : Prop := ∀ (l : Launch) (G : th_G) (Γ : th_Ga) (H0 : Heap) (hI : th_I G Γ H0) (hR : th_RC G Γ H0) (hU : dv_U Γ) (a0 : Nat) (h0 : Γ a0 = (46, 0)) (p1 : Int32) (f1 : 0 ≤ p1.toInt) (g1 : p1.toInt ≤ 1) (B i j : Int) (k1 : 0 ≤ B ∧ 0 ≤ i ∧ mo_f G H0 a0 22 = B + i ∧ mo_f G H0 a0 23 ≤ 2800) (k2 : mo_sum (mo_f G H0 a0 25) (mo_ce G H0 a0 B) d i j), Met l yX12_sumOf (.code yX12_sumOf cX12_sumOf 7 (some FieldType.long) :: th_tb) ({ frames := 12 + 3 * d, cells := 0, slots := 0, locals := 449 + d * 80 } : Room) (th_P [.ref a0, .int p1] G H0) (th_Q (fun (v : Option Value) (H1 : Heap) => ∃ r : Int64, v = some (.long r) ∧ th_I G Γ H1 ∧ th_F G Γ [(46, 22), (46, 24)] H0 H1 ∧ th_RC G Γ H1 ∧ (mo_f G H1 a0 22 = B + j) ∧ (f_X12_sumOf d (dv G Γ H0) (a0 : Int) p1.toInt = (dv G Γ H1, r.toInt))) G) 0 0 (fun q => G.1.2.2 ≤ q)

set_option maxHeartbeats 4000000 in
set_option maxRecDepth 100000 in
theorem c_X12_partOf_s (d : Nat) (ihd : ∀ d', d = d' + 1 → s_X12_sumOf d') : s_X12_partOf d := by
  intro l G Γ H0 hI hR hU a0 h0 p1 f1 g1 B i j k1 k2
  refine th_met RX12 (by decide) rfl (Nat.le_of_ble_eq_true rfl) ?_
  intro p e s m below meth c hC hH hr hlocks hnm ls hl
  have hx := hC.1
  have hb := hC.2.1
  have hB : th_B G Γ Γ [(46, 22), (46, 24)] H0 H0 [] := ⟨hI, va_S.rf, th_F_rf⟩
  have hl : lv_has ls 4 [(0, .ref a0), (1, .int p1)] := hl
  have lp1 := ti_lo p1; have up1 := ti_hi p1
  obtain ⟨F, hF0⟩ : ∃ F, F = f_X12_partOf d (dv G Γ H0) ((a0 : Int)) (p1.toInt) := ⟨_, rfl⟩
  have hF := hF0.trans ((f_X12_partOf_d d (dv G Γ H0) ((a0 : Int)) (p1.toInt)).trans (f_X12_partOf_B.eq_1 d (dv_pre (fun _ _ _ => dv_z) f_X12_sumOf d) (dv G Γ H0) ((a0 : Int)) (p1.toInt)))
  refine lv_aload_n hx hb gX12_partOf_0.1 rfl (lv_at hl 0 rfl) ?_
  have po := mo_part_o k2
  refine lv_bipush (v := 91) hx hb gX12_partOf_0.2.1 (by decide) ?_
  refine th_call (th_runS (As := [.int 91]) (rest := [.ref a0]) hC mf_X12_sign km_X12_240 st_X12_sign (c_X12_sign l G Γ H0 hB.1 hU 91 (by decide) (by decide)) rfl rfl ⟨by dsimp only; omega, by dsimp only; omega⟩ rfl hl.1 rfl (Nat.le_of_ble_eq_true rfl) gX12_partOf_0.2.2.1 ⟨Nat.le_refl _, Nat.le_refl _⟩) hB.2.1 (fun v3 H3 locs hp hz hS => ?_)
  obtain ⟨x1, rfl, lx1, ux1, q3_0, q3_1, rfl⟩ := hp
  have hB := th_B_s hB hS
  have w3_0 := tk_91
  have zf3 := q3_1
  rw [tk_91] at zf3
  replace hF := hF.trans (dv_bn2 (zf3))
  refine W.eq (g2 := F0 m 6 ls [.int x1, .ref a0]) rfl ?_
  refine th_call (th_runV (As := [.int x1]) (rest := []) hC mf_X12_passes0 km_X12_305 im_X12_passes0 se_X12_passes0 (c_X12_passes0 l G Γ H0 hB.1 hR hU a0 h0 x1 (by omega) B i k1) rfl rfl ⟨by dsimp only; omega, by dsimp only; omega⟩ hB.1 h0 ro_46 rfl rfl hl.1 rfl (Nat.le_of_ble_eq_true rfl) gX12_partOf_0.2.2.2.1 ⟨Nat.le_refl _, Nat.le_refl _⟩) hB.2.1 (fun v6 H6 locs hp hz hS => ?_)
  obtain ⟨x2, rfl, lx2, ux2, hI1, hf, hR, z6_0, z6_1, z6_2⟩ := hp
  have hB := th_B_c hB hI1 hS hf (by decide)
  have fv_H6_23 : mo_f G H6 a0 23 = mo_f G H0 a0 23 := mo_f_F hf h0 (by decide) (by decide)
  have fv_H6_25 : mo_f G H6 a0 25 = mo_f G H0 a0 25 := mo_f_F hf h0 (by decide) (by decide)
  have vv_H6_2 : mo_v G H6 a0 2 = mo_v G H0 a0 2 := mo_v_F (r := 48) hB.1 hf h0 rfl ro_48 (by decide) (by decide)
  replace hF := hF.trans (dv_bn2 (z6_2))
  refine W.eq (g2 := F0 m 9 ls [.int x2]) rfl ?_
  refine tr_if_eq (tgt := 30) hx hb gX12_partOf_0.2.2.2.2.1 (by decide) (Eq.refl _) (fun c9 => ?_) (fun c9 => ?_)
  · replace hF := hF.trans (if_pos c9)
    refine lv_aload_n hx hb gX12_partOf_2.2.1 rfl (lv_at hl 0 rfl) ?_
    have w6 := z6_1 (by omega)
    refine lv_aload_n hx hb gX12_partOf_2.2.2.1 rfl (lv_at hl 0 rfl) ?_
    have lf := (po.resolve_right (fun q => (z6_1 (by omega)).2 (by rw [q.1]; omega))).2
    have lf1 := lf.1
    have lf2 := lf.2
    refine th_getI (j := 22) hC cf_X12 hB.1 h0 ro_46 rfl rfl kf_X12_281 gX12_partOf_2.2.2.2.1 (fun x3 mx3 lx3 ux3 => ?_)
    replace hF := hF.trans (dv_bn (dv_getI h0 ro_46 (j := 22) rfl mx3 (by decide)))
    have fg4 : mo_f G H6 a0 22 = x3.toInt := mo_fat mx3
    refine th_call (th_runV (As := [.int x3]) (rest := []) hC mf_X12_codeAt km_X12_284 im_X12_codeAt se_X12_codeAt (c_X12_codeAt l G Γ H6 hB.1 hU a0 h0 x3 (by omega) B (by omega) (by omega)) rfl rfl ⟨by dsimp only; omega, by dsimp only; omega⟩ hB.1 h0 ro_46 rfl rfl hl.1 rfl (Nat.le_of_ble_eq_true rfl) gX12_partOf_2.2.2.2.2.1 ⟨Nat.le_refl _, Nat.le_refl _⟩) hB.2.1 (fun v35 H35 locs hp hz hS => ?_)
    obtain ⟨x5, rfl, q35_0, q35_1, rfl⟩ := hp
    have hB := th_B_s hB hS
    replace hF := hF.trans (dv_bn2 (q35_1))
    refine W.eq (g2 := F0 m 38 ls [.int x5]) rfl ?_
    have cd35 : mo_ce G H0 a0 B i = x5.toInt := by have q9 := q35_0; rw [mo_ce_F hB.1 hB.2.2 h0 (by decide)] at q9; rw [q9]; congr 1; omega
    refine lv_istore_n (lv' := [(2, .int x5), (0, .ref a0), (1, .int p1)]) hx hb gX12_partOf_2.2.2.2.2.2.1 rfl hl (by decide) rfl (fun ls hl => ?_)
    refine lv_iconst (v := 0) hx hb gX12_partOf_2.2.2.2.2.2.2.1 (by decide) ?_
    refine lv_istore_n (lv' := [(3, .int 0), (2, .int x5), (0, .ref a0), (1, .int p1)]) hx hb gX12_partOf_2.2.2.2.2.2.2.2 rfl hl (by decide) rfl (fun ls hl => ?_)
    refine lv_aload_n hx hb gX12_partOf_3.1 rfl (lv_at hl 2 rfl) ?_
    refine lv_dup hx hb gX12_partOf_3.2.1 rfl ?_
    refine th_getK hC cf_X12 hB.1 h0 ro_46 rfl (j := 22) (by decide) mx3 kf_X12_281 gX12_partOf_3.2.2.1 ?_
    replace hF := hF.trans (dv_bn (dv_getI h0 ro_46 (j := 22) rfl mx3 (by decide)))
    have fg6 : mo_f G H6 a0 22 = x3.toInt := mo_fat mx3
    have nz43 := mo_ce_nz (show mo_ce G H0 a0 B i ≠ 0 by omega)
    refine lv_iconst (v := 1) hx hb gX12_partOf_3.2.2.2.1 (by decide) ?_
    refine tr_iadd hx hb gX12_partOf_3.2.2.2.2.1 (Eq.refl _) tk_1 (by omega) (by omega) (fun x7 ex7 => ?_)
    replace hF := hF.trans (dv_bn (ex7.symm))
    refine th_put hC cf_X12 hB h0 (Or.inl h0) ro_46 rfl (j := 22) rfl th_sIa (by decide) rfl rfl rfl kf_X12_281 gX12_partOf_3.2.2.2.2.2.1 (fun H48 locs hB hf hst48 => ?_)
    have hR := th_RC_F hB.1 hR hf (th_T_s h0 ro_46 hst48) (by decide)
    have fv_H48_23 : mo_f G H48 a0 23 = mo_f G H6 a0 23 := mo_f_F hf h0 (by decide) (by decide)
    have fv_H48_25 : mo_f G H48 a0 25 = mo_f G H6 a0 25 := mo_f_F hf h0 (by decide) (by decide)
    have vv_H48_2 : mo_v G H48 a0 2 = mo_v G H6 a0 2 := mo_v_F (r := 48) hB.1 hf h0 rfl ro_48 (by decide) (by decide)
    replace hF := hF.trans (dv_bn (dv_putI hB.1 h0 ro_46 (j := 22) rfl (th_apart hC cf_X12) hst48 (Eq.refl _) (by decide)))
    have fp48 : mo_f G H48 a0 22 = x7.toInt := mo_f_St hst48
    have mm8 := hst48.2.1
    refine lv_aload_n hx hb gX12_partOf_3.2.2.2.2.2.2.1 rfl (lv_at hl 2 rfl) ?_
    refine th_getI (j := 25) hC cf_X12 hB.1 h0 ro_46 rfl rfl kf_X12_311 gX12_partOf_3.2.2.2.2.2.2.2 (fun x9 mx9 lx9 ux9 => ?_)
    replace hF := hF.trans (dv_bn (dv_getI h0 ro_46 (j := 25) rfl mx9 (by decide)))
    have fg10 : mo_f G H48 a0 25 = x9.toInt := mo_fat mx9
    have sx9 := (th_F_o hB.2.2 h0 ro_46 (j := 25) (by decide) (by decide)).symm.trans mx9
    have jn94 : ∀ (H94 : Heap) (locs : List Loc) (ls : Array Slot) (j94_3 : Int32), th_B G Γ Γ [(46, 22), (46, 24)] H0 H94 locs → th_RC G Γ H94 → lv_has ls 4 [(2, .int x5), (0, .ref a0), (1, .int p1), (3, .int j94_3)] → F = f_X12_partOf_94 d (dv_pre (fun _ _ _ => dv_z) f_X12_sumOf d) (dv G Γ H94) (x5.toInt) ((a0 : Int)) (p1.toInt) (j94_3.toInt) → mo_f G H94 a0 22 = B + j → W p l e ({ frames := 10 + 3 * d, cells := 0, slots := 0, locals := 400 + d * 80 } : Room) s m ([.ref a0, .int p1] : List Value).toArray below meth c H94 locs 0 0 (MQ below (th_Q (fun (v : Option Value) (H1 : Heap) => ∃ r : Int64, v = some (.long r) ∧ th_I G Γ H1 ∧ th_F G Γ [(46, 22), (46, 24)] H0 H1 ∧ th_RC G Γ H1 ∧ (mo_f G H1 a0 22 = B + j) ∧ (f_X12_partOf d (dv G Γ H0) (a0 : Int) p1.toInt = (dv G Γ H1, r.toInt))) G) ([.ref a0, .int p1] : List Value).toArray s 0 0 (fun q => G.1.2.2 ≤ q)) (F0 m 94 ls []) := by
      intro H94 locs ls j94_3 hB hR hl hF g94_0
      have lj94_3 := ti_lo j94_3; have uj94_3 := ti_hi j94_3
      have mm11 := (th_F_o hB.2.2 h0 ro_46 (j := 25) (by decide) (by decide)).trans sx9
      have fv12_23 : mo_f G H94 a0 23 = mo_f G H0 a0 23 := mo_f_F hB.2.2 h0 (by decide) (by decide)
      have fv13_25 : mo_f G H94 a0 25 = mo_f G H0 a0 25 := mo_f_F hB.2.2 h0 (by decide) (by decide)
      have vw_H94_2 : mo_v G H94 a0 2 = mo_v G H0 a0 2 := mo_v_F (r := 48) hB.1 hB.2.2 h0 rfl ro_48 (by decide) (by decide)
      replace hF := hF.trans (f_X12_partOf_94.eq_1 d (dv_pre (fun _ _ _ => dv_z) f_X12_sumOf d) (dv G Γ H94) (x5.toInt) ((a0 : Int)) (p1.toInt) (j94_3.toInt))
      refine lv_iload_n hx hb gX12_partOf_6.2.2.2.2.2.1 rfl (lv_at hl 2 rfl) ?_
      refine tr_if_eq (tgt := 105) hx hb gX12_partOf_6.2.2.2.2.2.2.1 (by decide) (Eq.refl _) (fun c95 => ?_) (fun c95 => ?_)
      · replace hF := hF.trans (if_pos c95)
        refine lv_lconst (v := 0) hx hb gX12_partOf_7.2.2.1 rfl ?_
        exact th_lret hC hH hr hlocks hB.2.1 ⟨_, rfl, hB.1, hB.2.2, hR, by omega, (hF0.symm.trans (hF.trans (by rw [show (0 : Int64).toInt = 0 from rfl])))⟩ gX12_partOf_7.2.2.2.1
      · replace hF := hF.trans (if_neg c95)
        refine lv_aload_n hx hb gX12_partOf_6.2.2.2.2.2.2.2 rfl (lv_at hl 1 rfl) ?_
        refine th_getI (j := 24) hC cf_X12 hB.1 h0 ro_46 rfl rfl kf_X12_291 gX12_partOf_7.1 (fun x14 mx14 lx14 ux14 => ?_)
        replace hF := hF.trans (dv_bn (dv_getI h0 ro_46 (j := 24) rfl mx14 (by decide)))
        refine tr_if_eq (tgt := 107) hx hb gX12_partOf_7.2.1 (by decide) (Eq.refl _) (fun c102 => ?_) (fun c102 => ?_)
        · replace hF := hF.trans (if_pos c102)
          refine lv_iload_n hx hb gX12_partOf_7.2.2.2.2.1 rfl (lv_at hl 0 rfl) ?_
          refine lv_bipush (v := 50) hx hb gX12_partOf_7.2.2.2.2.2.1 (by decide) ?_
          refine tr_icmp_ne (tgt := 130) hx hb gX12_partOf_7.2.2.2.2.2.2.1 (by decide) (Eq.refl _) tk_50 (fun c110 => ?_) (fun c110 => ?_)
          · replace hF := hF.trans (if_pos c110)
            refine lv_aload_n hx hb gX12_partOf_9.2.2.1 rfl (lv_at hl 1 rfl) ?_
            refine th_getK hC cf_X12 hB.1 h0 ro_46 rfl (j := 25) (by decide) mm11 kf_X12_311 gX12_partOf_9.2.2.2.1 ?_
            replace hF := hF.trans (dv_bn (dv_getI h0 ro_46 (j := 25) rfl mm11 (by decide)))
            have fg15 : mo_f G H94 a0 25 = x9.toInt := mo_fat mm11
            refine tr_if_eq (tgt := 147) hx hb gX12_partOf_9.2.2.2.2.1 (by decide) (Eq.refl _) (fun c134 => ?_) (fun c134 => ?_)
            · replace hF := hF.trans (if_pos c134)
              refine lv_aload_n hx hb gX12_partOf_10.2.2.2.1 rfl (lv_at hl 1 rfl) ?_
              refine th_getO (j := 26) (r2 := 58) hC cf_X12 hB.1 h0 ro_46 rfl rfl kf_X12_63 gX12_partOf_10.2.2.2.2.1 (fun b16 mb16 hb16 => ?_)
              refine lv_iload_n hx hb gX12_partOf_10.2.2.2.2.2.1 rfl (lv_at hl 0 rfl) ?_
              refine lv_bipush (v := 8) hx hb gX12_partOf_10.2.2.2.2.2.2.1 (by decide) ?_
              refine tr_isub hx hb gX12_partOf_10.2.2.2.2.2.2.2 (Eq.refl _) tk_8 (by omega) (by omega) (fun x17 ex17 => ?_)
              replace hF := hF.trans (dv_bn (ex17.symm))
              refine th_ialdF hC hB.1 hb16 ro_58 rfl (Eq.refl _) (by omega) (by omega) rfl gX12_partOf_11.1 (fun x18 mx18 lx18 ux18 => ?_)
              replace hF := hF.trans (dv_bn (dv_aldI hB.1 hU hb16 ow_58 (z := x17.toInt) mx18 (by omega)))
              refine lv_i2l hx hb gX12_partOf_11.2.1 rfl ?_
              refine lv_topl (fun y19 ey19 => ?_)
              replace hF := hF.trans (dv_bn (dv_i2l_e (Eq.refl _) ey19))
              exact th_lret hC hH hr hlocks hB.2.1 ⟨_, rfl, hB.1, hB.2.2, hR, by omega, (hF0.symm.trans hF)⟩ gX12_partOf_11.2.2
            · replace hF := hF.trans (if_neg c134)
              refine lv_aload_n hx hb gX12_partOf_9.2.2.2.2.2.1 rfl (lv_at hl 1 rfl) ?_
              refine lv_iload_n hx hb gX12_partOf_9.2.2.2.2.2.2.1 rfl (lv_at hl 0 rfl) ?_
              refine lv_iload_n hx hb gX12_partOf_9.2.2.2.2.2.2.2 rfl (lv_at hl 3 rfl) ?_
              refine th_call (th_runV (As := [.int x5, .int j94_3]) (rest := []) hC mf_X12_orderValue km_X12_314 im_X12_orderValue se_X12_orderValue (c_X12_orderValue l G Γ H94 hB.1 hU a0 h0 x5 j94_3) rfl rfl ⟨by dsimp only; omega, by dsimp only; omega⟩ hB.1 h0 ro_46 rfl rfl hl.1 rfl (Nat.le_of_ble_eq_true rfl) gX12_partOf_10.1 ⟨Nat.le_refl _, Nat.le_refl _⟩) hB.2.1 (fun v140 H140 locs hp hz hS => ?_)
              obtain ⟨x20, rfl, q140_0, rfl⟩ := hp
              have hB := th_B_s hB hS
              replace hF := hF.trans (dv_bn2 (q140_0))
              refine W.eq (g2 := F0 m 143 ls [.int x20]) rfl ?_
              refine lv_i2l hx hb gX12_partOf_10.2.1 rfl ?_
              refine lv_topl (fun y21 ey21 => ?_)
              replace hF := hF.trans (dv_bn (dv_i2l_e (Eq.refl _) ey21))
              refine lv_goto (tgt := 157) hx hb gX12_partOf_10.2.2.1 (by decide) ?_
              exact th_lret hC hH hr hlocks hB.2.1 ⟨_, rfl, hB.1, hB.2.2, hR, by omega, (hF0.symm.trans hF)⟩ gX12_partOf_11.2.2
          · replace hF := hF.trans (if_neg (not_not_intro c110))
            refine lv_aload_n hx hb gX12_partOf_7.2.2.2.2.2.2.2 rfl (lv_at hl 1 rfl) ?_
            refine th_getO (j := 2) (r2 := 48) hC cf_X12 hB.1 h0 ro_46 rfl rfl kf_X12_28 gX12_partOf_8.1 (fun b22 mb22 hb22 => ?_)
            refine lv_sipush (v := 2880) hx hb gX12_partOf_8.2.1 (by decide) ?_
            refine lv_aload_n hx hb gX12_partOf_8.2.2.1 rfl (lv_at hl 1 rfl) ?_
            refine th_getI (j := 22) hC cf_X12 hB.1 h0 ro_46 rfl rfl kf_X12_281 gX12_partOf_8.2.2.2.1 (fun x23 mx23 lx23 ux23 => ?_)
            replace hF := hF.trans (dv_bn (dv_getI h0 ro_46 (j := 22) rfl mx23 (by decide)))
            have fg24 : mo_f G H94 a0 22 = x23.toInt := mo_fat mx23
            refine tr_iadd hx hb gX12_partOf_8.2.2.2.2.1 tk_2880 (Eq.refl _) (by omega) (by omega) (fun x25 ex25 => ?_)
            replace hF := hF.trans (dv_bn (ex25.symm))
            refine lv_iconst (v := 1) hx hb gX12_partOf_8.2.2.2.2.2.1 (by decide) ?_
            refine tr_isub hx hb gX12_partOf_8.2.2.2.2.2.2.1 (Eq.refl _) tk_1 (by omega) (by omega) (fun x26 ex26 => ?_)
            replace hF := hF.trans (dv_bn (ex26.symm))
            refine th_ialdF hC hB.1 hb22 ro_48 rfl (Eq.refl _) (by omega) (by omega) (ek_c (by omega) (by omega)) gX12_partOf_8.2.2.2.2.2.2.2 (fun x27 mx27 lx27 ux27 => ?_)
            replace hF := hF.trans (dv_bn (dv_aldI hB.1 hU hb22 ow_48 (z := x26.toInt) mx27 (by omega)))
            have vgx27 : mo_v G H0 a0 2 ((2880 + x23.toInt) - 1) = x27.toInt := by rw [← (mo_v_F (r := 48) hB.1 hB.2.2 h0 rfl ro_48 (by decide) (by decide) : mo_v G H94 a0 2 = _)]; rw [show (((2880 + x23.toInt) - 1) : Int) = x26.toInt by omega]; exact mo_vat mb22 mx27 (by omega)
            refine lv_i2l hx hb gX12_partOf_9.1 rfl ?_
            refine lv_topl (fun y28 ey28 => ?_)
            replace hF := hF.trans (dv_bn (dv_i2l_e (Eq.refl _) ey28))
            exact th_lret hC hH hr hlocks hB.2.1 ⟨_, rfl, hB.1, hB.2.2, hR, by omega, (hF0.symm.trans hF)⟩ gX12_partOf_9.2.1
        · replace hF := hF.trans (if_neg c102)
          refine lv_lconst (v := 0) hx hb gX12_partOf_7.2.2.1 rfl ?_
          exact th_lret hC hH hr hlocks hB.2.1 ⟨_, rfl, hB.1, hB.2.2, hR, by omega, (hF0.symm.trans (hF.trans (by rw [show (0 : Int64).toInt = 0 from rfl])))⟩ gX12_partOf_7.2.2.2.1
    refine tr_if_eq (tgt := 94) hx hb gX12_partOf_4.1 (by decide) (Eq.refl _) (fun c55 => ?_) (fun c55 => ?_)
    · replace hF := hF.trans (if_pos c55)
      exact jn94 H48 locs ls 0 hB hR (lv_sub hl [1, 2, 3, 0] rfl) (by rw [tk_0]; exact hF) (by have w0 := tk_0; omega)
    · replace hF := hF.trans (if_neg c55)
      refine lv_iload_n hx hb gX12_partOf_4.2.1 rfl (lv_at hl 1 rfl) ?_
      refine lv_bipush (v := 14) hx hb gX12_partOf_4.2.2.1 (by decide) ?_
      have jn70 : ∀ (locs : List Loc) (ls : Array Slot) , th_B G Γ Γ [(46, 22), (46, 24)] H0 H48 locs → lv_has ls 4 [(2, .int x5), (0, .ref a0), (1, .int p1)] → F = f_X12_partOf_70 d (dv_pre (fun _ _ _ => dv_z) f_X12_sumOf d) (dv G Γ H48) (x5.toInt) ((a0 : Int)) (p1.toInt) → x5.toInt = 14 ∨ x5.toInt = 20 → W p l e ({ frames := 10 + 3 * d, cells := 0, slots := 0, locals := 400 + d * 80 } : Room) s m ([.ref a0, .int p1] : List Value).toArray below meth c H48 locs 0 0 (MQ below (th_Q (fun (v : Option Value) (H1 : Heap) => ∃ r : Int64, v = some (.long r) ∧ th_I G Γ H1 ∧ th_F G Γ [(46, 22), (46, 24)] H0 H1 ∧ th_RC G Γ H1 ∧ (mo_f G H1 a0 22 = B + j) ∧ (f_X12_partOf d (dv G Γ H0) (a0 : Int) p1.toInt = (dv G Γ H1, r.toInt))) G) ([.ref a0, .int p1] : List Value).toArray s 0 0 (fun q => G.1.2.2 ≤ q)) (F0 m 70 ls []) := by
        intro locs ls hB hl hF g70_0
        replace hF := hF.trans (f_X12_partOf_70.eq_1 d (dv_pre (fun _ _ _ => dv_z) f_X12_sumOf d) (dv G Γ H48) (x5.toInt) ((a0 : Int)) (p1.toInt))
        refine lv_aload_n hx hb gX12_partOf_4.2.2.2.2.2.2.2 rfl (lv_at hl 1 rfl) ?_
        refine th_getO (j := 2) (r2 := 48) hC cf_X12 hB.1 h0 ro_46 rfl rfl kf_X12_28 gX12_partOf_5.1 (fun b29 mb29 hb29 => ?_)
        have sb29 := (th_F_o hB.2.2 h0 ro_46 (j := 2) (by decide) (by decide)).symm.trans mb29
        refine lv_sipush (v := 2880) hx hb gX12_partOf_5.2.1 (by decide) ?_
        refine lv_aload_n hx hb gX12_partOf_5.2.2.1 rfl (lv_at hl 1 rfl) ?_
        refine th_getK hC cf_X12 hB.1 h0 ro_46 rfl (j := 22) (by decide) mm8 kf_X12_281 gX12_partOf_5.2.2.2.1 ?_
        replace hF := hF.trans (dv_bn (dv_getI h0 ro_46 (j := 22) rfl mm8 (by decide)))
        have fg30 : mo_f G H48 a0 22 = x7.toInt := mo_fat mm8
        have nz78 := mo_ce_nz (show mo_ce G H0 a0 B (i + 1) ≠ 0 by omega)
        refine tr_iadd hx hb gX12_partOf_5.2.2.2.2.1 tk_2880 (Eq.refl _) (by omega) (by omega) (fun x31 ex31 => ?_)
        replace hF := hF.trans (dv_bn (ex31.symm))
        refine th_ialdF hC hB.1 hb29 ro_48 rfl (Eq.refl _) (by omega) (by omega) (ek_c (by omega) (by omega)) gX12_partOf_5.2.2.2.2.2.1 (fun x32 mx32 lx32 ux32 => ?_)
        replace hF := hF.trans (dv_bn (dv_aldI hB.1 hU hb29 ow_48 (z := x31.toInt) mx32 (by omega)))
        have vgx32 : mo_v G H0 a0 2 (2880 + (x3.toInt + 1)) = x32.toInt := by rw [← (mo_v_F (r := 48) hB.1 hB.2.2 h0 rfl ro_48 (by decide) (by decide) : mo_v G H48 a0 2 = _)]; rw [show ((2880 + (x3.toInt + 1)) : Int) = x31.toInt by omega]; exact mo_vat mb29 mx32 (by omega)
        refine lv_istore_n (lv' := [(3, .int x32), (2, .int x5), (0, .ref a0), (1, .int p1)]) hx hb gX12_partOf_5.2.2.2.2.2.2.1 rfl hl (by decide) rfl (fun ls hl => ?_)
        refine lv_aload_n hx hb gX12_partOf_5.2.2.2.2.2.2.2 rfl (lv_at hl 2 rfl) ?_
        refine lv_dup hx hb gX12_partOf_6.1 rfl ?_
        refine th_getK hC cf_X12 hB.1 h0 ro_46 rfl (j := 22) (by decide) mm8 kf_X12_281 gX12_partOf_6.2.1 ?_
        replace hF := hF.trans (dv_bn (dv_getI h0 ro_46 (j := 22) rfl mm8 (by decide)))
        have fg33 : mo_f G H48 a0 22 = x7.toInt := mo_fat mm8
        refine lv_iconst (v := 1) hx hb gX12_partOf_6.2.2.1 (by decide) ?_
        refine tr_iadd hx hb gX12_partOf_6.2.2.2.1 (Eq.refl _) tk_1 (by omega) (by omega) (fun x34 ex34 => ?_)
        replace hF := hF.trans (dv_bn (ex34.symm))
        refine th_put hC cf_X12 hB h0 (Or.inl h0) ro_46 rfl (j := 22) rfl th_sIa (by decide) rfl rfl rfl kf_X12_281 gX12_partOf_6.2.2.2.2.1 (fun H91 locs hB hf hst91 => ?_)
        have mm35 := (th_F_o hf h0 ro_46 (j := 25) (by decide) (by decide)).trans mx9
        have mm36 := (th_F_o hf h0 ro_46 (j := 2) (by decide) (by decide)).trans mb29
        have hR := th_RC_F hB.1 hR hf (th_T_s h0 ro_46 hst91) (by decide)
        have fv_H91_23 : mo_f G H91 a0 23 = mo_f G H48 a0 23 := mo_f_F hf h0 (by decide) (by decide)
        have fv_H91_25 : mo_f G H91 a0 25 = mo_f G H48 a0 25 := mo_f_F hf h0 (by decide) (by decide)
        have vv_H91_2 : mo_v G H91 a0 2 = mo_v G H48 a0 2 := mo_v_F (r := 48) hB.1 hf h0 rfl ro_48 (by decide) (by decide)
        replace hF := hF.trans (dv_bn (dv_putI hB.1 h0 ro_46 (j := 22) rfl (th_apart hC cf_X12) hst91 (Eq.refl _) (by decide)))
        have fp91 : mo_f G H91 a0 22 = x34.toInt := mo_f_St hst91
        have mm37 := hst91.2.1
        exact jn94 H91 locs ls x32 hB hR (lv_sub hl [1, 2, 3, 0] rfl) hF (by omega)
      refine tr_icmp_eq (tgt := 70) hx hb gX12_partOf_4.2.2.2.1 (by decide) (Eq.refl _) tk_14 (fun c61 => ?_) (fun c61 => ?_)
      · replace hF := hF.trans (if_pos c61)
        exact jn70 locs ls hB (lv_sub hl [1, 2, 3] rfl) hF (by omega)
      · replace hF := hF.trans (if_neg c61)
        refine lv_iload_n hx hb gX12_partOf_4.2.2.2.2.1 rfl (lv_at hl 1 rfl) ?_
        refine lv_bipush (v := 20) hx hb gX12_partOf_4.2.2.2.2.2.1 (by decide) ?_
        refine tr_icmp_ne (tgt := 94) hx hb gX12_partOf_4.2.2.2.2.2.2.1 (by decide) (Eq.refl _) tk_20 (fun c67 => ?_) (fun c67 => ?_)
        · replace hF := hF.trans (if_pos c67)
          exact jn94 H48 locs ls 0 hB hR (lv_sub hl [1, 2, 3, 0] rfl) (by rw [tk_0]; exact hF) (by have w0 := tk_0; omega)
        · replace hF := hF.trans (if_neg (not_not_intro c67))
          exact jn70 locs ls hB (lv_sub hl [1, 2, 3] rfl) hF (by omega)
  · replace hF := hF.trans (if_neg c9)
    refine lv_aload_n hx hb gX12_partOf_0.2.2.2.2.2.1 rfl (lv_at hl 0 rfl) ?_
    refine lv_iload_n hx hb gX12_partOf_0.2.2.2.2.2.2.1 rfl (lv_at hl 1 rfl) ?_
    obtain ⟨d', j1, hd', s1, e1, e2⟩ := (po.resolve_left (fun q => q.1 (by have w9 := (z6_0 (by omega)).2; omega))).2
    refine th_call (th_runV (As := [.int p1]) (rest := []) hC mf_X12_sumOf km_X12_308 im_X12_sumOf se_X12_sumOf (ihd d' hd' l G Γ H6 hB.1 hR hU a0 h0 p1 (by omega) (by omega) B (i + 1) j1 (by have w9 := z6_0 (by omega); exact ⟨by omega, by omega, by omega, by omega⟩) (by rw [mo_f_F hB.2.2 h0 (j := 25) (by decide) (by decide), mo_ce_F hB.1 hB.2.2 h0 (by decide)]; exact s1)) rfl rfl ⟨by dsimp only; omega, by dsimp only; omega⟩ hB.1 h0 ro_46 rfl rfl hl.1 rfl (Nat.le_of_ble_eq_true rfl) gX12_partOf_0.2.2.2.2.2.2.2 ⟨Nat.le_refl _, Nat.le_refl _⟩) hB.2.1 (fun v14 H14 locs hp hz hS => ?_)
    obtain ⟨y38, rfl, hI1, hf, hR, z14_0, z14_1⟩ := hp
    have hB := th_B_c hB hI1 hS hf (by decide)
    have fv_H14_23 : mo_f G H14 a0 23 = mo_f G H6 a0 23 := mo_f_F hf h0 (by decide) (by decide)
    have fv_H14_25 : mo_f G H14 a0 25 = mo_f G H6 a0 25 := mo_f_F hf h0 (by decide) (by decide)
    have vv_H14_2 : mo_v G H14 a0 2 = mo_v G H6 a0 2 := mo_v_F (r := 48) hB.1 hf h0 rfl ro_48 (by decide) (by decide)
    have zf14 := z14_1
    rw [← dv_pre_s (z := (fun _ _ _ => dv_z)) (f := f_X12_sumOf) hd'] at zf14
    replace hF := hF.trans (dv_bn2 (zf14))
    refine W.eq (g2 := F0 m 17 ls [.long y38]) rfl ?_
    refine lv_lstore_n (lv' := [(2, .long y38), (0, .ref a0), (1, .int p1)]) hx hb gX12_partOf_1.1 rfl hl (by decide) rfl (fun ls hl => ?_)
    refine lv_aload_n hx hb gX12_partOf_1.2.1 rfl (lv_at hl 1 rfl) ?_
    refine lv_dup hx hb gX12_partOf_1.2.2.1 rfl ?_
    refine th_getI (j := 22) hC cf_X12 hB.1 h0 ro_46 rfl rfl kf_X12_281 gX12_partOf_1.2.2.2.1 (fun x39 mx39 lx39 ux39 => ?_)
    replace hF := hF.trans (dv_bn (dv_getI h0 ro_46 (j := 22) rfl mx39 (by decide)))
    have fg40 : mo_f G H14 a0 22 = x39.toInt := mo_fat mx39
    have nz20 := mo_ce_nz (show mo_ce G H0 a0 B j1 ≠ 0 by omega)
    refine lv_iconst (v := 1) hx hb gX12_partOf_1.2.2.2.2.1 (by decide) ?_
    refine tr_iadd hx hb gX12_partOf_1.2.2.2.2.2.1 (Eq.refl _) tk_1 (by omega) (by omega) (fun x41 ex41 => ?_)
    replace hF := hF.trans (dv_bn (ex41.symm))
    refine th_put hC cf_X12 hB h0 (Or.inl h0) ro_46 rfl (j := 22) rfl th_sIa (by decide) rfl rfl rfl kf_X12_281 gX12_partOf_1.2.2.2.2.2.2.1 (fun H25 locs hB hf hst25 => ?_)
    have hR := th_RC_F hB.1 hR hf (th_T_s h0 ro_46 hst25) (by decide)
    have fv_H25_23 : mo_f G H25 a0 23 = mo_f G H14 a0 23 := mo_f_F hf h0 (by decide) (by decide)
    have fv_H25_25 : mo_f G H25 a0 25 = mo_f G H14 a0 25 := mo_f_F hf h0 (by decide) (by decide)
    have vv_H25_2 : mo_v G H25 a0 2 = mo_v G H14 a0 2 := mo_v_F (r := 48) hB.1 hf h0 rfl ro_48 (by decide) (by decide)
    replace hF := hF.trans (dv_bn (dv_putI hB.1 h0 ro_46 (j := 22) rfl (th_apart hC cf_X12) hst25 (Eq.refl _) (by decide)))
    have fp25 : mo_f G H25 a0 22 = x41.toInt := mo_f_St hst25
    refine lv_lload_n hx hb gX12_partOf_1.2.2.2.2.2.2.2 rfl (lv_at hl 0 rfl) ?_
    exact th_lret hC hH hr hlocks hB.2.1 ⟨_, rfl, hB.1, hB.2.2, hR, by omega, (hF0.symm.trans hF)⟩ gX12_partOf_2.1

set_option maxHeartbeats 4000000 in
set_option maxRecDepth 100000 in
theorem c_X12_termOf_s (d : Nat) (ihp : s_X12_partOf d) : s_X12_termOf d := by
  intro l G Γ H0 hI hR hU a0 h0 p1 f1 g1 B i j k1 k2
  refine th_met RX12 (by decide) rfl (Nat.le_of_ble_eq_true rfl) ?_
  intro p e s m below meth c hC hH hr hlocks hnm ls hl
  have hx := hC.1
  have hb := hC.2.1
  have hB : th_B G Γ Γ [(46, 22), (46, 24)] H0 H0 [] := ⟨hI, va_S.rf, th_F_rf⟩
  have hl : lv_has ls 7 [(0, .ref a0), (1, .int p1)] := hl
  have lp1 := ti_lo p1; have up1 := ti_hi p1
  obtain ⟨F, hF0⟩ : ∃ F, F = f_X12_termOf d (dv G Γ H0) ((a0 : Int)) (p1.toInt) := ⟨_, rfl⟩
  have hF := hF0.trans ((f_X12_termOf_d d (dv G Γ H0) ((a0 : Int)) (p1.toInt)).trans (f_X12_termOf_B.eq_1 d (f_X12_partOf d) (dv G Γ H0) ((a0 : Int)) (p1.toInt)))
  refine lv_aload_n hx hb gX12_termOf_0.1 rfl (lv_at hl 0 rfl) ?_
  obtain ⟨m1, p1_, r1⟩ := mo_chain_open k2
  have lt1 := mo_part_lt _ _ _ _ _ p1_
  refine lv_iload_n hx hb gX12_termOf_0.2.1 rfl (lv_at hl 1 rfl) ?_
  refine th_call (th_runV (As := [.int p1]) (rest := []) hC mf_X12_partOf km_X12_302 im_X12_partOf se_X12_partOf (ihp l G Γ H0 hB.1 hR hU a0 h0 p1 (by omega) (by omega) B i m1 k1 p1_) rfl rfl ⟨by dsimp only; omega, by dsimp only; omega⟩ hB.1 h0 ro_46 rfl rfl hl.1 rfl (Nat.le_of_ble_eq_true rfl) gX12_termOf_0.2.2.1 ⟨Nat.le_refl _, Nat.le_refl _⟩) hB.2.1 (fun v2 H2 locs hp hz hS => ?_)
  obtain ⟨y1, rfl, hI1, hf, hR, z2_0, z2_1⟩ := hp
  have hB := th_B_c hB hI1 hS hf (by decide)
  have fv_H2_23 : mo_f G H2 a0 23 = mo_f G H0 a0 23 := mo_f_F hf h0 (by decide) (by decide)
  have fv_H2_25 : mo_f G H2 a0 25 = mo_f G H0 a0 25 := mo_f_F hf h0 (by decide) (by decide)
  replace hF := hF.trans (dv_bn2 (z2_1))
  refine W.eq (g2 := F0 m 5 ls [.long y1]) rfl ?_
  refine lv_lstore_n (lv' := [(2, .long y1), (0, .ref a0), (1, .int p1)]) hx hb gX12_termOf_0.2.2.2.1 rfl hl (by decide) rfl (fun ls hl => ?_)
  have lp6 : ∀ (n6 : Nat) (H6 : Heap) (locs : List Loc) (ls : Array Slot) (j6_2 : Int64), th_B G Γ Γ [(46, 22), (46, 24)] H0 H6 locs → th_RC G Γ H6 → lv_has ls 7 [(0, .ref a0), (1, .int p1), (2, .long j6_2)] → F = dv_lp (f_X12_termOf_6b d (f_X12_partOf d)) (dv G Γ H6, (a0 : Int), p1.toInt, j6_2.toInt) → (∃ m : Int, mo_f G H6 a0 22 = B + m ∧ 0 ≤ m ∧ mo_rest (mo_ce G H0 a0 B) (mo_part (mo_f G H0 a0 25) (mo_ce G H0 a0 B) d) mo_mul m j) → (B + j - mo_f G H6 a0 22) + 1 ≤ (n6 : Int) → W p l e ({ frames := 11 + 3 * d, cells := 0, slots := 0, locals := 423 + d * 80 } : Room) s m ([.ref a0, .int p1] : List Value).toArray below meth c H6 locs 0 0 (MQ below (th_Q (fun (v : Option Value) (H1 : Heap) => ∃ r : Int64, v = some (.long r) ∧ th_I G Γ H1 ∧ th_F G Γ [(46, 22), (46, 24)] H0 H1 ∧ th_RC G Γ H1 ∧ (mo_f G H1 a0 22 = B + j) ∧ (f_X12_termOf d (dv G Γ H0) (a0 : Int) p1.toInt = (dv G Γ H1, r.toInt))) G) ([.ref a0, .int p1] : List Value).toArray s 0 0 (fun q => G.1.2.2 ≤ q)) (F0 m 6 ls []) := by
    intro n6
    induction n6 with
    | zero => intro H6 locs ls j6_2 hB hR hl hF g6_0 hm6; exact absurd hm6 (by have := mo_lp (mo_part_lt _ _ _) g6_0; omega)
    | succ n6 ih6 =>
      intro H6 locs ls j6_2 hB hR hl hF g6_0 hm6
      have fv2_23 : mo_f G H6 a0 23 = mo_f G H0 a0 23 := mo_f_F hB.2.2 h0 (by decide) (by decide)
      have fv3_25 : mo_f G H6 a0 25 = mo_f G H0 a0 25 := mo_f_F hB.2.2 h0 (by decide) (by decide)
      have hm6 : (B + j - mo_f G H6 a0 22) + 1 ≤ (n6 : Int) + 1 := by omega
      replace hF := hF.trans (dv_lp_eq)
      replace hF := hF.trans (congrArg (dv_k (f_X12_termOf_6b d (f_X12_partOf d))) (f_X12_termOf_6c.eq_1 d (f_X12_partOf d) (dv G Γ H6) ((a0 : Int)) (p1.toInt) (j6_2.toInt)))
      refine lv_aload_n hx hb gX12_termOf_0.2.2.2.2.1 rfl (lv_at hl 0 rfl) ?_
      obtain ⟨m6, a6, b6, r6⟩ := g6_0
      refine lv_aload_n hx hb gX12_termOf_0.2.2.2.2.2.1 rfl (lv_at hl 0 rfl) ?_
      refine th_getI (j := 22) hC cf_X12 hB.1 h0 ro_46 rfl rfl kf_X12_281 gX12_termOf_0.2.2.2.2.2.2.1 (fun x4 mx4 lx4 ux4 => ?_)
      replace hF := hF.trans (congrArg (dv_k (f_X12_termOf_6b d (f_X12_partOf d))) (dv_bn (dv_getI h0 ro_46 (j := 22) rfl mx4 (by decide))))
      have fg5 : mo_f G H6 a0 22 = x4.toInt := mo_fat mx4
      refine th_call (th_runV (As := [.int x4]) (rest := []) hC mf_X12_codeAt km_X12_284 im_X12_codeAt se_X12_codeAt (c_X12_codeAt l G Γ H6 hB.1 hU a0 h0 x4 (by omega) B (by omega) (by omega)) rfl rfl ⟨by dsimp only; omega, by dsimp only; omega⟩ hB.1 h0 ro_46 rfl rfl hl.1 rfl (Nat.le_of_ble_eq_true rfl) gX12_termOf_0.2.2.2.2.2.2.2 ⟨Nat.le_refl _, Nat.le_refl _⟩) hB.2.1 (fun v11 H11 locs hp hz hS => ?_)
      obtain ⟨x6, rfl, q11_0, q11_1, rfl⟩ := hp
      have hB := th_B_s hB hS
      replace hF := hF.trans (congrArg (dv_k (f_X12_termOf_6b d (f_X12_partOf d))) (dv_bn2 (q11_1)))
      refine W.eq (g2 := F0 m 14 ls [.int x6]) rfl ?_
      have cd11 : mo_ce G H0 a0 B m6 = x6.toInt := by have q9 := q11_0; rw [mo_ce_F hB.1 hB.2.2 h0 (by decide)] at q9; rw [q9]; congr 1; omega
      refine lv_bipush (v := 42) hx hb gX12_termOf_1.1 (by decide) ?_
      refine th_call (th_runS (As := [.int 42]) (rest := [.int x6]) hC mf_X12_sign km_X12_240 st_X12_sign (c_X12_sign l G Γ H6 hB.1 hU 42 (by decide) (by decide)) rfl rfl ⟨by dsimp only; omega, by dsimp only; omega⟩ rfl hl.1 rfl (Nat.le_of_ble_eq_true rfl) gX12_termOf_1.2.1 ⟨Nat.le_refl _, Nat.le_refl _⟩) hB.2.1 (fun v16 H16 locs hp hz hS => ?_)
      obtain ⟨x7, rfl, lx7, ux7, q16_0, q16_1, rfl⟩ := hp
      have hB := th_B_s hB hS
      have w16_0 := tk_42
      have zf16 := q16_1
      rw [tk_42] at zf16
      replace hF := hF.trans (congrArg (dv_k (f_X12_termOf_6b d (f_X12_partOf d))) (dv_bn2 (zf16)))
      refine W.eq (g2 := F0 m 19 ls [.int x7, .int x6]) rfl ?_
      have jn54 : ∀ (locs : List Loc) (ls : Array Slot) , th_B G Γ Γ [(46, 22), (46, 24)] H0 H6 locs → lv_has ls 7 [(0, .ref a0), (1, .int p1), (2, .long j6_2)] → F = dv_k (f_X12_termOf_6b d (f_X12_partOf d)) (f_X12_termOf_54 d (f_X12_partOf d) (dv G Γ H6) ((a0 : Int)) (p1.toInt) (j6_2.toInt)) → mo_ce G H0 a0 B m6 = 142 ∨ mo_ce G H0 a0 B m6 = 147 ∨ mo_ce G H0 a0 B m6 = 137 → W p l e ({ frames := 11 + 3 * d, cells := 0, slots := 0, locals := 423 + d * 80 } : Room) s m ([.ref a0, .int p1] : List Value).toArray below meth c H6 locs 0 0 (MQ below (th_Q (fun (v : Option Value) (H1 : Heap) => ∃ r : Int64, v = some (.long r) ∧ th_I G Γ H1 ∧ th_F G Γ [(46, 22), (46, 24)] H0 H1 ∧ th_RC G Γ H1 ∧ (mo_f G H1 a0 22 = B + j) ∧ (f_X12_termOf d (dv G Γ H0) (a0 : Int) p1.toInt = (dv G Γ H1, r.toInt))) G) ([.ref a0, .int p1] : List Value).toArray s 0 0 (fun q => G.1.2.2 ≤ q)) (F0 m 54 ls []) := by
        intro locs ls hB hl hF g54_0
        replace hF := hF.trans (congrArg (dv_k (f_X12_termOf_6b d (f_X12_partOf d))) (f_X12_termOf_54.eq_1 d (f_X12_partOf d) (dv G Γ H6) ((a0 : Int)) (p1.toInt) (j6_2.toInt)))
        refine lv_aload_n hx hb gX12_termOf_3.2.1 rfl (lv_at hl 0 rfl) ?_
        refine lv_aload_n hx hb gX12_termOf_3.2.2.1 rfl (lv_at hl 0 rfl) ?_
        refine th_getK hC cf_X12 hB.1 h0 ro_46 rfl (j := 22) (by decide) mx4 kf_X12_281 gX12_termOf_3.2.2.2.1 ?_
        replace hF := hF.trans (congrArg (dv_k (f_X12_termOf_6b d (f_X12_partOf d))) (dv_bn (dv_getI h0 ro_46 (j := 22) rfl mx4 (by decide))))
        have fg8 : mo_f G H6 a0 22 = x4.toInt := mo_fat mx4
        refine th_call (th_runV (As := [.int x4]) (rest := []) hC mf_X12_codeAt km_X12_284 im_X12_codeAt se_X12_codeAt (c_X12_codeAt l G Γ H6 hB.1 hU a0 h0 x4 (by omega) B (by omega) (by omega)) rfl rfl ⟨by dsimp only; omega, by dsimp only; omega⟩ hB.1 h0 ro_46 rfl rfl hl.1 rfl (Nat.le_of_ble_eq_true rfl) gX12_termOf_3.2.2.2.2.1 ⟨Nat.le_refl _, Nat.le_refl _⟩) hB.2.1 (fun v59 H59 locs hp hz hS => ?_)
        obtain ⟨x9, rfl, q59_0, q59_1, rfl⟩ := hp
        have hB := th_B_s hB hS
        replace hF := hF.trans (congrArg (dv_k (f_X12_termOf_6b d (f_X12_partOf d))) (dv_bn2 (q59_1)))
        refine W.eq (g2 := F0 m 62 ls [.int x9]) rfl ?_
        have cd59 : mo_ce G H0 a0 B m6 = x9.toInt := by have q9 := q59_0; rw [mo_ce_F hB.1 hB.2.2 h0 (by decide)] at q9; rw [q9]; congr 1; omega
        refine lv_istore (lv' := [(4, .int x9), (0, .ref a0), (1, .int p1), (2, .long j6_2)]) hx hb gX12_termOf_3.2.2.2.2.2.1 hl (by decide) rfl (fun ls hl => ?_)
        refine lv_aload_n hx hb gX12_termOf_3.2.2.2.2.2.2.1 rfl (lv_at hl 1 rfl) ?_
        refine lv_dup hx hb gX12_termOf_3.2.2.2.2.2.2.2 rfl ?_
        refine th_getK hC cf_X12 hB.1 h0 ro_46 rfl (j := 22) (by decide) mx4 kf_X12_281 gX12_termOf_4.1 ?_
        replace hF := hF.trans (congrArg (dv_k (f_X12_termOf_6b d (f_X12_partOf d))) (dv_bn (dv_getI h0 ro_46 (j := 22) rfl mx4 (by decide))))
        have fg10 : mo_f G H6 a0 22 = x4.toInt := mo_fat mx4
        have nz66 := mo_ce_nz (show mo_ce G H0 a0 B m6 ≠ 0 by omega)
        refine lv_iconst (v := 1) hx hb gX12_termOf_4.2.1 (by decide) ?_
        refine tr_iadd hx hb gX12_termOf_4.2.2.1 (Eq.refl _) tk_1 (by omega) (by omega) (fun x11 ex11 => ?_)
        replace hF := hF.trans (congrArg (dv_k (f_X12_termOf_6b d (f_X12_partOf d))) (dv_bn (ex11.symm)))
        refine th_put hC cf_X12 hB h0 (Or.inl h0) ro_46 rfl (j := 22) rfl th_sIa (by decide) rfl rfl rfl kf_X12_281 gX12_termOf_4.2.2.2.1 (fun H71 locs hB hf hst71 => ?_)
        have hR := th_RC_F hB.1 hR hf (th_T_s h0 ro_46 hst71) (by decide)
        have fv_H71_23 : mo_f G H71 a0 23 = mo_f G H6 a0 23 := mo_f_F hf h0 (by decide) (by decide)
        have fv_H71_25 : mo_f G H71 a0 25 = mo_f G H6 a0 25 := mo_f_F hf h0 (by decide) (by decide)
        replace hF := hF.trans (congrArg (dv_k (f_X12_termOf_6b d (f_X12_partOf d))) (dv_bn (dv_putI hB.1 h0 ro_46 (j := 22) rfl (th_apart hC cf_X12) hst71 (Eq.refl _) (by decide))))
        have fp71 : mo_f G H71 a0 22 = x11.toInt := mo_f_St hst71
        have mm12 := hst71.2.1
        refine lv_aload_n hx hb gX12_termOf_4.2.2.2.2.1 rfl (lv_at hl 1 rfl) ?_
        refine lv_iload_n hx hb gX12_termOf_4.2.2.2.2.2.1 rfl (lv_at hl 2 rfl) ?_
        obtain ⟨m7, p7, r7⟩ := mo_rest_op r6 (show mo_ce G H0 a0 B m6 = 142 ∨ mo_ce G H0 a0 B m6 = 147 ∨ mo_ce G H0 a0 B m6 = 137 by omega)
        have lt7 := mo_part_lt _ _ _ _ _ p7
        refine th_call (th_runV (As := [.int p1]) (rest := []) hC mf_X12_partOf km_X12_302 im_X12_partOf se_X12_partOf (ihp l G Γ H71 hB.1 hR hU a0 h0 p1 (by omega) (by omega) B (m6 + 1) m7 ⟨by omega, by omega, by omega, by omega⟩ (by rw [mo_f_F hB.2.2 h0 (j := 25) (by decide) (by decide), mo_ce_F hB.1 hB.2.2 h0 (by decide)]; exact p7)) rfl rfl ⟨by dsimp only; omega, by dsimp only; omega⟩ hB.1 h0 ro_46 rfl rfl hl.1 rfl (Nat.le_of_ble_eq_true rfl) gX12_termOf_4.2.2.2.2.2.2.1 ⟨Nat.le_refl _, Nat.le_refl _⟩) hB.2.1 (fun v76 H76 locs hp hz hS => ?_)
        obtain ⟨y13, rfl, hI1, hf, hR, z76_0, z76_1⟩ := hp
        have hB := th_B_c hB hI1 hS hf (by decide)
        have fv_H76_23 : mo_f G H76 a0 23 = mo_f G H71 a0 23 := mo_f_F hf h0 (by decide) (by decide)
        have fv_H76_25 : mo_f G H76 a0 25 = mo_f G H71 a0 25 := mo_f_F hf h0 (by decide) (by decide)
        replace hF := hF.trans (congrArg (dv_k (f_X12_termOf_6b d (f_X12_partOf d))) (dv_bn2 (z76_1)))
        refine W.eq (g2 := F0 m 79 ls [.long y13]) rfl ?_
        refine lv_lstore (lv' := [(5, .long y13), (4, .int x9), (0, .ref a0), (1, .int p1), (2, .long j6_2)]) hx hb gX12_termOf_4.2.2.2.2.2.2.2 hl (by decide) rfl (fun ls hl => ?_)
        refine lv_iload hx hb gX12_termOf_5.1 (lv_at hl 1 rfl) ?_
        refine lv_bipush (v := 42) hx hb gX12_termOf_5.2.1 (by decide) ?_
        refine th_call (th_runS (As := [.int 42]) (rest := [.int x9]) hC mf_X12_sign km_X12_240 st_X12_sign (c_X12_sign l G Γ H76 hB.1 hU 42 (by decide) (by decide)) rfl rfl ⟨by dsimp only; omega, by dsimp only; omega⟩ rfl hl.1 rfl (Nat.le_of_ble_eq_true rfl) gX12_termOf_5.2.2.1 ⟨Nat.le_refl _, Nat.le_refl _⟩) hB.2.1 (fun v85 H85 locs hp hz hS => ?_)
        obtain ⟨x14, rfl, lx14, ux14, q85_0, q85_1, rfl⟩ := hp
        have hB := th_B_s hB hS
        have w85_0 := tk_42
        have zf85 := q85_1
        rw [tk_42] at zf85
        replace hF := hF.trans (congrArg (dv_k (f_X12_termOf_6b d (f_X12_partOf d))) (dv_bn2 (zf85)))
        refine W.eq (g2 := F0 m 88 ls [.int x14, .int x9]) rfl ?_
        have jn121 : ∀ (H121 : Heap) (locs : List Loc) (ls : Array Slot) (j121_5 : Int64), th_B G Γ Γ [(46, 22), (46, 24)] H0 H121 locs → th_RC G Γ H121 → lv_has ls 7 [(4, .int x9), (0, .ref a0), (1, .int p1), (2, .long j6_2), (5, .long j121_5)] → F = dv_k (f_X12_termOf_6b d (f_X12_partOf d)) (f_X12_termOf_121 d (f_X12_partOf d) (dv G Γ H121) (x9.toInt) ((a0 : Int)) (p1.toInt) (j6_2.toInt) (j121_5.toInt)) → (x9.toInt = 142 ∨ j121_5 ≠ 0) → mo_f G H121 a0 22 = B + m7 → W p l e ({ frames := 11 + 3 * d, cells := 0, slots := 0, locals := 423 + d * 80 } : Room) s m ([.ref a0, .int p1] : List Value).toArray below meth c H121 locs 0 0 (MQ below (th_Q (fun (v : Option Value) (H1 : Heap) => ∃ r : Int64, v = some (.long r) ∧ th_I G Γ H1 ∧ th_F G Γ [(46, 22), (46, 24)] H0 H1 ∧ th_RC G Γ H1 ∧ (mo_f G H1 a0 22 = B + j) ∧ (f_X12_termOf d (dv G Γ H0) (a0 : Int) p1.toInt = (dv G Γ H1, r.toInt))) G) ([.ref a0, .int p1] : List Value).toArray s 0 0 (fun q => G.1.2.2 ≤ q)) (F0 m 121 ls []) := by
          intro H121 locs ls j121_5 hB hR hl hF g121_0 g121_1
          have fv15_23 : mo_f G H121 a0 23 = mo_f G H0 a0 23 := mo_f_F hB.2.2 h0 (by decide) (by decide)
          have fv16_25 : mo_f G H121 a0 25 = mo_f G H0 a0 25 := mo_f_F hB.2.2 h0 (by decide) (by decide)
          replace hF := hF.trans (congrArg (dv_k (f_X12_termOf_6b d (f_X12_partOf d))) (f_X12_termOf_121.eq_1 d (f_X12_partOf d) (dv G Γ H121) (x9.toInt) ((a0 : Int)) (p1.toInt) (j6_2.toInt) (j121_5.toInt)))
          refine lv_aload_n hx hb gX12_termOf_7.2.2.2.2.1 rfl (lv_at hl 1 rfl) ?_
          refine lv_iload hx hb gX12_termOf_7.2.2.2.2.2.1 (lv_at hl 0 rfl) ?_
          refine lv_bipush (v := 42) hx hb gX12_termOf_7.2.2.2.2.2.2.1 (by decide) ?_
          refine th_call (th_runS (As := [.int 42]) (rest := [.int x9, .ref a0]) hC mf_X12_sign km_X12_240 st_X12_sign (c_X12_sign l G Γ H121 hB.1 hU 42 (by decide) (by decide)) rfl rfl ⟨by dsimp only; omega, by dsimp only; omega⟩ rfl hl.1 rfl (Nat.le_of_ble_eq_true rfl) gX12_termOf_7.2.2.2.2.2.2.2 ⟨Nat.le_refl _, Nat.le_refl _⟩) hB.2.1 (fun v126 H126 locs hp hz hS => ?_)
          obtain ⟨x17, rfl, lx17, ux17, q126_0, q126_1, rfl⟩ := hp
          have hB := th_B_s hB hS
          have w126_0 := tk_42
          have zf126 := q126_1
          rw [tk_42] at zf126
          replace hF := hF.trans (congrArg (dv_k (f_X12_termOf_6b d (f_X12_partOf d))) (dv_bn2 (zf126)))
          refine W.eq (g2 := F0 m 129 ls [.int x17, .int x9, .ref a0]) rfl ?_
          have jn160 : ∀ (locs : List Loc) (ls : Array Slot) (s160_1 : Int64), th_B G Γ Γ [(46, 22), (46, 24)] H0 H121 locs → lv_has ls 7 [(0, .ref a0), (1, .int p1)] → F = dv_k (f_X12_termOf_6b d (f_X12_partOf d)) (f_X12_termOf_160 d (f_X12_partOf d) (dv G Γ H121) ((a0 : Int)) (p1.toInt) (s160_1.toInt)) → W p l e ({ frames := 11 + 3 * d, cells := 0, slots := 0, locals := 423 + d * 80 } : Room) s m ([.ref a0, .int p1] : List Value).toArray below meth c H121 locs 0 0 (MQ below (th_Q (fun (v : Option Value) (H1 : Heap) => ∃ r : Int64, v = some (.long r) ∧ th_I G Γ H1 ∧ th_F G Γ [(46, 22), (46, 24)] H0 H1 ∧ th_RC G Γ H1 ∧ (mo_f G H1 a0 22 = B + j) ∧ (f_X12_termOf d (dv G Γ H0) (a0 : Int) p1.toInt = (dv G Γ H1, r.toInt))) G) ([.ref a0, .int p1] : List Value).toArray s 0 0 (fun q => G.1.2.2 ≤ q)) (F0 m 160 ls [.long s160_1, .ref a0]) := by
            intro locs ls s160_1 hB hl hF
            replace hF := hF.trans (congrArg (dv_k (f_X12_termOf_6b d (f_X12_partOf d))) (f_X12_termOf_160.eq_1 d (f_X12_partOf d) (dv G Γ H121) ((a0 : Int)) (p1.toInt) (s160_1.toInt)))
            refine lv_iload_n hx hb gX12_termOf_10.1 rfl (lv_at hl 1 rfl) ?_
            refine th_call (th_runV (As := [.long s160_1, .int p1]) (rest := []) hC mf_X12_bounded km_X12_298 im_X12_bounded se_X12_bounded (c_X12_bounded l G Γ H121 hB.1 hR hU a0 h0 s160_1 p1 (by omega) (by omega)) rfl rfl ⟨by dsimp only; omega, by dsimp only; omega⟩ hB.1 h0 ro_46 rfl rfl hl.1 rfl (Nat.le_of_ble_eq_true rfl) gX12_termOf_10.2.1 ⟨Nat.le_refl _, Nat.le_refl _⟩) hB.2.1 (fun v161 H161 locs hp hz hS => ?_)
            obtain ⟨y18, rfl, hI1, hf, hR, z161_0⟩ := hp
            have hB := th_B_c hB hI1 hS hf (by decide)
            have fv_H161_22 : mo_f G H161 a0 22 = mo_f G H121 a0 22 := mo_f_F hf h0 (by decide) (by decide)
            have fv_H161_23 : mo_f G H161 a0 23 = mo_f G H121 a0 23 := mo_f_F hf h0 (by decide) (by decide)
            have fv_H161_25 : mo_f G H161 a0 25 = mo_f G H121 a0 25 := mo_f_F hf h0 (by decide) (by decide)
            replace hF := hF.trans (congrArg (dv_k (f_X12_termOf_6b d (f_X12_partOf d))) (dv_bn2 (z161_0)))
            refine W.eq (g2 := F0 m 164 ls [.long y18]) rfl ?_
            refine lv_lstore_n (lv' := [(2, .long y18), (0, .ref a0), (1, .int p1)]) hx hb gX12_termOf_10.2.2.1 rfl hl (by decide) rfl (fun ls hl => ?_)
            refine lv_goto (tgt := 6) hx hb gX12_termOf_10.2.2.2.1 (by decide) ?_
            replace hF := hF.trans (dv_kl)
            exact ih6 H161 locs ls y18 hB hR (lv_sub hl [1, 2, 0] rfl) hF ⟨m7, by omega, by omega, r7⟩ (by omega)
          refine tr_icmp_ne (tgt := 139) hx hb gX12_termOf_8.1 (by decide) (Eq.refl _) (Eq.refl _) (fun c129 => ?_) (fun c129 => ?_)
          · replace hF := hF.trans (congrArg (dv_k (f_X12_termOf_6b d (f_X12_partOf d))) (if_pos c129))
            refine lv_iload hx hb gX12_termOf_8.2.2.2.2.2.1 (lv_at hl 0 rfl) ?_
            refine lv_bipush (v := 47) hx hb gX12_termOf_8.2.2.2.2.2.2.1 (by decide) ?_
            refine th_call (th_runS (As := [.int 47]) (rest := [.int x9, .ref a0]) hC mf_X12_sign km_X12_240 st_X12_sign (c_X12_sign l G Γ H121 hB.1 hU 47 (by decide) (by decide)) rfl rfl ⟨by dsimp only; omega, by dsimp only; omega⟩ rfl hl.1 rfl (Nat.le_of_ble_eq_true rfl) gX12_termOf_8.2.2.2.2.2.2.2 ⟨Nat.le_refl _, Nat.le_refl _⟩) hB.2.1 (fun v143 H143 locs hp hz hS => ?_)
            obtain ⟨x19, rfl, lx19, ux19, q143_0, q143_1, rfl⟩ := hp
            have hB := th_B_s hB hS
            have w143_0 := tk_47
            have zf143 := q143_1
            rw [tk_47] at zf143
            replace hF := hF.trans (congrArg (dv_k (f_X12_termOf_6b d (f_X12_partOf d))) (dv_bn2 (zf143)))
            refine W.eq (g2 := F0 m 146 ls [.int x19, .int x9, .ref a0]) rfl ?_
            refine tr_icmp_ne (tgt := 156) hx hb gX12_termOf_9.1 (by decide) (Eq.refl _) (Eq.refl _) (fun c146 => ?_) (fun c146 => ?_)
            · replace hF := hF.trans (congrArg (dv_k (f_X12_termOf_6b d (f_X12_partOf d))) (if_pos c146))
              refine lv_lload_n hx hb gX12_termOf_9.2.2.2.2.2.1 rfl (lv_at hl 3 rfl) ?_
              refine lv_lload hx hb gX12_termOf_9.2.2.2.2.2.2.1 (lv_at hl 4 rfl) ?_
              refine lv_lrem hx hb gX12_termOf_9.2.2.2.2.2.2.2 (g121_0.resolve_left (by omega)) ?_
              refine lv_topl (fun y20 ey20 => ?_)
              replace hF := hF.trans (congrArg (dv_k (f_X12_termOf_6b d (f_X12_partOf d))) (dv_bn (dv_lrem_e (Eq.refl (j6_2.toInt)) (Eq.refl (j121_5.toInt)) ey20)))
              exact jn160 locs ls y20 hB (lv_sub hl [1, 2] rfl) hF
            · replace hF := hF.trans (congrArg (dv_k (f_X12_termOf_6b d (f_X12_partOf d))) (if_neg (not_not_intro c146)))
              refine lv_lload_n hx hb gX12_termOf_9.2.1 rfl (lv_at hl 3 rfl) ?_
              refine lv_lload hx hb gX12_termOf_9.2.2.1 (lv_at hl 4 rfl) ?_
              refine lv_ldiv hx hb gX12_termOf_9.2.2.2.1 (g121_0.resolve_left (by omega)) ?_
              refine lv_topl (fun y21 ey21 => ?_)
              replace hF := hF.trans (congrArg (dv_k (f_X12_termOf_6b d (f_X12_partOf d))) (dv_bn (dv_ldiv_e (Eq.refl (j6_2.toInt)) (Eq.refl (j121_5.toInt)) ey21)))
              refine lv_goto (tgt := 160) hx hb gX12_termOf_9.2.2.2.2.1 (by decide) ?_
              exact jn160 locs ls y21 hB (lv_sub hl [1, 2] rfl) hF
          · replace hF := hF.trans (congrArg (dv_k (f_X12_termOf_6b d (f_X12_partOf d))) (if_neg (not_not_intro c129)))
            refine lv_lload_n hx hb gX12_termOf_8.2.1 rfl (lv_at hl 3 rfl) ?_
            refine lv_lload hx hb gX12_termOf_8.2.2.1 (lv_at hl 4 rfl) ?_
            refine lv_lmul hx hb gX12_termOf_8.2.2.2.1 ?_
            refine lv_topl (fun y22 ey22 => ?_)
            replace hF := hF.trans (congrArg (dv_k (f_X12_termOf_6b d (f_X12_partOf d))) (dv_bn (dv_lmul_e (Eq.refl (j6_2.toInt)) (Eq.refl (j121_5.toInt)) ey22)))
            refine lv_goto (tgt := 160) hx hb gX12_termOf_8.2.2.2.2.1 (by decide) ?_
            exact jn160 locs ls y22 hB (lv_sub hl [1, 2] rfl) hF
        refine tr_icmp_eq (tgt := 121) hx hb gX12_termOf_5.2.2.2.1 (by decide) (Eq.refl _) (Eq.refl _) (fun c88 => ?_) (fun c88 => ?_)
        · replace hF := hF.trans (congrArg (dv_k (f_X12_termOf_6b d (f_X12_partOf d))) (if_pos c88))
          exact jn121 H76 locs ls y13 hB hR (lv_sub hl [1, 2, 3, 4, 0] rfl) hF (by first | exact Or.inl (by omega) | exact Or.inr (by decide) | exact Or.inr (fun q9 => absurd (gx44.mpr q9) (by omega))) (by omega)
        · replace hF := hF.trans (congrArg (dv_k (f_X12_termOf_6b d (f_X12_partOf d))) (if_neg c88))
          refine lv_lload hx hb gX12_termOf_5.2.2.2.2.1 (lv_at hl 0 rfl) ?_
          refine lv_lconst (v := 0) hx hb gX12_termOf_5.2.2.2.2.2.1 rfl ?_
          refine tr_lcmp2 hx hb gX12_termOf_5.2.2.2.2.2.2.1 (fun x23 fx23 gx23 ix23 => ?_)
          replace hF := hF.trans (congrArg (dv_k (f_X12_termOf_6b d (f_X12_partOf d))) (dv_bn (dv_lcmp_e (Eq.refl (y13.toInt)) (rfl : (0 : Int64).toInt = 0) fx23 ix23)))
          refine tr_if_ne (tgt := 121) hx hb gX12_termOf_5.2.2.2.2.2.2.2 (by decide) (Eq.refl _) (fun c95 => ?_) (fun c95 => ?_)
          · replace hF := hF.trans (congrArg (dv_k (f_X12_termOf_6b d (f_X12_partOf d))) (if_pos c95))
            exact jn121 H76 locs ls y13 hB hR (lv_sub hl [1, 2, 3, 4, 0] rfl) hF (by first | exact Or.inl (by omega) | exact Or.inr (by decide) | exact Or.inr (fun q9 => absurd (gx23.mpr q9) (by omega))) (by omega)
          · replace hF := hF.trans (congrArg (dv_k (f_X12_termOf_6b d (f_X12_partOf d))) (if_neg (not_not_intro c95)))
            refine lv_aload_n hx hb gX12_termOf_6.1 rfl (lv_at hl 2 rfl) ?_
            refine lv_aload_n hx hb gX12_termOf_6.2.1 rfl (lv_at hl 2 rfl) ?_
            refine th_getI (j := 24) hC cf_X12 hB.1 h0 ro_46 rfl rfl kf_X12_291 gX12_termOf_6.2.2.1 (fun x24 mx24 lx24 ux24 => ?_)
            replace hF := hF.trans (congrArg (dv_k (f_X12_termOf_6b d (f_X12_partOf d))) (dv_bn (dv_getI h0 ro_46 (j := 24) rfl mx24 (by decide))))
            have jn115 : ∀ (locs : List Loc) (ls : Array Slot) (s115_1 : Int32), th_B G Γ Γ [(46, 22), (46, 24)] H0 H76 locs → lv_has ls 7 [(4, .int x9), (0, .ref a0), (1, .int p1), (2, .long j6_2)] → F = dv_k (f_X12_termOf_6b d (f_X12_partOf d)) (f_X12_termOf_115 d (f_X12_partOf d) (dv G Γ H76) (x9.toInt) ((a0 : Int)) (p1.toInt) (j6_2.toInt) (s115_1.toInt)) → 0 ≤ s115_1.toInt → s115_1.toInt ≤ 1 → W p l e ({ frames := 11 + 3 * d, cells := 0, slots := 0, locals := 423 + d * 80 } : Room) s m ([.ref a0, .int p1] : List Value).toArray below meth c H76 locs 0 0 (MQ below (th_Q (fun (v : Option Value) (H1 : Heap) => ∃ r : Int64, v = some (.long r) ∧ th_I G Γ H1 ∧ th_F G Γ [(46, 22), (46, 24)] H0 H1 ∧ th_RC G Γ H1 ∧ (mo_f G H1 a0 22 = B + j) ∧ (f_X12_termOf d (dv G Γ H0) (a0 : Int) p1.toInt = (dv G Γ H1, r.toInt))) G) ([.ref a0, .int p1] : List Value).toArray s 0 0 (fun q => G.1.2.2 ≤ q)) (F0 m 115 ls [.int s115_1, .ref a0]) := by
              intro locs ls s115_1 hB hl hF g115_0 g115_1
              have ls115_1 := ti_lo s115_1; have us115_1 := ti_hi s115_1
              replace hF := hF.trans (congrArg (dv_k (f_X12_termOf_6b d (f_X12_partOf d))) (f_X12_termOf_115.eq_1 d (f_X12_partOf d) (dv G Γ H76) (x9.toInt) ((a0 : Int)) (p1.toInt) (j6_2.toInt) (s115_1.toInt)))
              refine th_put hC cf_X12 hB h0 (Or.inl h0) ro_46 rfl (j := 24) rfl (th_sI (by omega) (by omega)) (by decide) rfl (th_nb (by omega) (by omega)) (th_fb (by omega) (by omega)) kf_X12_291 gX12_termOf_7.2.1 (fun H115 locs hB hf hst115 => ?_)
              have hR := th_RC_F hB.1 hR hf (th_T_s h0 ro_46 hst115) (by decide)
              have fv_H115_22 : mo_f G H115 a0 22 = mo_f G H76 a0 22 := mo_f_F hf h0 (by decide) (by decide)
              have fv_H115_23 : mo_f G H115 a0 23 = mo_f G H76 a0 23 := mo_f_F hf h0 (by decide) (by decide)
              have fv_H115_25 : mo_f G H115 a0 25 = mo_f G H76 a0 25 := mo_f_F hf h0 (by decide) (by decide)
              replace hF := hF.trans (congrArg (dv_k (f_X12_termOf_6b d (f_X12_partOf d))) (dv_bn (dv_putI hB.1 h0 ro_46 (j := 24) rfl (th_apart hC cf_X12) hst115 (Eq.refl _) (by decide))))
              have mm25 := hst115.2.1
              refine lv_lconst (v := 1) hx hb gX12_termOf_7.2.2.1 rfl ?_
              refine lv_lstore (lv' := [(5, .long 1), (4, .int x9), (0, .ref a0), (1, .int p1), (2, .long j6_2)]) hx hb gX12_termOf_7.2.2.2.1 hl (by decide) rfl (fun ls hl => ?_)
              exact jn121 H115 locs ls 1 hB hR (lv_sub hl [1, 2, 3, 4, 0] rfl) (by rw [show (1 : Int64).toInt = 1 from rfl]; exact hF) (by first | exact Or.inl (by omega) | exact Or.inr (by decide) | exact Or.inr (fun q9 => absurd (gx23.mpr q9) (by omega))) (by omega)
            have jn110 : ∀ (locs : List Loc) (ls : Array Slot) , th_B G Γ Γ [(46, 22), (46, 24)] H0 H76 locs → lv_has ls 7 [(4, .int x9), (0, .ref a0), (1, .int p1), (2, .long j6_2)] → F = dv_k (f_X12_termOf_6b d (f_X12_partOf d)) (f_X12_termOf_110 d (f_X12_partOf d) (dv G Γ H76) (x9.toInt) ((a0 : Int)) (p1.toInt) (j6_2.toInt)) → W p l e ({ frames := 11 + 3 * d, cells := 0, slots := 0, locals := 423 + d * 80 } : Room) s m ([.ref a0, .int p1] : List Value).toArray below meth c H76 locs 0 0 (MQ below (th_Q (fun (v : Option Value) (H1 : Heap) => ∃ r : Int64, v = some (.long r) ∧ th_I G Γ H1 ∧ th_F G Γ [(46, 22), (46, 24)] H0 H1 ∧ th_RC G Γ H1 ∧ (mo_f G H1 a0 22 = B + j) ∧ (f_X12_termOf d (dv G Γ H0) (a0 : Int) p1.toInt = (dv G Γ H1, r.toInt))) G) ([.ref a0, .int p1] : List Value).toArray s 0 0 (fun q => G.1.2.2 ≤ q)) (F0 m 110 ls [.ref a0]) := by
              intro locs ls hB hl hF
              replace hF := hF.trans (congrArg (dv_k (f_X12_termOf_6b d (f_X12_partOf d))) (f_X12_termOf_110.eq_1 d (f_X12_partOf d) (dv G Γ H76) (x9.toInt) ((a0 : Int)) (p1.toInt) (j6_2.toInt)))
              refine lv_iconst (v := 1) hx hb gX12_termOf_6.2.2.2.2.2.2.1 (by decide) ?_
              refine lv_goto (tgt := 115) hx hb gX12_termOf_6.2.2.2.2.2.2.2 (by decide) ?_
              exact jn115 locs ls 1 hB (lv_sub hl [0, 1, 2, 3] rfl) (by rw [tk_1]; exact hF) (by decide) (by decide)
            refine tr_if_ne (tgt := 110) hx hb gX12_termOf_6.2.2.2.1 (by decide) (Eq.refl _) (fun c103 => ?_) (fun c103 => ?_)
            · replace hF := hF.trans (congrArg (dv_k (f_X12_termOf_6b d (f_X12_partOf d))) (if_pos c103))
              exact jn110 locs ls hB (lv_sub hl [1, 2, 3, 4] rfl) hF
            · replace hF := hF.trans (congrArg (dv_k (f_X12_termOf_6b d (f_X12_partOf d))) (if_neg (not_not_intro c103)))
              refine lv_iload_n hx hb gX12_termOf_6.2.2.2.2.1 rfl (lv_at hl 3 rfl) ?_
              refine tr_if_eq (tgt := 114) hx hb gX12_termOf_6.2.2.2.2.2.1 (by decide) (Eq.refl _) (fun c107 => ?_) (fun c107 => ?_)
              · replace hF := hF.trans (congrArg (dv_k (f_X12_termOf_6b d (f_X12_partOf d))) (if_pos c107))
                refine lv_iconst (v := 0) hx hb gX12_termOf_7.1 (by decide) ?_
                exact jn115 locs ls 0 hB (lv_sub hl [1, 2, 3, 4] rfl) (by rw [tk_0]; exact hF) (by decide) (by decide)
              · replace hF := hF.trans (congrArg (dv_k (f_X12_termOf_6b d (f_X12_partOf d))) (if_neg c107))
                exact jn110 locs ls hB (lv_sub hl [1, 2, 3, 4] rfl) hF
      refine tr_icmp_eq (tgt := 54) hx hb gX12_termOf_1.2.2.1 (by decide) (Eq.refl _) (Eq.refl _) (fun c19 => ?_) (fun c19 => ?_)
      · replace hF := hF.trans (congrArg (dv_k (f_X12_termOf_6b d (f_X12_partOf d))) (if_pos c19))
        exact jn54 locs ls hB (lv_sub hl [0, 1, 2] rfl) hF (by omega)
      · replace hF := hF.trans (congrArg (dv_k (f_X12_termOf_6b d (f_X12_partOf d))) (if_neg c19))
        refine lv_aload_n hx hb gX12_termOf_1.2.2.2.1 rfl (lv_at hl 0 rfl) ?_
        refine lv_aload_n hx hb gX12_termOf_1.2.2.2.2.1 rfl (lv_at hl 0 rfl) ?_
        refine th_getK hC cf_X12 hB.1 h0 ro_46 rfl (j := 22) (by decide) mx4 kf_X12_281 gX12_termOf_1.2.2.2.2.2.1 ?_
        replace hF := hF.trans (congrArg (dv_k (f_X12_termOf_6b d (f_X12_partOf d))) (dv_bn (dv_getI h0 ro_46 (j := 22) rfl mx4 (by decide))))
        have fg26 : mo_f G H6 a0 22 = x4.toInt := mo_fat mx4
        refine th_call (th_runV (As := [.int x4]) (rest := []) hC mf_X12_codeAt km_X12_284 im_X12_codeAt se_X12_codeAt (c_X12_codeAt l G Γ H6 hB.1 hU a0 h0 x4 (by omega) B (by omega) (by omega)) rfl rfl ⟨by dsimp only; omega, by dsimp only; omega⟩ hB.1 h0 ro_46 rfl rfl hl.1 rfl (Nat.le_of_ble_eq_true rfl) gX12_termOf_1.2.2.2.2.2.2.1 ⟨Nat.le_refl _, Nat.le_refl _⟩) hB.2.1 (fun v27 H27 locs hp hz hS => ?_)
        obtain ⟨x27, rfl, q27_0, q27_1, rfl⟩ := hp
        have hB := th_B_s hB hS
        replace hF := hF.trans (congrArg (dv_k (f_X12_termOf_6b d (f_X12_partOf d))) (dv_bn2 (q27_1)))
        refine W.eq (g2 := F0 m 30 ls [.int x27]) rfl ?_
        have cd27 : mo_ce G H0 a0 B m6 = x27.toInt := by have q9 := q27_0; rw [mo_ce_F hB.1 hB.2.2 h0 (by decide)] at q9; rw [q9]; congr 1; omega
        refine lv_bipush (v := 47) hx hb gX12_termOf_1.2.2.2.2.2.2.2 (by decide) ?_
        refine th_call (th_runS (As := [.int 47]) (rest := [.int x27]) hC mf_X12_sign km_X12_240 st_X12_sign (c_X12_sign l G Γ H6 hB.1 hU 47 (by decide) (by decide)) rfl rfl ⟨by dsimp only; omega, by dsimp only; omega⟩ rfl hl.1 rfl (Nat.le_of_ble_eq_true rfl) gX12_termOf_2.1 ⟨Nat.le_refl _, Nat.le_refl _⟩) hB.2.1 (fun v32 H32 locs hp hz hS => ?_)
        obtain ⟨x28, rfl, lx28, ux28, q32_0, q32_1, rfl⟩ := hp
        have hB := th_B_s hB hS
        have w32_0 := tk_47
        have zf32 := q32_1
        rw [tk_47] at zf32
        replace hF := hF.trans (congrArg (dv_k (f_X12_termOf_6b d (f_X12_partOf d))) (dv_bn2 (zf32)))
        refine W.eq (g2 := F0 m 35 ls [.int x28, .int x27]) rfl ?_
        refine tr_icmp_eq (tgt := 54) hx hb gX12_termOf_2.2.1 (by decide) (Eq.refl _) (Eq.refl _) (fun c35 => ?_) (fun c35 => ?_)
        · replace hF := hF.trans (congrArg (dv_k (f_X12_termOf_6b d (f_X12_partOf d))) (if_pos c35))
          exact jn54 locs ls hB (lv_sub hl [0, 1, 2] rfl) hF (by omega)
        · replace hF := hF.trans (congrArg (dv_k (f_X12_termOf_6b d (f_X12_partOf d))) (if_neg c35))
          refine lv_aload_n hx hb gX12_termOf_2.2.2.1 rfl (lv_at hl 0 rfl) ?_
          refine lv_aload_n hx hb gX12_termOf_2.2.2.2.1 rfl (lv_at hl 0 rfl) ?_
          refine th_getK hC cf_X12 hB.1 h0 ro_46 rfl (j := 22) (by decide) mx4 kf_X12_281 gX12_termOf_2.2.2.2.2.1 ?_
          replace hF := hF.trans (congrArg (dv_k (f_X12_termOf_6b d (f_X12_partOf d))) (dv_bn (dv_getI h0 ro_46 (j := 22) rfl mx4 (by decide))))
          have fg29 : mo_f G H6 a0 22 = x4.toInt := mo_fat mx4
          refine th_call (th_runV (As := [.int x4]) (rest := []) hC mf_X12_codeAt km_X12_284 im_X12_codeAt se_X12_codeAt (c_X12_codeAt l G Γ H6 hB.1 hU a0 h0 x4 (by omega) B (by omega) (by omega)) rfl rfl ⟨by dsimp only; omega, by dsimp only; omega⟩ hB.1 h0 ro_46 rfl rfl hl.1 rfl (Nat.le_of_ble_eq_true rfl) gX12_termOf_2.2.2.2.2.2.1 ⟨Nat.le_refl _, Nat.le_refl _⟩) hB.2.1 (fun v43 H43 locs hp hz hS => ?_)
          obtain ⟨x30, rfl, q43_0, q43_1, rfl⟩ := hp
          have hB := th_B_s hB hS
          replace hF := hF.trans (congrArg (dv_k (f_X12_termOf_6b d (f_X12_partOf d))) (dv_bn2 (q43_1)))
          refine W.eq (g2 := F0 m 46 ls [.int x30]) rfl ?_
          have cd43 : mo_ce G H0 a0 B m6 = x30.toInt := by have q9 := q43_0; rw [mo_ce_F hB.1 hB.2.2 h0 (by decide)] at q9; rw [q9]; congr 1; omega
          refine lv_bipush (v := 37) hx hb gX12_termOf_2.2.2.2.2.2.2.1 (by decide) ?_
          refine th_call (th_runS (As := [.int 37]) (rest := [.int x30]) hC mf_X12_sign km_X12_240 st_X12_sign (c_X12_sign l G Γ H6 hB.1 hU 37 (by decide) (by decide)) rfl rfl ⟨by dsimp only; omega, by dsimp only; omega⟩ rfl hl.1 rfl (Nat.le_of_ble_eq_true rfl) gX12_termOf_2.2.2.2.2.2.2.2 ⟨Nat.le_refl _, Nat.le_refl _⟩) hB.2.1 (fun v48 H48 locs hp hz hS => ?_)
          obtain ⟨x31, rfl, lx31, ux31, q48_0, q48_1, rfl⟩ := hp
          have hB := th_B_s hB hS
          have w48_0 := tk_37
          have zf48 := q48_1
          rw [tk_37] at zf48
          replace hF := hF.trans (congrArg (dv_k (f_X12_termOf_6b d (f_X12_partOf d))) (dv_bn2 (zf48)))
          refine W.eq (g2 := F0 m 51 ls [.int x31, .int x30]) rfl ?_
          refine tr_icmp_ne (tgt := 168) hx hb gX12_termOf_3.1 (by decide) (Eq.refl _) (Eq.refl _) (fun c51 => ?_) (fun c51 => ?_)
          · replace hF := hF.trans (congrArg (dv_k (f_X12_termOf_6b d (f_X12_partOf d))) (if_pos c51))
            refine lv_lload_n hx hb gX12_termOf_10.2.2.2.2.1 rfl (lv_at hl 2 rfl) ?_
            replace hF := hF.trans (dv_kr)
            exact th_lret hC hH hr hlocks hB.2.1 ⟨_, rfl, hB.1, hB.2.2, hR, by rw [← mo_rest_end r6 (show ¬ (mo_ce G H0 a0 B m6 = 142 ∨ mo_ce G H0 a0 B m6 = 147 ∨ mo_ce G H0 a0 B m6 = 137) by omega)]; exact a6, (hF0.symm.trans hF)⟩ gX12_termOf_10.2.2.2.2.2
          · replace hF := hF.trans (congrArg (dv_k (f_X12_termOf_6b d (f_X12_partOf d))) (if_neg (not_not_intro c51)))
            exact jn54 locs ls hB (lv_sub hl [0, 1, 2] rfl) hF (by omega)
  exact lp6 ((B + j - mo_f G H2 a0 22) + 1).toNat H2 locs ls y1 hB hR (lv_sub hl [1, 2, 0] rfl) hF ⟨m1, by omega, by omega, r1⟩ (by omega)

set_option maxHeartbeats 4000000 in
set_option maxRecDepth 100000 in
theorem c_X12_sumOf_s (d : Nat) (ihp : s_X12_termOf d) : s_X12_sumOf d := by
  intro l G Γ H0 hI hR hU a0 h0 p1 f1 g1 B i j k1 k2
  refine th_met RX12 (by decide) rfl (Nat.le_of_ble_eq_true rfl) ?_
  intro p e s m below meth c hC hH hr hlocks hnm ls hl
  have hx := hC.1
  have hb := hC.2.1
  have hB : th_B G Γ Γ [(46, 22), (46, 24)] H0 H0 [] := ⟨hI, va_S.rf, th_F_rf⟩
  have hl : lv_has ls 7 [(0, .ref a0), (1, .int p1)] := hl
  have lp1 := ti_lo p1; have up1 := ti_hi p1
  obtain ⟨F, hF0⟩ : ∃ F, F = f_X12_sumOf d (dv G Γ H0) ((a0 : Int)) (p1.toInt) := ⟨_, rfl⟩
  have hF := hF0.trans ((f_X12_sumOf_d d (dv G Γ H0) ((a0 : Int)) (p1.toInt)).trans (f_X12_sumOf_B.eq_1 d (f_X12_termOf d) (dv G Γ H0) ((a0 : Int)) (p1.toInt)))
  refine lv_aload_n hx hb gX12_sumOf_0.1 rfl (lv_at hl 0 rfl) ?_
  obtain ⟨m1, p1_, r1⟩ := mo_chain_open k2
  have lt1 := mo_term_lt _ _ _ _ _ p1_
  refine lv_iload_n hx hb gX12_sumOf_0.2.1 rfl (lv_at hl 1 rfl) ?_
  refine th_call (th_runV (As := [.int p1]) (rest := []) hC mf_X12_termOf km_X12_294 im_X12_termOf se_X12_termOf (ihp l G Γ H0 hB.1 hR hU a0 h0 p1 (by omega) (by omega) B i m1 k1 p1_) rfl rfl ⟨by dsimp only; omega, by dsimp only; omega⟩ hB.1 h0 ro_46 rfl rfl hl.1 rfl (Nat.le_of_ble_eq_true rfl) gX12_sumOf_0.2.2.1 ⟨Nat.le_refl _, Nat.le_refl _⟩) hB.2.1 (fun v2 H2 locs hp hz hS => ?_)
  obtain ⟨y1, rfl, hI1, hf, hR, z2_0, z2_1⟩ := hp
  have hB := th_B_c hB hI1 hS hf (by decide)
  have fv_H2_23 : mo_f G H2 a0 23 = mo_f G H0 a0 23 := mo_f_F hf h0 (by decide) (by decide)
  have fv_H2_25 : mo_f G H2 a0 25 = mo_f G H0 a0 25 := mo_f_F hf h0 (by decide) (by decide)
  replace hF := hF.trans (dv_bn2 (z2_1))
  refine W.eq (g2 := F0 m 5 ls [.long y1]) rfl ?_
  refine lv_lstore_n (lv' := [(2, .long y1), (0, .ref a0), (1, .int p1)]) hx hb gX12_sumOf_0.2.2.2.1 rfl hl (by decide) rfl (fun ls hl => ?_)
  have lp6 : ∀ (n6 : Nat) (H6 : Heap) (locs : List Loc) (ls : Array Slot) (j6_2 : Int64), th_B G Γ Γ [(46, 22), (46, 24)] H0 H6 locs → th_RC G Γ H6 → lv_has ls 7 [(0, .ref a0), (1, .int p1), (2, .long j6_2)] → F = dv_lp (f_X12_sumOf_6b d (f_X12_termOf d)) (dv G Γ H6, (a0 : Int), p1.toInt, j6_2.toInt) → (∃ m : Int, mo_f G H6 a0 22 = B + m ∧ 0 ≤ m ∧ mo_rest (mo_ce G H0 a0 B) (mo_term (mo_f G H0 a0 25) (mo_ce G H0 a0 B) d) mo_add m j) → (B + j - mo_f G H6 a0 22) + 1 ≤ (n6 : Int) → W p l e ({ frames := 12 + 3 * d, cells := 0, slots := 0, locals := 449 + d * 80 } : Room) s m ([.ref a0, .int p1] : List Value).toArray below meth c H6 locs 0 0 (MQ below (th_Q (fun (v : Option Value) (H1 : Heap) => ∃ r : Int64, v = some (.long r) ∧ th_I G Γ H1 ∧ th_F G Γ [(46, 22), (46, 24)] H0 H1 ∧ th_RC G Γ H1 ∧ (mo_f G H1 a0 22 = B + j) ∧ (f_X12_sumOf d (dv G Γ H0) (a0 : Int) p1.toInt = (dv G Γ H1, r.toInt))) G) ([.ref a0, .int p1] : List Value).toArray s 0 0 (fun q => G.1.2.2 ≤ q)) (F0 m 6 ls []) := by
    intro n6
    induction n6 with
    | zero => intro H6 locs ls j6_2 hB hR hl hF g6_0 hm6; exact absurd hm6 (by have := mo_lp (mo_term_lt _ _ _) g6_0; omega)
    | succ n6 ih6 =>
      intro H6 locs ls j6_2 hB hR hl hF g6_0 hm6
      have fv2_23 : mo_f G H6 a0 23 = mo_f G H0 a0 23 := mo_f_F hB.2.2 h0 (by decide) (by decide)
      have fv3_25 : mo_f G H6 a0 25 = mo_f G H0 a0 25 := mo_f_F hB.2.2 h0 (by decide) (by decide)
      have hm6 : (B + j - mo_f G H6 a0 22) + 1 ≤ (n6 : Int) + 1 := by omega
      replace hF := hF.trans (dv_lp_eq)
      replace hF := hF.trans (congrArg (dv_k (f_X12_sumOf_6b d (f_X12_termOf d))) (f_X12_sumOf_6c.eq_1 d (f_X12_termOf d) (dv G Γ H6) ((a0 : Int)) (p1.toInt) (j6_2.toInt)))
      refine lv_aload_n hx hb gX12_sumOf_0.2.2.2.2.1 rfl (lv_at hl 0 rfl) ?_
      obtain ⟨m6, a6, b6, r6⟩ := g6_0
      refine lv_aload_n hx hb gX12_sumOf_0.2.2.2.2.2.1 rfl (lv_at hl 0 rfl) ?_
      refine th_getI (j := 22) hC cf_X12 hB.1 h0 ro_46 rfl rfl kf_X12_281 gX12_sumOf_0.2.2.2.2.2.2.1 (fun x4 mx4 lx4 ux4 => ?_)
      replace hF := hF.trans (congrArg (dv_k (f_X12_sumOf_6b d (f_X12_termOf d))) (dv_bn (dv_getI h0 ro_46 (j := 22) rfl mx4 (by decide))))
      have fg5 : mo_f G H6 a0 22 = x4.toInt := mo_fat mx4
      refine th_call (th_runV (As := [.int x4]) (rest := []) hC mf_X12_codeAt km_X12_284 im_X12_codeAt se_X12_codeAt (c_X12_codeAt l G Γ H6 hB.1 hU a0 h0 x4 (by omega) B (by omega) (by omega)) rfl rfl ⟨by dsimp only; omega, by dsimp only; omega⟩ hB.1 h0 ro_46 rfl rfl hl.1 rfl (Nat.le_of_ble_eq_true rfl) gX12_sumOf_0.2.2.2.2.2.2.2 ⟨Nat.le_refl _, Nat.le_refl _⟩) hB.2.1 (fun v11 H11 locs hp hz hS => ?_)
      obtain ⟨x6, rfl, q11_0, q11_1, rfl⟩ := hp
      have hB := th_B_s hB hS
      replace hF := hF.trans (congrArg (dv_k (f_X12_sumOf_6b d (f_X12_termOf d))) (dv_bn2 (q11_1)))
      refine W.eq (g2 := F0 m 14 ls [.int x6]) rfl ?_
      have cd11 : mo_ce G H0 a0 B m6 = x6.toInt := by have q9 := q11_0; rw [mo_ce_F hB.1 hB.2.2 h0 (by decide)] at q9; rw [q9]; congr 1; omega
      refine lv_bipush (v := 43) hx hb gX12_sumOf_1.1 (by decide) ?_
      refine th_call (th_runS (As := [.int 43]) (rest := [.int x6]) hC mf_X12_sign km_X12_240 st_X12_sign (c_X12_sign l G Γ H6 hB.1 hU 43 (by decide) (by decide)) rfl rfl ⟨by dsimp only; omega, by dsimp only; omega⟩ rfl hl.1 rfl (Nat.le_of_ble_eq_true rfl) gX12_sumOf_1.2.1 ⟨Nat.le_refl _, Nat.le_refl _⟩) hB.2.1 (fun v16 H16 locs hp hz hS => ?_)
      obtain ⟨x7, rfl, lx7, ux7, q16_0, q16_1, rfl⟩ := hp
      have hB := th_B_s hB hS
      have w16_0 := tk_43
      have zf16 := q16_1
      rw [tk_43] at zf16
      replace hF := hF.trans (congrArg (dv_k (f_X12_sumOf_6b d (f_X12_termOf d))) (dv_bn2 (zf16)))
      refine W.eq (g2 := F0 m 19 ls [.int x7, .int x6]) rfl ?_
      have jn38 : ∀ (locs : List Loc) (ls : Array Slot) , th_B G Γ Γ [(46, 22), (46, 24)] H0 H6 locs → lv_has ls 7 [(0, .ref a0), (1, .int p1), (2, .long j6_2)] → F = dv_k (f_X12_sumOf_6b d (f_X12_termOf d)) (f_X12_sumOf_38 d (f_X12_termOf d) (dv G Γ H6) ((a0 : Int)) (p1.toInt) (j6_2.toInt)) → mo_ce G H0 a0 B m6 = 143 ∨ mo_ce G H0 a0 B m6 = 145 → W p l e ({ frames := 12 + 3 * d, cells := 0, slots := 0, locals := 449 + d * 80 } : Room) s m ([.ref a0, .int p1] : List Value).toArray below meth c H6 locs 0 0 (MQ below (th_Q (fun (v : Option Value) (H1 : Heap) => ∃ r : Int64, v = some (.long r) ∧ th_I G Γ H1 ∧ th_F G Γ [(46, 22), (46, 24)] H0 H1 ∧ th_RC G Γ H1 ∧ (mo_f G H1 a0 22 = B + j) ∧ (f_X12_sumOf d (dv G Γ H0) (a0 : Int) p1.toInt = (dv G Γ H1, r.toInt))) G) ([.ref a0, .int p1] : List Value).toArray s 0 0 (fun q => G.1.2.2 ≤ q)) (F0 m 38 ls []) := by
        intro locs ls hB hl hF g38_0
        replace hF := hF.trans (congrArg (dv_k (f_X12_sumOf_6b d (f_X12_termOf d))) (f_X12_sumOf_38.eq_1 d (f_X12_termOf d) (dv G Γ H6) ((a0 : Int)) (p1.toInt) (j6_2.toInt)))
        refine lv_aload_n hx hb gX12_sumOf_2.2.2.1 rfl (lv_at hl 0 rfl) ?_
        refine lv_aload_n hx hb gX12_sumOf_2.2.2.2.1 rfl (lv_at hl 0 rfl) ?_
        refine th_getK hC cf_X12 hB.1 h0 ro_46 rfl (j := 22) (by decide) mx4 kf_X12_281 gX12_sumOf_2.2.2.2.2.1 ?_
        replace hF := hF.trans (congrArg (dv_k (f_X12_sumOf_6b d (f_X12_termOf d))) (dv_bn (dv_getI h0 ro_46 (j := 22) rfl mx4 (by decide))))
        have fg8 : mo_f G H6 a0 22 = x4.toInt := mo_fat mx4
        refine th_call (th_runV (As := [.int x4]) (rest := []) hC mf_X12_codeAt km_X12_284 im_X12_codeAt se_X12_codeAt (c_X12_codeAt l G Γ H6 hB.1 hU a0 h0 x4 (by omega) B (by omega) (by omega)) rfl rfl ⟨by dsimp only; omega, by dsimp only; omega⟩ hB.1 h0 ro_46 rfl rfl hl.1 rfl (Nat.le_of_ble_eq_true rfl) gX12_sumOf_2.2.2.2.2.2.1 ⟨Nat.le_refl _, Nat.le_refl _⟩) hB.2.1 (fun v43 H43 locs hp hz hS => ?_)
        obtain ⟨x9, rfl, q43_0, q43_1, rfl⟩ := hp
        have hB := th_B_s hB hS
        replace hF := hF.trans (congrArg (dv_k (f_X12_sumOf_6b d (f_X12_termOf d))) (dv_bn2 (q43_1)))
        refine W.eq (g2 := F0 m 46 ls [.int x9]) rfl ?_
        have cd43 : mo_ce G H0 a0 B m6 = x9.toInt := by have q9 := q43_0; rw [mo_ce_F hB.1 hB.2.2 h0 (by decide)] at q9; rw [q9]; congr 1; omega
        refine lv_bipush (v := 43) hx hb gX12_sumOf_2.2.2.2.2.2.2.1 (by decide) ?_
        refine th_call (th_runS (As := [.int 43]) (rest := [.int x9]) hC mf_X12_sign km_X12_240 st_X12_sign (c_X12_sign l G Γ H6 hB.1 hU 43 (by decide) (by decide)) rfl rfl ⟨by dsimp only; omega, by dsimp only; omega⟩ rfl hl.1 rfl (Nat.le_of_ble_eq_true rfl) gX12_sumOf_2.2.2.2.2.2.2.2 ⟨Nat.le_refl _, Nat.le_refl _⟩) hB.2.1 (fun v48 H48 locs hp hz hS => ?_)
        obtain ⟨x10, rfl, lx10, ux10, q48_0, q48_1, rfl⟩ := hp
        have hB := th_B_s hB hS
        have w48_0 := tk_43
        have zf48 := q48_1
        rw [tk_43] at zf48
        replace hF := hF.trans (congrArg (dv_k (f_X12_sumOf_6b d (f_X12_termOf d))) (dv_bn2 (zf48)))
        refine W.eq (g2 := F0 m 51 ls [.int x10, .int x9]) rfl ?_
        have jn59 : ∀ (locs : List Loc) (ls : Array Slot) (s59_0 : Int32), th_B G Γ Γ [(46, 22), (46, 24)] H0 H6 locs → lv_has ls 7 [(0, .ref a0), (1, .int p1), (2, .long j6_2)] → F = dv_k (f_X12_sumOf_6b d (f_X12_termOf d)) (f_X12_sumOf_59 d (f_X12_termOf d) (dv G Γ H6) ((a0 : Int)) (p1.toInt) (j6_2.toInt) (s59_0.toInt)) → 0 ≤ s59_0.toInt → s59_0.toInt ≤ 1 → W p l e ({ frames := 12 + 3 * d, cells := 0, slots := 0, locals := 449 + d * 80 } : Room) s m ([.ref a0, .int p1] : List Value).toArray below meth c H6 locs 0 0 (MQ below (th_Q (fun (v : Option Value) (H1 : Heap) => ∃ r : Int64, v = some (.long r) ∧ th_I G Γ H1 ∧ th_F G Γ [(46, 22), (46, 24)] H0 H1 ∧ th_RC G Γ H1 ∧ (mo_f G H1 a0 22 = B + j) ∧ (f_X12_sumOf d (dv G Γ H0) (a0 : Int) p1.toInt = (dv G Γ H1, r.toInt))) G) ([.ref a0, .int p1] : List Value).toArray s 0 0 (fun q => G.1.2.2 ≤ q)) (F0 m 59 ls [.int s59_0]) := by
          intro locs ls s59_0 hB hl hF g59_0 g59_1
          have ls59_0 := ti_lo s59_0; have us59_0 := ti_hi s59_0
          replace hF := hF.trans (congrArg (dv_k (f_X12_sumOf_6b d (f_X12_termOf d))) (f_X12_sumOf_59.eq_1 d (f_X12_termOf d) (dv G Γ H6) ((a0 : Int)) (p1.toInt) (j6_2.toInt) (s59_0.toInt)))
          refine lv_istore (lv' := [(4, .int s59_0), (0, .ref a0), (1, .int p1), (2, .long j6_2)]) hx hb gX12_sumOf_3.2.2.2.2.1 hl (by decide) rfl (fun ls hl => ?_)
          refine lv_aload_n hx hb gX12_sumOf_3.2.2.2.2.2.1 rfl (lv_at hl 1 rfl) ?_
          refine lv_dup hx hb gX12_sumOf_3.2.2.2.2.2.2.1 rfl ?_
          refine th_getK hC cf_X12 hB.1 h0 ro_46 rfl (j := 22) (by decide) mx4 kf_X12_281 gX12_sumOf_3.2.2.2.2.2.2.2 ?_
          replace hF := hF.trans (congrArg (dv_k (f_X12_sumOf_6b d (f_X12_termOf d))) (dv_bn (dv_getI h0 ro_46 (j := 22) rfl mx4 (by decide))))
          have fg11 : mo_f G H6 a0 22 = x4.toInt := mo_fat mx4
          have nz63 := mo_ce_nz (show mo_ce G H0 a0 B m6 ≠ 0 by omega)
          refine lv_iconst (v := 1) hx hb gX12_sumOf_4.1 (by decide) ?_
          refine tr_iadd hx hb gX12_sumOf_4.2.1 (Eq.refl _) tk_1 (by omega) (by omega) (fun x12 ex12 => ?_)
          replace hF := hF.trans (congrArg (dv_k (f_X12_sumOf_6b d (f_X12_termOf d))) (dv_bn (ex12.symm)))
          refine th_put hC cf_X12 hB h0 (Or.inl h0) ro_46 rfl (j := 22) rfl th_sIa (by decide) rfl rfl rfl kf_X12_281 gX12_sumOf_4.2.2.1 (fun H68 locs hB hf hst68 => ?_)
          have hR := th_RC_F hB.1 hR hf (th_T_s h0 ro_46 hst68) (by decide)
          have fv_H68_23 : mo_f G H68 a0 23 = mo_f G H6 a0 23 := mo_f_F hf h0 (by decide) (by decide)
          have fv_H68_25 : mo_f G H68 a0 25 = mo_f G H6 a0 25 := mo_f_F hf h0 (by decide) (by decide)
          replace hF := hF.trans (congrArg (dv_k (f_X12_sumOf_6b d (f_X12_termOf d))) (dv_bn (dv_putI hB.1 h0 ro_46 (j := 22) rfl (th_apart hC cf_X12) hst68 (Eq.refl _) (by decide))))
          have fp68 : mo_f G H68 a0 22 = x12.toInt := mo_f_St hst68
          have mm13 := hst68.2.1
          refine lv_aload_n hx hb gX12_sumOf_4.2.2.2.1 rfl (lv_at hl 1 rfl) ?_
          refine lv_iload_n hx hb gX12_sumOf_4.2.2.2.2.1 rfl (lv_at hl 2 rfl) ?_
          obtain ⟨m7, p7, r7⟩ := mo_rest_op r6 (show mo_ce G H0 a0 B m6 = 143 ∨ mo_ce G H0 a0 B m6 = 145 by omega)
          have lt7 := mo_term_lt _ _ _ _ _ p7
          refine th_call (th_runV (As := [.int p1]) (rest := []) hC mf_X12_termOf km_X12_294 im_X12_termOf se_X12_termOf (ihp l G Γ H68 hB.1 hR hU a0 h0 p1 (by omega) (by omega) B (m6 + 1) m7 ⟨by omega, by omega, by omega, by omega⟩ (by rw [mo_f_F hB.2.2 h0 (j := 25) (by decide) (by decide), mo_ce_F hB.1 hB.2.2 h0 (by decide)]; exact p7)) rfl rfl ⟨by dsimp only; omega, by dsimp only; omega⟩ hB.1 h0 ro_46 rfl rfl hl.1 rfl (Nat.le_of_ble_eq_true rfl) gX12_sumOf_4.2.2.2.2.2.1 ⟨Nat.le_refl _, Nat.le_refl _⟩) hB.2.1 (fun v73 H73 locs hp hz hS => ?_)
          obtain ⟨y14, rfl, hI1, hf, hR, z73_0, z73_1⟩ := hp
          have hB := th_B_c hB hI1 hS hf (by decide)
          have fv_H73_23 : mo_f G H73 a0 23 = mo_f G H68 a0 23 := mo_f_F hf h0 (by decide) (by decide)
          have fv_H73_25 : mo_f G H73 a0 25 = mo_f G H68 a0 25 := mo_f_F hf h0 (by decide) (by decide)
          replace hF := hF.trans (congrArg (dv_k (f_X12_sumOf_6b d (f_X12_termOf d))) (dv_bn2 (z73_1)))
          refine W.eq (g2 := F0 m 76 ls [.long y14]) rfl ?_
          refine lv_lstore (lv' := [(5, .long y14), (4, .int s59_0), (0, .ref a0), (1, .int p1), (2, .long j6_2)]) hx hb gX12_sumOf_4.2.2.2.2.2.2.1 hl (by decide) rfl (fun ls hl => ?_)
          refine lv_aload_n hx hb gX12_sumOf_4.2.2.2.2.2.2.2 rfl (lv_at hl 2 rfl) ?_
          refine lv_iload hx hb gX12_sumOf_5.1 (lv_at hl 1 rfl) ?_
          have jn95 : ∀ (locs : List Loc) (ls : Array Slot) (s95_1 : Int64), th_B G Γ Γ [(46, 22), (46, 24)] H0 H73 locs → lv_has ls 7 [(0, .ref a0), (1, .int p1)] → F = dv_k (f_X12_sumOf_6b d (f_X12_termOf d)) (f_X12_sumOf_95 d (f_X12_termOf d) (dv G Γ H73) ((a0 : Int)) (p1.toInt) (s95_1.toInt)) → W p l e ({ frames := 12 + 3 * d, cells := 0, slots := 0, locals := 449 + d * 80 } : Room) s m ([.ref a0, .int p1] : List Value).toArray below meth c H73 locs 0 0 (MQ below (th_Q (fun (v : Option Value) (H1 : Heap) => ∃ r : Int64, v = some (.long r) ∧ th_I G Γ H1 ∧ th_F G Γ [(46, 22), (46, 24)] H0 H1 ∧ th_RC G Γ H1 ∧ (mo_f G H1 a0 22 = B + j) ∧ (f_X12_sumOf d (dv G Γ H0) (a0 : Int) p1.toInt = (dv G Γ H1, r.toInt))) G) ([.ref a0, .int p1] : List Value).toArray s 0 0 (fun q => G.1.2.2 ≤ q)) (F0 m 95 ls [.long s95_1, .ref a0]) := by
            intro locs ls s95_1 hB hl hF
            replace hF := hF.trans (congrArg (dv_k (f_X12_sumOf_6b d (f_X12_termOf d))) (f_X12_sumOf_95.eq_1 d (f_X12_termOf d) (dv G Γ H73) ((a0 : Int)) (p1.toInt) (s95_1.toInt)))
            refine lv_iload_n hx hb gX12_sumOf_6.2.1 rfl (lv_at hl 1 rfl) ?_
            refine th_call (th_runV (As := [.long s95_1, .int p1]) (rest := []) hC mf_X12_bounded km_X12_298 im_X12_bounded se_X12_bounded (c_X12_bounded l G Γ H73 hB.1 hR hU a0 h0 s95_1 p1 (by omega) (by omega)) rfl rfl ⟨by dsimp only; omega, by dsimp only; omega⟩ hB.1 h0 ro_46 rfl rfl hl.1 rfl (Nat.le_of_ble_eq_true rfl) gX12_sumOf_6.2.2.1 ⟨Nat.le_refl _, Nat.le_refl _⟩) hB.2.1 (fun v96 H96 locs hp hz hS => ?_)
            obtain ⟨y15, rfl, hI1, hf, hR, z96_0⟩ := hp
            have hB := th_B_c hB hI1 hS hf (by decide)
            have fv_H96_22 : mo_f G H96 a0 22 = mo_f G H73 a0 22 := mo_f_F hf h0 (by decide) (by decide)
            have fv_H96_23 : mo_f G H96 a0 23 = mo_f G H73 a0 23 := mo_f_F hf h0 (by decide) (by decide)
            have fv_H96_25 : mo_f G H96 a0 25 = mo_f G H73 a0 25 := mo_f_F hf h0 (by decide) (by decide)
            replace hF := hF.trans (congrArg (dv_k (f_X12_sumOf_6b d (f_X12_termOf d))) (dv_bn2 (z96_0)))
            refine W.eq (g2 := F0 m 99 ls [.long y15]) rfl ?_
            refine lv_lstore_n (lv' := [(2, .long y15), (0, .ref a0), (1, .int p1)]) hx hb gX12_sumOf_6.2.2.2.1 rfl hl (by decide) rfl (fun ls hl => ?_)
            refine lv_goto (tgt := 6) hx hb gX12_sumOf_6.2.2.2.2.1 (by decide) ?_
            replace hF := hF.trans (dv_kl)
            exact ih6 H96 locs ls y15 hB hR (lv_sub hl [1, 2, 0] rfl) hF ⟨m7, by omega, by omega, r7⟩ (by omega)
          refine tr_if_eq (tgt := 91) hx hb gX12_sumOf_5.2.1 (by decide) (Eq.refl _) (fun c81 => ?_) (fun c81 => ?_)
          · replace hF := hF.trans (congrArg (dv_k (f_X12_sumOf_6b d (f_X12_termOf d))) (if_pos c81))
            refine lv_lload_n hx hb gX12_sumOf_5.2.2.2.2.2.2.1 rfl (lv_at hl 4 rfl) ?_
            refine lv_lload hx hb gX12_sumOf_5.2.2.2.2.2.2.2 (lv_at hl 0 rfl) ?_
            refine lv_lsub hx hb gX12_sumOf_6.1 ?_
            refine lv_topl (fun y16 ey16 => ?_)
            replace hF := hF.trans (congrArg (dv_k (f_X12_sumOf_6b d (f_X12_termOf d))) (dv_bn (dv_lsub_e (Eq.refl (j6_2.toInt)) (Eq.refl (y14.toInt)) ey16)))
            exact jn95 locs ls y16 hB (lv_sub hl [2, 3] rfl) hF
          · replace hF := hF.trans (congrArg (dv_k (f_X12_sumOf_6b d (f_X12_termOf d))) (if_neg c81))
            refine lv_lload_n hx hb gX12_sumOf_5.2.2.1 rfl (lv_at hl 4 rfl) ?_
            refine lv_lload hx hb gX12_sumOf_5.2.2.2.1 (lv_at hl 0 rfl) ?_
            refine lv_ladd hx hb gX12_sumOf_5.2.2.2.2.1 ?_
            refine lv_topl (fun y17 ey17 => ?_)
            replace hF := hF.trans (congrArg (dv_k (f_X12_sumOf_6b d (f_X12_termOf d))) (dv_bn (dv_ladd_e (Eq.refl (j6_2.toInt)) (Eq.refl (y14.toInt)) ey17)))
            refine lv_goto (tgt := 95) hx hb gX12_sumOf_5.2.2.2.2.2.1 (by decide) ?_
            exact jn95 locs ls y17 hB (lv_sub hl [2, 3] rfl) hF
        refine tr_icmp_ne (tgt := 58) hx hb gX12_sumOf_3.1 (by decide) (Eq.refl _) (Eq.refl _) (fun c51 => ?_) (fun c51 => ?_)
        · replace hF := hF.trans (congrArg (dv_k (f_X12_sumOf_6b d (f_X12_termOf d))) (if_pos c51))
          refine lv_iconst (v := 0) hx hb gX12_sumOf_3.2.2.2.1 (by decide) ?_
          exact jn59 locs ls 0 hB (lv_sub hl [0, 1, 2] rfl) (by rw [tk_0]; exact hF) (by decide) (by decide)
        · replace hF := hF.trans (congrArg (dv_k (f_X12_sumOf_6b d (f_X12_termOf d))) (if_neg (not_not_intro c51)))
          refine lv_iconst (v := 1) hx hb gX12_sumOf_3.2.1 (by decide) ?_
          refine lv_goto (tgt := 59) hx hb gX12_sumOf_3.2.2.1 (by decide) ?_
          exact jn59 locs ls 1 hB (lv_sub hl [0, 1, 2] rfl) (by rw [tk_1]; exact hF) (by decide) (by decide)
      refine tr_icmp_eq (tgt := 38) hx hb gX12_sumOf_1.2.2.1 (by decide) (Eq.refl _) (Eq.refl _) (fun c19 => ?_) (fun c19 => ?_)
      · replace hF := hF.trans (congrArg (dv_k (f_X12_sumOf_6b d (f_X12_termOf d))) (if_pos c19))
        exact jn38 locs ls hB (lv_sub hl [0, 1, 2] rfl) hF (by omega)
      · replace hF := hF.trans (congrArg (dv_k (f_X12_sumOf_6b d (f_X12_termOf d))) (if_neg c19))
        refine lv_aload_n hx hb gX12_sumOf_1.2.2.2.1 rfl (lv_at hl 0 rfl) ?_
        refine lv_aload_n hx hb gX12_sumOf_1.2.2.2.2.1 rfl (lv_at hl 0 rfl) ?_
        refine th_getK hC cf_X12 hB.1 h0 ro_46 rfl (j := 22) (by decide) mx4 kf_X12_281 gX12_sumOf_1.2.2.2.2.2.1 ?_
        replace hF := hF.trans (congrArg (dv_k (f_X12_sumOf_6b d (f_X12_termOf d))) (dv_bn (dv_getI h0 ro_46 (j := 22) rfl mx4 (by decide))))
        have fg18 : mo_f G H6 a0 22 = x4.toInt := mo_fat mx4
        refine th_call (th_runV (As := [.int x4]) (rest := []) hC mf_X12_codeAt km_X12_284 im_X12_codeAt se_X12_codeAt (c_X12_codeAt l G Γ H6 hB.1 hU a0 h0 x4 (by omega) B (by omega) (by omega)) rfl rfl ⟨by dsimp only; omega, by dsimp only; omega⟩ hB.1 h0 ro_46 rfl rfl hl.1 rfl (Nat.le_of_ble_eq_true rfl) gX12_sumOf_1.2.2.2.2.2.2.1 ⟨Nat.le_refl _, Nat.le_refl _⟩) hB.2.1 (fun v27 H27 locs hp hz hS => ?_)
        obtain ⟨x19, rfl, q27_0, q27_1, rfl⟩ := hp
        have hB := th_B_s hB hS
        replace hF := hF.trans (congrArg (dv_k (f_X12_sumOf_6b d (f_X12_termOf d))) (dv_bn2 (q27_1)))
        refine W.eq (g2 := F0 m 30 ls [.int x19]) rfl ?_
        have cd27 : mo_ce G H0 a0 B m6 = x19.toInt := by have q9 := q27_0; rw [mo_ce_F hB.1 hB.2.2 h0 (by decide)] at q9; rw [q9]; congr 1; omega
        refine lv_bipush (v := 45) hx hb gX12_sumOf_1.2.2.2.2.2.2.2 (by decide) ?_
        refine th_call (th_runS (As := [.int 45]) (rest := [.int x19]) hC mf_X12_sign km_X12_240 st_X12_sign (c_X12_sign l G Γ H6 hB.1 hU 45 (by decide) (by decide)) rfl rfl ⟨by dsimp only; omega, by dsimp only; omega⟩ rfl hl.1 rfl (Nat.le_of_ble_eq_true rfl) gX12_sumOf_2.1 ⟨Nat.le_refl _, Nat.le_refl _⟩) hB.2.1 (fun v32 H32 locs hp hz hS => ?_)
        obtain ⟨x20, rfl, lx20, ux20, q32_0, q32_1, rfl⟩ := hp
        have hB := th_B_s hB hS
        have w32_0 := tk_45
        have zf32 := q32_1
        rw [tk_45] at zf32
        replace hF := hF.trans (congrArg (dv_k (f_X12_sumOf_6b d (f_X12_termOf d))) (dv_bn2 (zf32)))
        refine W.eq (g2 := F0 m 35 ls [.int x20, .int x19]) rfl ?_
        refine tr_icmp_ne (tgt := 103) hx hb gX12_sumOf_2.2.1 (by decide) (Eq.refl _) (Eq.refl _) (fun c35 => ?_) (fun c35 => ?_)
        · replace hF := hF.trans (congrArg (dv_k (f_X12_sumOf_6b d (f_X12_termOf d))) (if_pos c35))
          refine lv_lload_n hx hb gX12_sumOf_6.2.2.2.2.2.1 rfl (lv_at hl 2 rfl) ?_
          replace hF := hF.trans (dv_kr)
          exact th_lret hC hH hr hlocks hB.2.1 ⟨_, rfl, hB.1, hB.2.2, hR, by rw [← mo_rest_end r6 (show ¬ (mo_ce G H0 a0 B m6 = 143 ∨ mo_ce G H0 a0 B m6 = 145) by omega)]; exact a6, (hF0.symm.trans hF)⟩ gX12_sumOf_6.2.2.2.2.2.2
        · replace hF := hF.trans (congrArg (dv_k (f_X12_sumOf_6b d (f_X12_termOf d))) (if_neg (not_not_intro c35)))
          exact jn38 locs ls hB (lv_sub hl [0, 1, 2] rfl) hF (by omega)
  exact lp6 ((B + j - mo_f G H2 a0 22) + 1).toNat H2 locs ls y1 hB hR (lv_sub hl [1, 2, 0] rfl) hF ⟨m1, by omega, by omega, r1⟩ (by omega)

theorem c_X12_sumOf_d (d : Nat) : s_X12_sumOf d := by
  induction d with
  | zero => exact (c_X12_sumOf_s 0 (c_X12_termOf_s 0 (c_X12_partOf_s 0 (fun d' h => absurd h (by omega)))))
  | succ d ih => exact (c_X12_sumOf_s (d + 1) (c_X12_termOf_s (d + 1) (c_X12_partOf_s (d + 1) (fun d' h => by cases h; exact ih))))
theorem c_X12_partOf_d (d : Nat) : s_X12_partOf d := c_X12_partOf_s d (fun d' _ => c_X12_sumOf_d d')
theorem c_X12_termOf_d (d : Nat) : s_X12_termOf d := c_X12_termOf_s d (c_X12_partOf_d d)
end
section
def s_X12_positiveOf (d : Nat) : Prop := ∀ (l : Launch) (G : th_G) (Γ : th_Ga) (H0 : Heap) (hI : th_I G Γ H0) (hR : th_RC G Γ H0) (hU : dv_U Γ) (a0 : Nat) (h0 : Γ a0 = (46, 0)) (p1 : Int32) (f1 : 0 ≤ p1.toInt) (g1 : p1.toInt ≤ 1) (B i j : Int) (k1 : 0 ≤ B ∧ 0 ≤ i ∧ mo_f G H0 a0 22 = B + i ∧ mo_f G H0 a0 23 ≤ 2800) (k2 : mo_pos (mo_f G H0 a0 25) (mo_ce G H0 a0 B) d i j), Met l yX12_positiveOf (.code yX12_positiveOf cX12_positiveOf 7 (some FieldType.boolean) :: th_tb) ({ frames := 14 + 4 * d, cells := 0, slots := 0, locals := 700 + d * 100 } : Room) (th_P [.ref a0, .int p1] G H0) (th_Q (fun (v : Option Value) (H1 : Heap) => ∃ r : Int32, v = some (.int r) ∧ 0 ≤ r.toInt ∧ r.toInt ≤ 1 ∧ th_I G Γ H1 ∧ th_F G Γ [(46, 22), (46, 24)] H0 H1 ∧ th_RC G Γ H1 ∧ (mo_f G H1 a0 22 = B + j) ∧ (f_X12_positiveOf d (dv G Γ H0) (a0 : Int) p1.toInt = (dv G Γ H1, r.toInt))) G) 0 0 (fun q => G.1.2.2 ≤ q)

def s_X12_plainOf (d : Nat) : Prop := ∀ (l : Launch) (G : th_G) (Γ : th_Ga) (H0 : Heap) (hI : th_I G Γ H0) (hR : th_RC G Γ H0) (hU : dv_U Γ) (a0 : Nat) (h0 : Γ a0 = (46, 0)) (p1 : Int32) (f1 : 0 ≤ p1.toInt) (g1 : p1.toInt ≤ 1) (B i j : Int) (k1 : 0 ≤ B ∧ 0 ≤ i ∧ mo_f G H0 a0 22 = B + i ∧ mo_f G H0 a0 23 ≤ 2800) (k2 : mo_plain (mo_f G H0 a0 25) (mo_ce G H0 a0 B) d i j), Met l yX12_plainOf (.code yX12_plainOf cX12_plainOf 3 (some FieldType.boolean) :: th_tb) ({ frames := 15 + 4 * d, cells := 0, slots := 0, locals := 726 + d * 100 } : Room) (th_P [.ref a0, .int p1] G H0) (th_Q (fun (v : Option Value) (H1 : Heap) => ∃ r : Int32, v = some (.int r) ∧ 0 ≤ r.toInt ∧ r.toInt ≤ 1 ∧ th_I G Γ H1 ∧ th_F G Γ [(46, 22), (46, 24)] H0 H1 ∧ th_RC G Γ H1 ∧ (mo_f G H1 a0 22 = B + j) ∧ (f_X12_plainOf d (dv G Γ H0) (a0 : Int) p1.toInt = (dv G Γ H1, r.toInt))) G) 0 0 (fun q => G.1.2.2 ≤ q)

def s_X12_bothOf (d : Nat) : Prop := ∀ (l : Launch) (G : th_G) (Γ : th_Ga) (H0 : Heap) (hI : th_I G Γ H0) (hR : th_RC G Γ H0) (hU : dv_U Γ) (a0 : Nat) (h0 : Γ a0 = (46, 0)) (p1 : Int32) (f1 : 0 ≤ p1.toInt) (g1 : p1.toInt ≤ 1) (B i j : Int) (k1 : 0 ≤ B ∧ 0 ≤ i ∧ mo_f G H0 a0 22 = B + i ∧ mo_f G H0 a0 23 ≤ 2800) (k2 : mo_both (mo_f G H0 a0 25) (mo_ce G H0 a0 B) d i j), Met l yX12_bothOf (.code yX12_bothOf cX12_bothOf 4 (some FieldType.boolean) :: th_tb) ({ frames := 16 + 4 * d, cells := 0, slots := 0, locals := 748 + d * 100 } : Room) (th_P [.ref a0, .int p1] G H0) (th_Q (fun (v : Option Value) (H1 : Heap) => ∃ r : Int32, v = some (.int r) ∧ 0 ≤ r.toInt ∧ r.toInt ≤ 1 ∧ th_I G Γ H1 ∧ th_F G Γ [(46, 22), (46, 24)] H0 H1 ∧ th_RC G Γ H1 ∧ (mo_f G H1 a0 22 = B + j) ∧ (f_X12_bothOf d (dv G Γ H0) (a0 : Int) p1.toInt = (dv G Γ H1, r.toInt))) G) 0 0 (fun q => G.1.2.2 ≤ q)

def s_X12_testOf (d : Nat) : Prop := ∀ (l : Launch) (G : th_G) (Γ : th_Ga) (H0 : Heap) (hI : th_I G Γ H0) (hR : th_RC G Γ H0) (hU : dv_U Γ) (a0 : Nat) (h0 : Γ a0 = (46, 0)) (p1 : Int32) (f1 : 0 ≤ p1.toInt) (g1 : p1.toInt ≤ 1) (B i j : Int) (k1 : 0 ≤ B ∧ 0 ≤ i ∧ mo_f G H0 a0 22 = B + i ∧ mo_f G H0 a0 23 ≤ 2800) (k2 : mo_test (mo_f G H0 a0 25) (mo_ce G H0 a0 B) d i j), Met l yX12_testOf (.code yX12_testOf cX12_testOf 4 (some FieldType.boolean) :: th_tb) ({ frames := 17 + 4 * d, cells := 0, slots := 0, locals := 771 + d * 100 } : Room) (th_P [.ref a0, .int p1] G H0) (th_Q (fun (v : Option Value) (H1 : Heap) => ∃ r : Int32, v = some (.int r) ∧ 0 ≤ r.toInt ∧ r.toInt ≤ 1 ∧ th_I G Γ H1 ∧ th_F G Γ [(46, 22), (46, 24)] H0 H1 ∧ th_RC G Γ H1 ∧ (mo_f G H1 a0 22 = B + j) ∧ (f_X12_testOf d (dv G Γ H0) (a0 : Int) p1.toInt = (dv G Γ H1, r.toInt))) G) 0 0 (fun q => G.1.2.2 ≤ q)

set_option maxHeartbeats 4000000 in
set_option maxRecDepth 100000 in
theorem c_X12_positiveOf_s (d : Nat) (ihd : ∀ d', d = d' + 1 → s_X12_testOf d') : s_X12_positiveOf d := by
  intro l G Γ H0 hI hR hU a0 h0 p1 f1 g1 B i j k1 k2
  refine th_met RX12 (by decide) rfl (Nat.le_of_ble_eq_true rfl) ?_
  intro p e s m below meth c hC hH hr hlocks hnm ls hl
  have hx := hC.1
  have hb := hC.2.1
  have hB : th_B G Γ Γ [(46, 22), (46, 24)] H0 H0 [] := ⟨hI, va_S.rf, th_F_rf⟩
  have hl : lv_has ls 7 [(0, .ref a0), (1, .int p1)] := hl
  have lp1 := ti_lo p1; have up1 := ti_hi p1
  obtain ⟨F, hF0⟩ : ∃ F, F = f_X12_positiveOf d (dv G Γ H0) ((a0 : Int)) (p1.toInt) := ⟨_, rfl⟩
  have hF := hF0.trans ((f_X12_positiveOf_d d (dv G Γ H0) ((a0 : Int)) (p1.toInt)).trans (f_X12_positiveOf_B.eq_1 d (dv_pre (fun _ _ _ => dv_z) f_X12_testOf d) (dv G Γ H0) ((a0 : Int)) (p1.toInt)))
  refine lv_aload_n hx hb gX12_positiveOf_0.1 rfl (lv_at hl 0 rfl) ?_
  have po := mo_pos_o k2
  refine lv_bipush (v := 40) hx hb gX12_positiveOf_0.2.1 (by decide) ?_
  refine th_call (th_runS (As := [.int 40]) (rest := [.ref a0]) hC mf_X12_sign km_X12_240 st_X12_sign (c_X12_sign l G Γ H0 hB.1 hU 40 (by decide) (by decide)) rfl rfl ⟨by dsimp only; omega, by dsimp only; omega⟩ rfl hl.1 rfl (Nat.le_of_ble_eq_true rfl) gX12_positiveOf_0.2.2.1 ⟨Nat.le_refl _, Nat.le_refl _⟩) hB.2.1 (fun v3 H3 locs hp hz hS => ?_)
  obtain ⟨x1, rfl, lx1, ux1, q3_0, q3_1, rfl⟩ := hp
  have hB := th_B_s hB hS
  have w3_0 := tk_40
  have zf3 := q3_1
  rw [tk_40] at zf3
  replace hF := hF.trans (dv_bn2 (zf3))
  refine W.eq (g2 := F0 m 6 ls [.int x1, .ref a0]) rfl ?_
  refine th_call (th_runV (As := [.int x1]) (rest := []) hC mf_X12_passes0 km_X12_305 im_X12_passes0 se_X12_passes0 (c_X12_passes0 l G Γ H0 hB.1 hR hU a0 h0 x1 (by omega) B i k1) rfl rfl ⟨by dsimp only; omega, by dsimp only; omega⟩ hB.1 h0 ro_46 rfl rfl hl.1 rfl (Nat.le_of_ble_eq_true rfl) gX12_positiveOf_0.2.2.2.1 ⟨Nat.le_refl _, Nat.le_refl _⟩) hB.2.1 (fun v6 H6 locs hp hz hS => ?_)
  obtain ⟨x2, rfl, lx2, ux2, hI1, hf, hR, z6_0, z6_1, z6_2⟩ := hp
  have hB := th_B_c hB hI1 hS hf (by decide)
  have fv_H6_23 : mo_f G H6 a0 23 = mo_f G H0 a0 23 := mo_f_F hf h0 (by decide) (by decide)
  have fv_H6_25 : mo_f G H6 a0 25 = mo_f G H0 a0 25 := mo_f_F hf h0 (by decide) (by decide)
  replace hF := hF.trans (dv_bn2 (z6_2))
  refine W.eq (g2 := F0 m 9 ls [.int x2]) rfl ?_
  refine tr_if_eq (tgt := 30) hx hb gX12_positiveOf_0.2.2.2.2.1 (by decide) (Eq.refl _) (fun c9 => ?_) (fun c9 => ?_)
  · replace hF := hF.trans (if_pos c9)
    refine lv_aload_n hx hb gX12_positiveOf_2.2.1 rfl (lv_at hl 0 rfl) ?_
    have w6 := z6_1 (by omega)
    refine lv_iload_n hx hb gX12_positiveOf_2.2.2.1 rfl (lv_at hl 1 rfl) ?_
    obtain ⟨m1, p1_, c1_, p2_⟩ := (po.resolve_right (fun q => (z6_1 (by omega)).2 (by rw [q.1]; omega))).2
    have lt1 := mo_sum_lt _ _ _ _ _ p1_
    have lt2 := mo_sum_lt _ _ _ _ _ p2_
    refine th_call (th_runV (As := [.int p1]) (rest := []) hC mf_X12_sumOf km_X12_308 im_X12_sumOf se_X12_sumOf (c_X12_sumOf_d d l G Γ H6 hB.1 hR hU a0 h0 p1 (by omega) (by omega) B i m1 ⟨by omega, by omega, by omega, by omega⟩ (by rw [mo_f_F hB.2.2 h0 (j := 25) (by decide) (by decide), mo_ce_F hB.1 hB.2.2 h0 (by decide)]; exact p1_)) rfl rfl ⟨by dsimp only; omega, by dsimp only; omega⟩ hB.1 h0 ro_46 rfl rfl hl.1 rfl (Nat.le_of_ble_eq_true rfl) gX12_positiveOf_2.2.2.2.1 ⟨Nat.le_refl _, Nat.le_refl _⟩) hB.2.1 (fun v32 H32 locs hp hz hS => ?_)
    obtain ⟨y3, rfl, hI1, hf, hR, z32_0, z32_1⟩ := hp
    have hB := th_B_c hB hI1 hS hf (by decide)
    have fv_H32_23 : mo_f G H32 a0 23 = mo_f G H6 a0 23 := mo_f_F hf h0 (by decide) (by decide)
    have fv_H32_25 : mo_f G H32 a0 25 = mo_f G H6 a0 25 := mo_f_F hf h0 (by decide) (by decide)
    replace hF := hF.trans (dv_bn2 (z32_1))
    refine W.eq (g2 := F0 m 35 ls [.long y3]) rfl ?_
    refine lv_lstore_n (lv' := [(2, .long y3), (0, .ref a0), (1, .int p1)]) hx hb gX12_positiveOf_2.2.2.2.2.1 rfl hl (by decide) rfl (fun ls hl => ?_)
    refine lv_aload_n hx hb gX12_positiveOf_2.2.2.2.2.2.1 rfl (lv_at hl 1 rfl) ?_
    refine lv_aload_n hx hb gX12_positiveOf_2.2.2.2.2.2.2.1 rfl (lv_at hl 1 rfl) ?_
    refine th_getI (j := 22) hC cf_X12 hB.1 h0 ro_46 rfl rfl kf_X12_281 gX12_positiveOf_2.2.2.2.2.2.2.2 (fun x4 mx4 lx4 ux4 => ?_)
    replace hF := hF.trans (dv_bn (dv_getI h0 ro_46 (j := 22) rfl mx4 (by decide)))
    have fg5 : mo_f G H32 a0 22 = x4.toInt := mo_fat mx4
    refine th_call (th_runV (As := [.int x4]) (rest := []) hC mf_X12_codeAt km_X12_284 im_X12_codeAt se_X12_codeAt (c_X12_codeAt l G Γ H32 hB.1 hU a0 h0 x4 (by omega) B (by omega) (by omega)) rfl rfl ⟨by dsimp only; omega, by dsimp only; omega⟩ hB.1 h0 ro_46 rfl rfl hl.1 rfl (Nat.le_of_ble_eq_true rfl) gX12_positiveOf_3.1 ⟨Nat.le_refl _, Nat.le_refl _⟩) hB.2.1 (fun v41 H41 locs hp hz hS => ?_)
    obtain ⟨x6, rfl, q41_0, q41_1, rfl⟩ := hp
    have hB := th_B_s hB hS
    replace hF := hF.trans (dv_bn2 (q41_1))
    refine W.eq (g2 := F0 m 44 ls [.int x6]) rfl ?_
    have cd41 : mo_ce G H0 a0 B m1 = x6.toInt := by have q9 := q41_0; rw [mo_ce_F hB.1 hB.2.2 h0 (by decide)] at q9; rw [q9]; congr 1; omega
    refine lv_istore (lv' := [(4, .int x6), (2, .long y3), (0, .ref a0), (1, .int p1)]) hx hb gX12_positiveOf_3.2.1 hl (by decide) rfl (fun ls hl => ?_)
    refine lv_aload_n hx hb gX12_positiveOf_3.2.2.1 rfl (lv_at hl 2 rfl) ?_
    refine lv_dup hx hb gX12_positiveOf_3.2.2.2.1 rfl ?_
    refine th_getK hC cf_X12 hB.1 h0 ro_46 rfl (j := 22) (by decide) mx4 kf_X12_281 gX12_positiveOf_3.2.2.2.2.1 ?_
    replace hF := hF.trans (dv_bn (dv_getI h0 ro_46 (j := 22) rfl mx4 (by decide)))
    have fg7 : mo_f G H32 a0 22 = x4.toInt := mo_fat mx4
    have nz48 := mo_ce_nz (show mo_ce G H0 a0 B m1 ≠ 0 by omega)
    refine lv_iconst (v := 1) hx hb gX12_positiveOf_3.2.2.2.2.2.1 (by decide) ?_
    refine tr_iadd hx hb gX12_positiveOf_3.2.2.2.2.2.2.1 (Eq.refl _) tk_1 (by omega) (by omega) (fun x8 ex8 => ?_)
    replace hF := hF.trans (dv_bn (ex8.symm))
    refine th_put hC cf_X12 hB h0 (Or.inl h0) ro_46 rfl (j := 22) rfl th_sIa (by decide) rfl rfl rfl kf_X12_281 gX12_positiveOf_3.2.2.2.2.2.2.2 (fun H53 locs hB hf hst53 => ?_)
    have hR := th_RC_F hB.1 hR hf (th_T_s h0 ro_46 hst53) (by decide)
    have fv_H53_23 : mo_f G H53 a0 23 = mo_f G H32 a0 23 := mo_f_F hf h0 (by decide) (by decide)
    have fv_H53_25 : mo_f G H53 a0 25 = mo_f G H32 a0 25 := mo_f_F hf h0 (by decide) (by decide)
    replace hF := hF.trans (dv_bn (dv_putI hB.1 h0 ro_46 (j := 22) rfl (th_apart hC cf_X12) hst53 (Eq.refl _) (by decide)))
    have fp53 : mo_f G H53 a0 22 = x8.toInt := mo_f_St hst53
    refine lv_aload_n hx hb gX12_positiveOf_4.1 rfl (lv_at hl 2 rfl) ?_
    refine lv_iload_n hx hb gX12_positiveOf_4.2.1 rfl (lv_at hl 3 rfl) ?_
    refine th_call (th_runV (As := [.int p1]) (rest := []) hC mf_X12_sumOf km_X12_308 im_X12_sumOf se_X12_sumOf (c_X12_sumOf_d d l G Γ H53 hB.1 hR hU a0 h0 p1 (by omega) (by omega) B (m1 + 1) j ⟨by omega, by omega, by omega, by omega⟩ (by rw [mo_f_F hB.2.2 h0 (j := 25) (by decide) (by decide), mo_ce_F hB.1 hB.2.2 h0 (by decide)]; exact p2_)) rfl rfl ⟨by dsimp only; omega, by dsimp only; omega⟩ hB.1 h0 ro_46 rfl rfl hl.1 rfl (Nat.le_of_ble_eq_true rfl) gX12_positiveOf_4.2.2.1 ⟨Nat.le_refl _, Nat.le_refl _⟩) hB.2.1 (fun v58 H58 locs hp hz hS => ?_)
    obtain ⟨y9, rfl, hI1, hf, hR, z58_0, z58_1⟩ := hp
    have hB := th_B_c hB hI1 hS hf (by decide)
    have fv_H58_23 : mo_f G H58 a0 23 = mo_f G H53 a0 23 := mo_f_F hf h0 (by decide) (by decide)
    have fv_H58_25 : mo_f G H58 a0 25 = mo_f G H53 a0 25 := mo_f_F hf h0 (by decide) (by decide)
    replace hF := hF.trans (dv_bn2 (z58_1))
    refine W.eq (g2 := F0 m 61 ls [.long y9]) rfl ?_
    refine lv_lstore (lv' := [(5, .long y9), (4, .int x6), (2, .long y3), (0, .ref a0), (1, .int p1)]) hx hb gX12_positiveOf_4.2.2.2.1 hl (by decide) rfl (fun ls hl => ?_)
    refine lv_iload_n hx hb gX12_positiveOf_4.2.2.2.2.1 rfl (lv_at hl 4 rfl) ?_
    refine tr_if_eq (tgt := 125) hx hb gX12_positiveOf_4.2.2.2.2.2.1 (by decide) (Eq.refl _) (fun c64 => ?_) (fun c64 => ?_)
    · replace hF := hF.trans (if_pos c64)
      refine lv_iconst (v := 0) hx hb gX12_positiveOf_8.2.1 (by decide) ?_
      exact th_iret hC hH hr hlocks narrow_b0 hB.2.1 ⟨_, rfl, by decide, by decide, hB.1, hB.2.2, hR, by omega, (hF0.symm.trans (hF.trans (by rw [tk_0])))⟩ gX12_positiveOf_8.2.2
    · replace hF := hF.trans (if_neg c64)
      refine lv_aload_n hx hb gX12_positiveOf_4.2.2.2.2.2.2.1 rfl (lv_at hl 3 rfl) ?_
      refine th_getI (j := 24) hC cf_X12 hB.1 h0 ro_46 rfl rfl kf_X12_291 gX12_positiveOf_4.2.2.2.2.2.2.2 (fun x10 mx10 lx10 ux10 => ?_)
      replace hF := hF.trans (dv_bn (dv_getI h0 ro_46 (j := 24) rfl mx10 (by decide)))
      refine tr_if_ne (tgt := 125) hx hb gX12_positiveOf_5.1 (by decide) (Eq.refl _) (fun c71 => ?_) (fun c71 => ?_)
      · replace hF := hF.trans (if_pos c71)
        refine lv_iconst (v := 0) hx hb gX12_positiveOf_8.2.1 (by decide) ?_
        exact th_iret hC hH hr hlocks narrow_b0 hB.2.1 ⟨_, rfl, by decide, by decide, hB.1, hB.2.2, hR, by omega, (hF0.symm.trans (hF.trans (by rw [tk_0])))⟩ gX12_positiveOf_8.2.2
      · replace hF := hF.trans (if_neg (not_not_intro c71))
        refine lv_iload hx hb gX12_positiveOf_5.2.1 (lv_at hl 1 rfl) ?_
        refine lv_bipush (v := 60) hx hb gX12_positiveOf_5.2.2.1 (by decide) ?_
        refine th_call (th_runS (As := [.int 60]) (rest := [.int x6]) hC mf_X12_sign km_X12_240 st_X12_sign (c_X12_sign l G Γ H58 hB.1 hU 60 (by decide) (by decide)) rfl rfl ⟨by dsimp only; omega, by dsimp only; omega⟩ rfl hl.1 rfl (Nat.le_of_ble_eq_true rfl) gX12_positiveOf_5.2.2.2.1 ⟨Nat.le_refl _, Nat.le_refl _⟩) hB.2.1 (fun v78 H78 locs hp hz hS => ?_)
        obtain ⟨x11, rfl, lx11, ux11, q78_0, q78_1, rfl⟩ := hp
        have hB := th_B_s hB hS
        have w78_0 := tk_60
        have zf78 := q78_1
        rw [tk_60] at zf78
        replace hF := hF.trans (dv_bn2 (zf78))
        refine W.eq (g2 := F0 m 81 ls [.int x11, .int x6]) rfl ?_
        refine tr_icmp_ne (tgt := 94) hx hb gX12_positiveOf_5.2.2.2.2.1 (by decide) (Eq.refl _) (Eq.refl _) (fun c81 => ?_) (fun c81 => ?_)
        · replace hF := hF.trans (if_pos c81)
          refine lv_iload hx hb gX12_positiveOf_6.2.2.1 (lv_at hl 1 rfl) ?_
          refine lv_bipush (v := 62) hx hb gX12_positiveOf_6.2.2.2.1 (by decide) ?_
          refine th_call (th_runS (As := [.int 62]) (rest := [.int x6]) hC mf_X12_sign km_X12_240 st_X12_sign (c_X12_sign l G Γ H58 hB.1 hU 62 (by decide) (by decide)) rfl rfl ⟨by dsimp only; omega, by dsimp only; omega⟩ rfl hl.1 rfl (Nat.le_of_ble_eq_true rfl) gX12_positiveOf_6.2.2.2.2.1 ⟨Nat.le_refl _, Nat.le_refl _⟩) hB.2.1 (fun v98 H98 locs hp hz hS => ?_)
          obtain ⟨x12, rfl, lx12, ux12, q98_0, q98_1, rfl⟩ := hp
          have hB := th_B_s hB hS
          have w98_0 := tk_62
          have zf98 := q98_1
          rw [tk_62] at zf98
          replace hF := hF.trans (dv_bn2 (zf98))
          refine W.eq (g2 := F0 m 101 ls [.int x12, .int x6]) rfl ?_
          refine tr_icmp_ne (tgt := 114) hx hb gX12_positiveOf_6.2.2.2.2.2.1 (by decide) (Eq.refl _) (Eq.refl _) (fun c101 => ?_) (fun c101 => ?_)
          · replace hF := hF.trans (if_pos c101)
            refine lv_lload_n hx hb gX12_positiveOf_7.2.2.2.1 rfl (lv_at hl 2 rfl) ?_
            refine lv_lload hx hb gX12_positiveOf_7.2.2.2.2.1 (lv_at hl 0 rfl) ?_
            refine tr_lcmp2 hx hb gX12_positiveOf_7.2.2.2.2.2.1 (fun x13 fx13 gx13 ix13 => ?_)
            replace hF := hF.trans (dv_bn (dv_lcmp_e (Eq.refl (y3.toInt)) (Eq.refl (y9.toInt)) fx13 ix13))
            refine tr_if_ne (tgt := 125) hx hb gX12_positiveOf_7.2.2.2.2.2.2.1 (by decide) (Eq.refl _) (fun c118 => ?_) (fun c118 => ?_)
            · replace hF := hF.trans (if_pos c118)
              refine lv_iconst (v := 0) hx hb gX12_positiveOf_8.2.1 (by decide) ?_
              exact th_iret hC hH hr hlocks narrow_b0 hB.2.1 ⟨_, rfl, by decide, by decide, hB.1, hB.2.2, hR, by omega, (hF0.symm.trans (hF.trans (by rw [tk_0])))⟩ gX12_positiveOf_8.2.2
            · replace hF := hF.trans (if_neg (not_not_intro c118))
              refine lv_iconst (v := 1) hx hb gX12_positiveOf_7.2.2.2.2.2.2.2 (by decide) ?_
              refine lv_goto (tgt := 126) hx hb gX12_positiveOf_8.1 (by decide) ?_
              exact th_iret hC hH hr hlocks narrow_b1 hB.2.1 ⟨_, rfl, by decide, by decide, hB.1, hB.2.2, hR, by omega, (hF0.symm.trans (hF.trans (by rw [tk_1])))⟩ gX12_positiveOf_8.2.2
          · replace hF := hF.trans (if_neg (not_not_intro c101))
            refine lv_lload_n hx hb gX12_positiveOf_6.2.2.2.2.2.2.1 rfl (lv_at hl 2 rfl) ?_
            refine lv_lload hx hb gX12_positiveOf_6.2.2.2.2.2.2.2 (lv_at hl 0 rfl) ?_
            refine tr_lcmp2 hx hb gX12_positiveOf_7.1 (fun x14 fx14 gx14 ix14 => ?_)
            replace hF := hF.trans (dv_bn (dv_lcmp_e (Eq.refl (y3.toInt)) (Eq.refl (y9.toInt)) fx14 ix14))
            refine tr_if_le (tgt := 125) hx hb gX12_positiveOf_7.2.1 (by decide) (Eq.refl _) (fun c108 => ?_) (fun c108 => ?_)
            · replace hF := hF.trans (if_pos c108)
              refine lv_iconst (v := 0) hx hb gX12_positiveOf_8.2.1 (by decide) ?_
              exact th_iret hC hH hr hlocks narrow_b0 hB.2.1 ⟨_, rfl, by decide, by decide, hB.1, hB.2.2, hR, by omega, (hF0.symm.trans (hF.trans (by rw [tk_0])))⟩ gX12_positiveOf_8.2.2
            · replace hF := hF.trans (if_neg (Int.not_le.mpr c108))
              refine lv_goto (tgt := 121) hx hb gX12_positiveOf_7.2.2.1 (by decide) ?_
              refine lv_iconst (v := 1) hx hb gX12_positiveOf_7.2.2.2.2.2.2.2 (by decide) ?_
              refine lv_goto (tgt := 126) hx hb gX12_positiveOf_8.1 (by decide) ?_
              exact th_iret hC hH hr hlocks narrow_b1 hB.2.1 ⟨_, rfl, by decide, by decide, hB.1, hB.2.2, hR, by omega, (hF0.symm.trans (hF.trans (by rw [tk_1])))⟩ gX12_positiveOf_8.2.2
        · replace hF := hF.trans (if_neg (not_not_intro c81))
          refine lv_lload_n hx hb gX12_positiveOf_5.2.2.2.2.2.1 rfl (lv_at hl 2 rfl) ?_
          refine lv_lload hx hb gX12_positiveOf_5.2.2.2.2.2.2.1 (lv_at hl 0 rfl) ?_
          refine tr_lcmp2 hx hb gX12_positiveOf_5.2.2.2.2.2.2.2 (fun x15 fx15 gx15 ix15 => ?_)
          replace hF := hF.trans (dv_bn (dv_lcmp_e (Eq.refl (y3.toInt)) (Eq.refl (y9.toInt)) fx15 ix15))
          refine tr_if_ge (tgt := 125) hx hb gX12_positiveOf_6.1 (by decide) (Eq.refl _) (fun c88 => ?_) (fun c88 => ?_)
          · replace hF := hF.trans (if_pos c88)
            refine lv_iconst (v := 0) hx hb gX12_positiveOf_8.2.1 (by decide) ?_
            exact th_iret hC hH hr hlocks narrow_b0 hB.2.1 ⟨_, rfl, by decide, by decide, hB.1, hB.2.2, hR, by omega, (hF0.symm.trans (hF.trans (by rw [tk_0])))⟩ gX12_positiveOf_8.2.2
          · replace hF := hF.trans (if_neg (Int.not_le.mpr c88))
            refine lv_goto (tgt := 121) hx hb gX12_positiveOf_6.2.1 (by decide) ?_
            refine lv_iconst (v := 1) hx hb gX12_positiveOf_7.2.2.2.2.2.2.2 (by decide) ?_
            refine lv_goto (tgt := 126) hx hb gX12_positiveOf_8.1 (by decide) ?_
            exact th_iret hC hH hr hlocks narrow_b1 hB.2.1 ⟨_, rfl, by decide, by decide, hB.1, hB.2.2, hR, by omega, (hF0.symm.trans (hF.trans (by rw [tk_1])))⟩ gX12_positiveOf_8.2.2
  · replace hF := hF.trans (if_neg c9)
    refine lv_aload_n hx hb gX12_positiveOf_0.2.2.2.2.2.1 rfl (lv_at hl 0 rfl) ?_
    refine lv_iload_n hx hb gX12_positiveOf_0.2.2.2.2.2.2.1 rfl (lv_at hl 1 rfl) ?_
    obtain ⟨d', j1, hd', s1, e1, e2⟩ := (po.resolve_left (fun q => q.1 (by have w9 := (z6_0 (by omega)).2; omega))).2
    refine th_call (th_runV (As := [.int p1]) (rest := []) hC mf_X12_testOf km_X12_335 im_X12_testOf se_X12_testOf (ihd d' hd' l G Γ H6 hB.1 hR hU a0 h0 p1 (by omega) (by omega) B (i + 1) j1 (by have w9 := z6_0 (by omega); exact ⟨by omega, by omega, by omega, by omega⟩) (by rw [mo_f_F hB.2.2 h0 (j := 25) (by decide) (by decide), mo_ce_F hB.1 hB.2.2 h0 (by decide)]; exact s1)) rfl rfl ⟨by dsimp only; omega, by dsimp only; omega⟩ hB.1 h0 ro_46 rfl rfl hl.1 rfl (Nat.le_of_ble_eq_true rfl) gX12_positiveOf_0.2.2.2.2.2.2.2 ⟨Nat.le_refl _, Nat.le_refl _⟩) hB.2.1 (fun v14 H14 locs hp hz hS => ?_)
    obtain ⟨x16, rfl, lx16, ux16, hI1, hf, hR, z14_0, z14_1⟩ := hp
    have hB := th_B_c hB hI1 hS hf (by decide)
    have fv_H14_23 : mo_f G H14 a0 23 = mo_f G H6 a0 23 := mo_f_F hf h0 (by decide) (by decide)
    have fv_H14_25 : mo_f G H14 a0 25 = mo_f G H6 a0 25 := mo_f_F hf h0 (by decide) (by decide)
    have zf14 := z14_1
    rw [← dv_pre_s (z := (fun _ _ _ => dv_z)) (f := f_X12_testOf) hd'] at zf14
    replace hF := hF.trans (dv_bn2 (zf14))
    refine W.eq (g2 := F0 m 17 ls [.int x16]) rfl ?_
    refine lv_istore_n (lv' := [(2, .int x16), (0, .ref a0), (1, .int p1)]) hx hb gX12_positiveOf_1.1 rfl hl (by decide) rfl (fun ls hl => ?_)
    refine lv_aload_n hx hb gX12_positiveOf_1.2.1 rfl (lv_at hl 1 rfl) ?_
    refine lv_dup hx hb gX12_positiveOf_1.2.2.1 rfl ?_
    refine th_getI (j := 22) hC cf_X12 hB.1 h0 ro_46 rfl rfl kf_X12_281 gX12_positiveOf_1.2.2.2.1 (fun x17 mx17 lx17 ux17 => ?_)
    replace hF := hF.trans (dv_bn (dv_getI h0 ro_46 (j := 22) rfl mx17 (by decide)))
    have fg18 : mo_f G H14 a0 22 = x17.toInt := mo_fat mx17
    have nz20 := mo_ce_nz (show mo_ce G H0 a0 B j1 ≠ 0 by omega)
    refine lv_iconst (v := 1) hx hb gX12_positiveOf_1.2.2.2.2.1 (by decide) ?_
    refine tr_iadd hx hb gX12_positiveOf_1.2.2.2.2.2.1 (Eq.refl _) tk_1 (by omega) (by omega) (fun x19 ex19 => ?_)
    replace hF := hF.trans (dv_bn (ex19.symm))
    refine th_put hC cf_X12 hB h0 (Or.inl h0) ro_46 rfl (j := 22) rfl th_sIa (by decide) rfl rfl rfl kf_X12_281 gX12_positiveOf_1.2.2.2.2.2.2.1 (fun H25 locs hB hf hst25 => ?_)
    have hR := th_RC_F hB.1 hR hf (th_T_s h0 ro_46 hst25) (by decide)
    have fv_H25_23 : mo_f G H25 a0 23 = mo_f G H14 a0 23 := mo_f_F hf h0 (by decide) (by decide)
    have fv_H25_25 : mo_f G H25 a0 25 = mo_f G H14 a0 25 := mo_f_F hf h0 (by decide) (by decide)
    replace hF := hF.trans (dv_bn (dv_putI hB.1 h0 ro_46 (j := 22) rfl (th_apart hC cf_X12) hst25 (Eq.refl _) (by decide)))
    have fp25 : mo_f G H25 a0 22 = x19.toInt := mo_f_St hst25
    refine lv_iload_n hx hb gX12_positiveOf_1.2.2.2.2.2.2.2 rfl (lv_at hl 0 rfl) ?_
    exact th_iret hC hH hr hlocks (th_nb (by omega) (by omega)) hB.2.1 ⟨_, rfl, by omega, by omega, hB.1, hB.2.2, hR, by omega, (hF0.symm.trans hF)⟩ gX12_positiveOf_2.1

set_option maxHeartbeats 4000000 in
set_option maxRecDepth 100000 in
theorem c_X12_plainOf_s (d : Nat) (ihp : s_X12_positiveOf d) : s_X12_plainOf d := by
  intro l G Γ H0 hI hR hU a0 h0 p1 f1 g1 B i j k1 k2
  refine th_met RX12 (by decide) rfl (Nat.le_of_ble_eq_true rfl) ?_
  intro p e s m below meth c hC hH hr hlocks hnm ls hl
  have hx := hC.1
  have hb := hC.2.1
  have hB : th_B G Γ Γ [(46, 22), (46, 24)] H0 H0 [] := ⟨hI, va_S.rf, th_F_rf⟩
  have hl : lv_has ls 3 [(0, .ref a0), (1, .int p1)] := hl
  have lp1 := ti_lo p1; have up1 := ti_hi p1
  obtain ⟨F, hF0⟩ : ∃ F, F = f_X12_plainOf d (dv G Γ H0) ((a0 : Int)) (p1.toInt) := ⟨_, rfl⟩
  have hF := hF0.trans ((f_X12_plainOf_d d (dv G Γ H0) ((a0 : Int)) (p1.toInt)).trans (f_X12_plainOf_B.eq_1 d (f_X12_positiveOf d) (dv G Γ H0) ((a0 : Int)) (p1.toInt)))
  refine lv_iconst (v := 0) hx hb gX12_plainOf_0.1 (by decide) ?_
  refine lv_istore_n (lv' := [(2, .int 0), (0, .ref a0), (1, .int p1)]) hx hb gX12_plainOf_0.2.1 rfl hl (by decide) rfl (fun ls hl => ?_)
  have lp2 : ∀ (n2 : Nat) (H2 : Heap) (locs : List Loc) (ls : Array Slot) (j2_2 : Int32), th_B G Γ Γ [(46, 22), (46, 24)] H0 H2 locs → th_RC G Γ H2 → lv_has ls 3 [(0, .ref a0), (1, .int p1), (2, .int j2_2)] → F = dv_lp (f_X12_plainOf_2b d (f_X12_positiveOf d)) (dv G Γ H2, (a0 : Int), p1.toInt, j2_2.toInt) → 0 ≤ j2_2.toInt → j2_2.toInt ≤ 1 → (∃ m : Int, mo_f G H2 a0 22 = B + m ∧ 0 ≤ m ∧ mo_nots (mo_ce G H0 a0 B) (mo_pos (mo_f G H0 a0 25) (mo_ce G H0 a0 B) d) m j) → (B + j - mo_f G H2 a0 22) + 1 ≤ (n2 : Int) → W p l e ({ frames := 15 + 4 * d, cells := 0, slots := 0, locals := 726 + d * 100 } : Room) s m ([.ref a0, .int p1] : List Value).toArray below meth c H2 locs 0 0 (MQ below (th_Q (fun (v : Option Value) (H1 : Heap) => ∃ r : Int32, v = some (.int r) ∧ 0 ≤ r.toInt ∧ r.toInt ≤ 1 ∧ th_I G Γ H1 ∧ th_F G Γ [(46, 22), (46, 24)] H0 H1 ∧ th_RC G Γ H1 ∧ (mo_f G H1 a0 22 = B + j) ∧ (f_X12_plainOf d (dv G Γ H0) (a0 : Int) p1.toInt = (dv G Γ H1, r.toInt))) G) ([.ref a0, .int p1] : List Value).toArray s 0 0 (fun q => G.1.2.2 ≤ q)) (F0 m 2 ls []) := by
    intro n2
    induction n2 with
    | zero => intro H2 locs ls j2_2 hB hR hl hF g2_0 g2_1 g2_2 hm2; exact absurd hm2 (by have := mo_lpn (mo_pos_lt _ _ _) g2_2; omega)
    | succ n2 ih2 =>
      intro H2 locs ls j2_2 hB hR hl hF g2_0 g2_1 g2_2 hm2
      have lj2_2 := ti_lo j2_2; have uj2_2 := ti_hi j2_2
      have fv1_23 : mo_f G H2 a0 23 = mo_f G H0 a0 23 := mo_f_F hB.2.2 h0 (by decide) (by decide)
      have fv2_25 : mo_f G H2 a0 25 = mo_f G H0 a0 25 := mo_f_F hB.2.2 h0 (by decide) (by decide)
      have hm2 : (B + j - mo_f G H2 a0 22) + 1 ≤ (n2 : Int) + 1 := by omega
      replace hF := hF.trans (dv_lp_eq)
      replace hF := hF.trans (congrArg (dv_k (f_X12_plainOf_2b d (f_X12_positiveOf d))) (f_X12_plainOf_2c.eq_1 d (f_X12_positiveOf d) (dv G Γ H2) ((a0 : Int)) (p1.toInt) (j2_2.toInt)))
      refine lv_aload_n hx hb gX12_plainOf_0.2.2.1 rfl (lv_at hl 0 rfl) ?_
      obtain ⟨m6, a6, b6, r6⟩ := g2_2
      have ce6 : mo_ce G H2 a0 B m6 = mo_ce G H0 a0 B m6 := by rw [mo_ce_F hB.1 hB.2.2 h0 (by decide)]
      refine lv_bipush (v := 7) hx hb gX12_plainOf_0.2.2.2.1 (by decide) ?_
      refine th_call (th_runV (As := [.int 7]) (rest := []) hC mf_X12_passes0 km_X12_305 im_X12_passes0 se_X12_passes0 (c_X12_passes0 l G Γ H2 hB.1 hR hU a0 h0 7 (by decide) B m6 ⟨by omega, by omega, by omega, by omega⟩) rfl rfl ⟨by dsimp only; omega, by dsimp only; omega⟩ hB.1 h0 ro_46 rfl rfl hl.1 rfl (Nat.le_of_ble_eq_true rfl) gX12_plainOf_0.2.2.2.2.1 ⟨Nat.le_refl _, Nat.le_refl _⟩) hB.2.1 (fun v5 H5 locs hp hz hS => ?_)
      obtain ⟨x3, rfl, lx3, ux3, hI1, hf, hR, z5_0, z5_1, z5_2⟩ := hp
      have hB := th_B_c hB hI1 hS hf (by decide)
      have fv_H5_23 : mo_f G H5 a0 23 = mo_f G H2 a0 23 := mo_f_F hf h0 (by decide) (by decide)
      have fv_H5_25 : mo_f G H5 a0 25 = mo_f G H2 a0 25 := mo_f_F hf h0 (by decide) (by decide)
      have zf5 := z5_2
      rw [tk_7] at zf5
      replace hF := hF.trans (congrArg (dv_k (f_X12_plainOf_2b d (f_X12_positiveOf d))) (dv_bn2 (zf5)))
      refine W.eq (g2 := F0 m 8 ls [.int x3]) rfl ?_
      have tk7 := tk_7
      refine tr_if_eq (tgt := 24) hx hb gX12_plainOf_0.2.2.2.2.2.1 (by decide) (Eq.refl _) (fun c8 => ?_) (fun c8 => ?_)
      · replace hF := hF.trans (congrArg (dv_k (f_X12_plainOf_2b d (f_X12_positiveOf d))) (if_pos c8))
        refine lv_aload_n hx hb gX12_plainOf_1.2.2.2.2.2.1 rfl (lv_at hl 0 rfl) ?_
        refine lv_iload_n hx hb gX12_plainOf_1.2.2.2.2.2.2.1 rfl (lv_at hl 1 rfl) ?_
        have p7 := mo_nots_e r6 (by omega)
        refine th_call (th_runV (As := [.int p1]) (rest := []) hC mf_X12_positiveOf km_X12_332 im_X12_positiveOf se_X12_positiveOf (ihp l G Γ H5 hB.1 hR hU a0 h0 p1 (by omega) (by omega) B m6 j ⟨by omega, by omega, by omega, by omega⟩ (by rw [mo_f_F hB.2.2 h0 (j := 25) (by decide) (by decide), mo_ce_F hB.1 hB.2.2 h0 (by decide)]; exact p7)) rfl rfl ⟨by dsimp only; omega, by dsimp only; omega⟩ hB.1 h0 ro_46 rfl rfl hl.1 rfl (Nat.le_of_ble_eq_true rfl) gX12_plainOf_1.2.2.2.2.2.2.2 ⟨Nat.le_refl _, Nat.le_refl _⟩) hB.2.1 (fun v26 H26 locs hp hz hS => ?_)
        obtain ⟨x4, rfl, lx4, ux4, hI1, hf, hR, z26_0, z26_1⟩ := hp
        have hB := th_B_c hB hI1 hS hf (by decide)
        have fv_H26_23 : mo_f G H26 a0 23 = mo_f G H5 a0 23 := mo_f_F hf h0 (by decide) (by decide)
        have fv_H26_25 : mo_f G H26 a0 25 = mo_f G H5 a0 25 := mo_f_F hf h0 (by decide) (by decide)
        replace hF := hF.trans (congrArg (dv_k (f_X12_plainOf_2b d (f_X12_positiveOf d))) (dv_bn2 (z26_1)))
        refine W.eq (g2 := F0 m 29 ls [.int x4]) rfl ?_
        refine lv_iload_n hx hb gX12_plainOf_2.1 rfl (lv_at hl 2 rfl) ?_
        refine tr_icmp_eq (tgt := 37) hx hb gX12_plainOf_2.2.1 (by decide) (Eq.refl _) (Eq.refl _) (fun c30 => ?_) (fun c30 => ?_)
        · replace hF := hF.trans (congrArg (dv_k (f_X12_plainOf_2b d (f_X12_positiveOf d))) (if_pos c30))
          refine lv_iconst (v := 0) hx hb gX12_plainOf_2.2.2.2.2.1 (by decide) ?_
          replace hF := hF.trans (dv_kr)
          exact th_iret hC hH hr hlocks narrow_b0 hB.2.1 ⟨_, rfl, by decide, by decide, hB.1, hB.2.2, hR, by omega, (hF0.symm.trans (hF.trans (by rw [tk_0])))⟩ gX12_plainOf_2.2.2.2.2.2
        · replace hF := hF.trans (congrArg (dv_k (f_X12_plainOf_2b d (f_X12_positiveOf d))) (if_neg c30))
          refine lv_iconst (v := 1) hx hb gX12_plainOf_2.2.2.1 (by decide) ?_
          refine lv_goto (tgt := 38) hx hb gX12_plainOf_2.2.2.2.1 (by decide) ?_
          replace hF := hF.trans (dv_kr)
          exact th_iret hC hH hr hlocks narrow_b1 hB.2.1 ⟨_, rfl, by decide, by decide, hB.1, hB.2.2, hR, by omega, (hF0.symm.trans (hF.trans (by rw [tk_1])))⟩ gX12_plainOf_2.2.2.2.2.2
      · replace hF := hF.trans (congrArg (dv_k (f_X12_plainOf_2b d (f_X12_positiveOf d))) (if_neg c8))
        refine lv_iload_n hx hb gX12_plainOf_0.2.2.2.2.2.2.1 rfl (lv_at hl 2 rfl) ?_
        have jn20 : ∀ (locs : List Loc) (ls : Array Slot) (s20_0 : Int32), th_B G Γ Γ [(46, 22), (46, 24)] H0 H5 locs → lv_has ls 3 [(0, .ref a0), (1, .int p1)] → F = dv_k (f_X12_plainOf_2b d (f_X12_positiveOf d)) (f_X12_plainOf_20 d (f_X12_positiveOf d) (dv G Γ H5) ((a0 : Int)) (p1.toInt) (s20_0.toInt)) → 0 ≤ s20_0.toInt → s20_0.toInt ≤ 1 → W p l e ({ frames := 15 + 4 * d, cells := 0, slots := 0, locals := 726 + d * 100 } : Room) s m ([.ref a0, .int p1] : List Value).toArray below meth c H5 locs 0 0 (MQ below (th_Q (fun (v : Option Value) (H1 : Heap) => ∃ r : Int32, v = some (.int r) ∧ 0 ≤ r.toInt ∧ r.toInt ≤ 1 ∧ th_I G Γ H1 ∧ th_F G Γ [(46, 22), (46, 24)] H0 H1 ∧ th_RC G Γ H1 ∧ (mo_f G H1 a0 22 = B + j) ∧ (f_X12_plainOf d (dv G Γ H0) (a0 : Int) p1.toInt = (dv G Γ H1, r.toInt))) G) ([.ref a0, .int p1] : List Value).toArray s 0 0 (fun q => G.1.2.2 ≤ q)) (F0 m 20 ls [.int s20_0]) := by
          intro locs ls s20_0 hB hl hF g20_0 g20_1
          have ls20_0 := ti_lo s20_0; have us20_0 := ti_hi s20_0
          replace hF := hF.trans (congrArg (dv_k (f_X12_plainOf_2b d (f_X12_positiveOf d))) (f_X12_plainOf_20.eq_1 d (f_X12_positiveOf d) (dv G Γ H5) ((a0 : Int)) (p1.toInt) (s20_0.toInt)))
          refine lv_istore_n (lv' := [(2, .int s20_0), (0, .ref a0), (1, .int p1)]) hx hb gX12_plainOf_1.2.2.2.1 rfl hl (by decide) rfl (fun ls hl => ?_)
          refine lv_goto (tgt := 2) hx hb gX12_plainOf_1.2.2.2.2.1 (by decide) ?_
          replace hF := hF.trans (dv_kl)
          exact ih2 H5 locs ls s20_0 hB hR (lv_sub hl [1, 2, 0] rfl) hF (by omega) (by omega) ⟨m6 + 1, by omega, by omega, mo_nots_s r6 (by omega)⟩ (by omega)
        refine tr_if_ne (tgt := 19) hx hb gX12_plainOf_0.2.2.2.2.2.2.2 (by decide) (Eq.refl _) (fun c12 => ?_) (fun c12 => ?_)
        · replace hF := hF.trans (congrArg (dv_k (f_X12_plainOf_2b d (f_X12_positiveOf d))) (if_pos c12))
          refine lv_iconst (v := 0) hx hb gX12_plainOf_1.2.2.1 (by decide) ?_
          exact jn20 locs ls 0 hB (lv_sub hl [0, 1] rfl) (by rw [tk_0]; exact hF) (by decide) (by decide)
        · replace hF := hF.trans (congrArg (dv_k (f_X12_plainOf_2b d (f_X12_positiveOf d))) (if_neg (not_not_intro c12)))
          refine lv_iconst (v := 1) hx hb gX12_plainOf_1.1 (by decide) ?_
          refine lv_goto (tgt := 20) hx hb gX12_plainOf_1.2.1 (by decide) ?_
          exact jn20 locs ls 1 hB (lv_sub hl [0, 1] rfl) (by rw [tk_1]; exact hF) (by decide) (by decide)
  exact lp2 ((B + j - mo_f G H0 a0 22) + 1).toNat H0 [] ls 0 hB hR (lv_sub hl [1, 2, 0] rfl) (by rw [tk_0]; exact hF) (by decide) (by decide) ⟨i, by omega, by omega, k2⟩ (by have w0 := tk_0; omega)

set_option maxHeartbeats 4000000 in
set_option maxRecDepth 100000 in
theorem c_X12_bothOf_s (d : Nat) (ihp : s_X12_plainOf d) : s_X12_bothOf d := by
  intro l G Γ H0 hI hR hU a0 h0 p1 f1 g1 B i j k1 k2
  refine th_met RX12 (by decide) rfl (Nat.le_of_ble_eq_true rfl) ?_
  intro p e s m below meth c hC hH hr hlocks hnm ls hl
  have hx := hC.1
  have hb := hC.2.1
  have hB : th_B G Γ Γ [(46, 22), (46, 24)] H0 H0 [] := ⟨hI, va_S.rf, th_F_rf⟩
  have hl : lv_has ls 4 [(0, .ref a0), (1, .int p1)] := hl
  have lp1 := ti_lo p1; have up1 := ti_hi p1
  obtain ⟨F, hF0⟩ : ∃ F, F = f_X12_bothOf d (dv G Γ H0) ((a0 : Int)) (p1.toInt) := ⟨_, rfl⟩
  have hF := hF0.trans ((f_X12_bothOf_d d (dv G Γ H0) ((a0 : Int)) (p1.toInt)).trans (f_X12_bothOf_B.eq_1 d (f_X12_plainOf d) (dv G Γ H0) ((a0 : Int)) (p1.toInt)))
  refine lv_aload_n hx hb gX12_bothOf_0.1 rfl (lv_at hl 0 rfl) ?_
  obtain ⟨m1, p1_, r1⟩ := mo_chain_open k2
  have lt1 := mo_plain_lt _ _ _ _ _ p1_
  refine lv_iload_n hx hb gX12_bothOf_0.2.1 rfl (lv_at hl 1 rfl) ?_
  refine th_call (th_runV (As := [.int p1]) (rest := []) hC mf_X12_plainOf km_X12_329 im_X12_plainOf se_X12_plainOf (ihp l G Γ H0 hB.1 hR hU a0 h0 p1 (by omega) (by omega) B i m1 k1 p1_) rfl rfl ⟨by dsimp only; omega, by dsimp only; omega⟩ hB.1 h0 ro_46 rfl rfl hl.1 rfl (Nat.le_of_ble_eq_true rfl) gX12_bothOf_0.2.2.1 ⟨Nat.le_refl _, Nat.le_refl _⟩) hB.2.1 (fun v2 H2 locs hp hz hS => ?_)
  obtain ⟨x1, rfl, lx1, ux1, hI1, hf, hR, z2_0, z2_1⟩ := hp
  have hB := th_B_c hB hI1 hS hf (by decide)
  have fv_H2_23 : mo_f G H2 a0 23 = mo_f G H0 a0 23 := mo_f_F hf h0 (by decide) (by decide)
  have fv_H2_25 : mo_f G H2 a0 25 = mo_f G H0 a0 25 := mo_f_F hf h0 (by decide) (by decide)
  replace hF := hF.trans (dv_bn2 (z2_1))
  refine W.eq (g2 := F0 m 5 ls [.int x1]) rfl ?_
  refine lv_istore_n (lv' := [(2, .int x1), (0, .ref a0), (1, .int p1)]) hx hb gX12_bothOf_0.2.2.2.1 rfl hl (by decide) rfl (fun ls hl => ?_)
  have lp6 : ∀ (n6 : Nat) (H6 : Heap) (locs : List Loc) (ls : Array Slot) (j6_2 : Int32), th_B G Γ Γ [(46, 22), (46, 24)] H0 H6 locs → th_RC G Γ H6 → lv_has ls 4 [(0, .ref a0), (1, .int p1), (2, .int j6_2)] → F = dv_lp (f_X12_bothOf_6b d (f_X12_plainOf d)) (dv G Γ H6, (a0 : Int), p1.toInt, j6_2.toInt) → 0 ≤ j6_2.toInt → j6_2.toInt ≤ 1 → (∃ m : Int, mo_f G H6 a0 22 = B + m ∧ 0 ≤ m ∧ mo_rest (mo_ce G H0 a0 B) (mo_plain (mo_f G H0 a0 25) (mo_ce G H0 a0 B) d) (mo_is 6) m j) → (B + j - mo_f G H6 a0 22) + 1 ≤ (n6 : Int) → W p l e ({ frames := 16 + 4 * d, cells := 0, slots := 0, locals := 748 + d * 100 } : Room) s m ([.ref a0, .int p1] : List Value).toArray below meth c H6 locs 0 0 (MQ below (th_Q (fun (v : Option Value) (H1 : Heap) => ∃ r : Int32, v = some (.int r) ∧ 0 ≤ r.toInt ∧ r.toInt ≤ 1 ∧ th_I G Γ H1 ∧ th_F G Γ [(46, 22), (46, 24)] H0 H1 ∧ th_RC G Γ H1 ∧ (mo_f G H1 a0 22 = B + j) ∧ (f_X12_bothOf d (dv G Γ H0) (a0 : Int) p1.toInt = (dv G Γ H1, r.toInt))) G) ([.ref a0, .int p1] : List Value).toArray s 0 0 (fun q => G.1.2.2 ≤ q)) (F0 m 6 ls []) := by
    intro n6
    induction n6 with
    | zero => intro H6 locs ls j6_2 hB hR hl hF g6_0 g6_1 g6_2 hm6; exact absurd hm6 (by have := mo_lp (mo_plain_lt _ _ _) g6_2; omega)
    | succ n6 ih6 =>
      intro H6 locs ls j6_2 hB hR hl hF g6_0 g6_1 g6_2 hm6
      have lj6_2 := ti_lo j6_2; have uj6_2 := ti_hi j6_2
      have fv2_23 : mo_f G H6 a0 23 = mo_f G H0 a0 23 := mo_f_F hB.2.2 h0 (by decide) (by decide)
      have fv3_25 : mo_f G H6 a0 25 = mo_f G H0 a0 25 := mo_f_F hB.2.2 h0 (by decide) (by decide)
      have hm6 : (B + j - mo_f G H6 a0 22) + 1 ≤ (n6 : Int) + 1 := by omega
      replace hF := hF.trans (dv_lp_eq)
      replace hF := hF.trans (congrArg (dv_k (f_X12_bothOf_6b d (f_X12_plainOf d))) (f_X12_bothOf_6c.eq_1 d (f_X12_plainOf d) (dv G Γ H6) ((a0 : Int)) (p1.toInt) (j6_2.toInt)))
      refine lv_aload_n hx hb gX12_bothOf_0.2.2.2.2.1 rfl (lv_at hl 0 rfl) ?_
      obtain ⟨m6, a6, b6, r6⟩ := g6_2
      have ce6 : mo_ce G H6 a0 B m6 = mo_ce G H0 a0 B m6 := by rw [mo_ce_F hB.1 hB.2.2 h0 (by decide)]
      refine lv_bipush (v := 6) hx hb gX12_bothOf_0.2.2.2.2.2.1 (by decide) ?_
      refine th_call (th_runV (As := [.int 6]) (rest := []) hC mf_X12_passes0 km_X12_305 im_X12_passes0 se_X12_passes0 (c_X12_passes0 l G Γ H6 hB.1 hR hU a0 h0 6 (by decide) B m6 ⟨by omega, by omega, by omega, by omega⟩) rfl rfl ⟨by dsimp only; omega, by dsimp only; omega⟩ hB.1 h0 ro_46 rfl rfl hl.1 rfl (Nat.le_of_ble_eq_true rfl) gX12_bothOf_0.2.2.2.2.2.2.1 ⟨Nat.le_refl _, Nat.le_refl _⟩) hB.2.1 (fun v9 H9 locs hp hz hS => ?_)
      obtain ⟨x4, rfl, lx4, ux4, hI1, hf, hR, z9_0, z9_1, z9_2⟩ := hp
      have hB := th_B_c hB hI1 hS hf (by decide)
      have fv_H9_23 : mo_f G H9 a0 23 = mo_f G H6 a0 23 := mo_f_F hf h0 (by decide) (by decide)
      have fv_H9_25 : mo_f G H9 a0 25 = mo_f G H6 a0 25 := mo_f_F hf h0 (by decide) (by decide)
      have zf9 := z9_2
      rw [tk_6] at zf9
      replace hF := hF.trans (congrArg (dv_k (f_X12_bothOf_6b d (f_X12_plainOf d))) (dv_bn2 (zf9)))
      refine W.eq (g2 := F0 m 12 ls [.int x4]) rfl ?_
      have tkw := tk_6
      refine tr_if_eq (tgt := 50) hx hb gX12_bothOf_0.2.2.2.2.2.2.2 (by decide) (Eq.refl _) (fun c12 => ?_) (fun c12 => ?_)
      · replace hF := hF.trans (congrArg (dv_k (f_X12_bothOf_6b d (f_X12_plainOf d))) (if_pos c12))
        refine lv_iload_n hx hb gX12_bothOf_3.2.2.2.1 rfl (lv_at hl 2 rfl) ?_
        replace hF := hF.trans (dv_kr)
        exact th_iret hC hH hr hlocks (th_nb (by omega) (by omega)) hB.2.1 ⟨_, rfl, by omega, by omega, hB.1, hB.2.2, hR, by have w9 := z9_1 (by omega); rw [← mo_rest_end r6 (show ¬ (mo_ce G H0 a0 B m6 = 6) by omega)]; omega, (hF0.symm.trans hF)⟩ gX12_bothOf_3.2.2.2.2
      · replace hF := hF.trans (congrArg (dv_k (f_X12_bothOf_6b d (f_X12_plainOf d))) (if_neg c12))
        refine lv_aload_n hx hb gX12_bothOf_1.1 rfl (lv_at hl 0 rfl) ?_
        obtain ⟨m7, p7, r7⟩ := mo_rest_op r6 (show mo_ce G H0 a0 B m6 = 6 by have w9 := z9_0 (by omega); omega)
        have lt7 := mo_plain_lt _ _ _ _ _ p7
        have w7 := z9_0 (by omega)
        refine lv_iload_n hx hb gX12_bothOf_1.2.1 rfl (lv_at hl 1 rfl) ?_
        have jn29 : ∀ (locs : List Loc) (ls : Array Slot) (s29_1 : Int32), th_B G Γ Γ [(46, 22), (46, 24)] H0 H9 locs → lv_has ls 4 [(0, .ref a0), (1, .int p1), (2, .int j6_2)] → F = dv_k (f_X12_bothOf_6b d (f_X12_plainOf d)) (f_X12_bothOf_29 d (f_X12_plainOf d) (dv G Γ H9) ((a0 : Int)) (p1.toInt) (j6_2.toInt) (s29_1.toInt)) → 0 ≤ s29_1.toInt → s29_1.toInt ≤ 1 → W p l e ({ frames := 16 + 4 * d, cells := 0, slots := 0, locals := 748 + d * 100 } : Room) s m ([.ref a0, .int p1] : List Value).toArray below meth c H9 locs 0 0 (MQ below (th_Q (fun (v : Option Value) (H1 : Heap) => ∃ r : Int32, v = some (.int r) ∧ 0 ≤ r.toInt ∧ r.toInt ≤ 1 ∧ th_I G Γ H1 ∧ th_F G Γ [(46, 22), (46, 24)] H0 H1 ∧ th_RC G Γ H1 ∧ (mo_f G H1 a0 22 = B + j) ∧ (f_X12_bothOf d (dv G Γ H0) (a0 : Int) p1.toInt = (dv G Γ H1, r.toInt))) G) ([.ref a0, .int p1] : List Value).toArray s 0 0 (fun q => G.1.2.2 ≤ q)) (F0 m 29 ls [.int s29_1, .ref a0]) := by
          intro locs ls s29_1 hB hl hF g29_0 g29_1
          have ls29_1 := ti_lo s29_1; have us29_1 := ti_hi s29_1
          replace hF := hF.trans (congrArg (dv_k (f_X12_bothOf_6b d (f_X12_plainOf d))) (f_X12_bothOf_29.eq_1 d (f_X12_plainOf d) (dv G Γ H9) ((a0 : Int)) (p1.toInt) (j6_2.toInt) (s29_1.toInt)))
          refine th_call (th_runV (As := [.int s29_1]) (rest := []) hC mf_X12_plainOf km_X12_329 im_X12_plainOf se_X12_plainOf (ihp l G Γ H9 hB.1 hR hU a0 h0 s29_1 (by omega) (by omega) B (m6 + 1) m7 ⟨by omega, by omega, by omega, by omega⟩ (by rw [mo_f_F hB.2.2 h0 (j := 25) (by decide) (by decide), mo_ce_F hB.1 hB.2.2 h0 (by decide)]; exact p7)) rfl rfl ⟨by dsimp only; omega, by dsimp only; omega⟩ hB.1 h0 ro_46 rfl rfl hl.1 rfl (Nat.le_of_ble_eq_true rfl) gX12_bothOf_2.1 ⟨Nat.le_refl _, Nat.le_refl _⟩) hB.2.1 (fun v29 H29 locs hp hz hS => ?_)
          obtain ⟨x5, rfl, lx5, ux5, hI1, hf, hR, z29_0, z29_1⟩ := hp
          have hB := th_B_c hB hI1 hS hf (by decide)
          have fv_H29_23 : mo_f G H29 a0 23 = mo_f G H9 a0 23 := mo_f_F hf h0 (by decide) (by decide)
          have fv_H29_25 : mo_f G H29 a0 25 = mo_f G H9 a0 25 := mo_f_F hf h0 (by decide) (by decide)
          replace hF := hF.trans (congrArg (dv_k (f_X12_bothOf_6b d (f_X12_plainOf d))) (dv_bn2 (z29_1)))
          refine W.eq (g2 := F0 m 32 ls [.int x5]) rfl ?_
          refine lv_istore_n (lv' := [(3, .int x5), (0, .ref a0), (1, .int p1), (2, .int j6_2)]) hx hb gX12_bothOf_2.2.1 rfl hl (by decide) rfl (fun ls hl => ?_)
          refine lv_iload_n hx hb gX12_bothOf_2.2.2.1 rfl (lv_at hl 3 rfl) ?_
          have jn46 : ∀ (locs : List Loc) (ls : Array Slot) (s46_0 : Int32), th_B G Γ Γ [(46, 22), (46, 24)] H0 H29 locs → lv_has ls 4 [(0, .ref a0), (1, .int p1)] → F = dv_k (f_X12_bothOf_6b d (f_X12_plainOf d)) (f_X12_bothOf_46 d (f_X12_plainOf d) (dv G Γ H29) ((a0 : Int)) (p1.toInt) (s46_0.toInt)) → 0 ≤ s46_0.toInt → s46_0.toInt ≤ 1 → W p l e ({ frames := 16 + 4 * d, cells := 0, slots := 0, locals := 748 + d * 100 } : Room) s m ([.ref a0, .int p1] : List Value).toArray below meth c H29 locs 0 0 (MQ below (th_Q (fun (v : Option Value) (H1 : Heap) => ∃ r : Int32, v = some (.int r) ∧ 0 ≤ r.toInt ∧ r.toInt ≤ 1 ∧ th_I G Γ H1 ∧ th_F G Γ [(46, 22), (46, 24)] H0 H1 ∧ th_RC G Γ H1 ∧ (mo_f G H1 a0 22 = B + j) ∧ (f_X12_bothOf d (dv G Γ H0) (a0 : Int) p1.toInt = (dv G Γ H1, r.toInt))) G) ([.ref a0, .int p1] : List Value).toArray s 0 0 (fun q => G.1.2.2 ≤ q)) (F0 m 46 ls [.int s46_0]) := by
            intro locs ls s46_0 hB hl hF g46_0 g46_1
            have ls46_0 := ti_lo s46_0; have us46_0 := ti_hi s46_0
            replace hF := hF.trans (congrArg (dv_k (f_X12_bothOf_6b d (f_X12_plainOf d))) (f_X12_bothOf_46.eq_1 d (f_X12_plainOf d) (dv G Γ H29) ((a0 : Int)) (p1.toInt) (s46_0.toInt)))
            refine lv_istore_n (lv' := [(2, .int s46_0), (0, .ref a0), (1, .int p1)]) hx hb gX12_bothOf_3.2.1 rfl hl (by decide) rfl (fun ls hl => ?_)
            refine lv_goto (tgt := 6) hx hb gX12_bothOf_3.2.2.1 (by decide) ?_
            replace hF := hF.trans (dv_kl)
            exact ih6 H29 locs ls s46_0 hB hR (lv_sub hl [1, 2, 0] rfl) hF (by omega) (by omega) ⟨m7, by omega, by omega, r7⟩ (by omega)
          have jn45 : ∀ (locs : List Loc) (ls : Array Slot) , th_B G Γ Γ [(46, 22), (46, 24)] H0 H29 locs → lv_has ls 4 [(0, .ref a0), (1, .int p1)] → F = dv_k (f_X12_bothOf_6b d (f_X12_plainOf d)) (f_X12_bothOf_45 d (f_X12_plainOf d) (dv G Γ H29) ((a0 : Int)) (p1.toInt)) → W p l e ({ frames := 16 + 4 * d, cells := 0, slots := 0, locals := 748 + d * 100 } : Room) s m ([.ref a0, .int p1] : List Value).toArray below meth c H29 locs 0 0 (MQ below (th_Q (fun (v : Option Value) (H1 : Heap) => ∃ r : Int32, v = some (.int r) ∧ 0 ≤ r.toInt ∧ r.toInt ≤ 1 ∧ th_I G Γ H1 ∧ th_F G Γ [(46, 22), (46, 24)] H0 H1 ∧ th_RC G Γ H1 ∧ (mo_f G H1 a0 22 = B + j) ∧ (f_X12_bothOf d (dv G Γ H0) (a0 : Int) p1.toInt = (dv G Γ H1, r.toInt))) G) ([.ref a0, .int p1] : List Value).toArray s 0 0 (fun q => G.1.2.2 ≤ q)) (F0 m 45 ls []) := by
            intro locs ls hB hl hF
            replace hF := hF.trans (congrArg (dv_k (f_X12_bothOf_6b d (f_X12_plainOf d))) (f_X12_bothOf_45.eq_1 d (f_X12_plainOf d) (dv G Γ H29) ((a0 : Int)) (p1.toInt)))
            refine lv_iconst (v := 0) hx hb gX12_bothOf_3.1 (by decide) ?_
            exact jn46 locs ls 0 hB (lv_sub hl [0, 1] rfl) (by rw [tk_0]; exact hF) (by decide) (by decide)
          refine tr_if_eq (tgt := 45) hx hb gX12_bothOf_2.2.2.2.1 (by decide) (Eq.refl _) (fun c34 => ?_) (fun c34 => ?_)
          · replace hF := hF.trans (congrArg (dv_k (f_X12_bothOf_6b d (f_X12_plainOf d))) (if_pos c34))
            exact jn45 locs ls hB (lv_sub hl [1, 2] rfl) hF
          · replace hF := hF.trans (congrArg (dv_k (f_X12_bothOf_6b d (f_X12_plainOf d))) (if_neg c34))
            refine lv_iload_n hx hb gX12_bothOf_2.2.2.2.2.1 rfl (lv_at hl 0 rfl) ?_
            refine tr_if_eq (tgt := 45) hx hb gX12_bothOf_2.2.2.2.2.2.1 (by decide) (Eq.refl _) (fun c38 => ?_) (fun c38 => ?_)
            · replace hF := hF.trans (congrArg (dv_k (f_X12_bothOf_6b d (f_X12_plainOf d))) (if_pos c38))
              exact jn45 locs ls hB (lv_sub hl [1, 2] rfl) hF
            · replace hF := hF.trans (congrArg (dv_k (f_X12_bothOf_6b d (f_X12_plainOf d))) (if_neg c38))
              refine lv_iconst (v := 1) hx hb gX12_bothOf_2.2.2.2.2.2.2.1 (by decide) ?_
              refine lv_goto (tgt := 46) hx hb gX12_bothOf_2.2.2.2.2.2.2.2 (by decide) ?_
              exact jn46 locs ls 1 hB (lv_sub hl [1, 2] rfl) (by rw [tk_1]; exact hF) (by decide) (by decide)
        have jn28 : ∀ (locs : List Loc) (ls : Array Slot) , th_B G Γ Γ [(46, 22), (46, 24)] H0 H9 locs → lv_has ls 4 [(0, .ref a0), (1, .int p1), (2, .int j6_2)] → F = dv_k (f_X12_bothOf_6b d (f_X12_plainOf d)) (f_X12_bothOf_28 d (f_X12_plainOf d) (dv G Γ H9) ((a0 : Int)) (p1.toInt) (j6_2.toInt)) → W p l e ({ frames := 16 + 4 * d, cells := 0, slots := 0, locals := 748 + d * 100 } : Room) s m ([.ref a0, .int p1] : List Value).toArray below meth c H9 locs 0 0 (MQ below (th_Q (fun (v : Option Value) (H1 : Heap) => ∃ r : Int32, v = some (.int r) ∧ 0 ≤ r.toInt ∧ r.toInt ≤ 1 ∧ th_I G Γ H1 ∧ th_F G Γ [(46, 22), (46, 24)] H0 H1 ∧ th_RC G Γ H1 ∧ (mo_f G H1 a0 22 = B + j) ∧ (f_X12_bothOf d (dv G Γ H0) (a0 : Int) p1.toInt = (dv G Γ H1, r.toInt))) G) ([.ref a0, .int p1] : List Value).toArray s 0 0 (fun q => G.1.2.2 ≤ q)) (F0 m 28 ls [.ref a0]) := by
          intro locs ls hB hl hF
          replace hF := hF.trans (congrArg (dv_k (f_X12_bothOf_6b d (f_X12_plainOf d))) (f_X12_bothOf_28.eq_1 d (f_X12_plainOf d) (dv G Γ H9) ((a0 : Int)) (p1.toInt) (j6_2.toInt)))
          refine lv_iconst (v := 0) hx hb gX12_bothOf_1.2.2.2.2.2.2.2 (by decide) ?_
          exact jn29 locs ls 0 hB (lv_sub hl [0, 1, 2] rfl) (by rw [tk_0]; exact hF) (by decide) (by decide)
        refine tr_if_eq (tgt := 28) hx hb gX12_bothOf_1.2.2.1 (by decide) (Eq.refl _) (fun c17 => ?_) (fun c17 => ?_)
        · replace hF := hF.trans (congrArg (dv_k (f_X12_bothOf_6b d (f_X12_plainOf d))) (if_pos c17))
          exact jn28 locs ls hB (lv_sub hl [0, 1, 2] rfl) hF
        · replace hF := hF.trans (congrArg (dv_k (f_X12_bothOf_6b d (f_X12_plainOf d))) (if_neg c17))
          refine lv_iload_n hx hb gX12_bothOf_1.2.2.2.1 rfl (lv_at hl 2 rfl) ?_
          refine tr_if_eq (tgt := 28) hx hb gX12_bothOf_1.2.2.2.2.1 (by decide) (Eq.refl _) (fun c21 => ?_) (fun c21 => ?_)
          · replace hF := hF.trans (congrArg (dv_k (f_X12_bothOf_6b d (f_X12_plainOf d))) (if_pos c21))
            exact jn28 locs ls hB (lv_sub hl [0, 1, 2] rfl) hF
          · replace hF := hF.trans (congrArg (dv_k (f_X12_bothOf_6b d (f_X12_plainOf d))) (if_neg c21))
            refine lv_iconst (v := 1) hx hb gX12_bothOf_1.2.2.2.2.2.1 (by decide) ?_
            refine lv_goto (tgt := 29) hx hb gX12_bothOf_1.2.2.2.2.2.2.1 (by decide) ?_
            exact jn29 locs ls 1 hB (lv_sub hl [0, 1, 2] rfl) (by rw [tk_1]; exact hF) (by decide) (by decide)
  exact lp6 ((B + j - mo_f G H2 a0 22) + 1).toNat H2 locs ls x1 hB hR (lv_sub hl [1, 2, 0] rfl) hF (by omega) (by omega) ⟨m1, by omega, by omega, r1⟩ (by omega)

set_option maxHeartbeats 4000000 in
set_option maxRecDepth 100000 in
theorem c_X12_testOf_s (d : Nat) (ihp : s_X12_bothOf d) : s_X12_testOf d := by
  intro l G Γ H0 hI hR hU a0 h0 p1 f1 g1 B i j k1 k2
  refine th_met RX12 (by decide) rfl (Nat.le_of_ble_eq_true rfl) ?_
  intro p e s m below meth c hC hH hr hlocks hnm ls hl
  have hx := hC.1
  have hb := hC.2.1
  have hB : th_B G Γ Γ [(46, 22), (46, 24)] H0 H0 [] := ⟨hI, va_S.rf, th_F_rf⟩
  have hl : lv_has ls 4 [(0, .ref a0), (1, .int p1)] := hl
  have lp1 := ti_lo p1; have up1 := ti_hi p1
  obtain ⟨F, hF0⟩ : ∃ F, F = f_X12_testOf d (dv G Γ H0) ((a0 : Int)) (p1.toInt) := ⟨_, rfl⟩
  have hF := hF0.trans ((f_X12_testOf_d d (dv G Γ H0) ((a0 : Int)) (p1.toInt)).trans (f_X12_testOf_B.eq_1 d (f_X12_bothOf d) (dv G Γ H0) ((a0 : Int)) (p1.toInt)))
  refine lv_aload_n hx hb gX12_testOf_0.1 rfl (lv_at hl 0 rfl) ?_
  obtain ⟨m1, p1_, r1⟩ := mo_chain_open k2
  have lt1 := mo_both_lt _ _ _ _ _ p1_
  refine lv_iload_n hx hb gX12_testOf_0.2.1 rfl (lv_at hl 1 rfl) ?_
  refine th_call (th_runV (As := [.int p1]) (rest := []) hC mf_X12_bothOf km_X12_326 im_X12_bothOf se_X12_bothOf (ihp l G Γ H0 hB.1 hR hU a0 h0 p1 (by omega) (by omega) B i m1 k1 p1_) rfl rfl ⟨by dsimp only; omega, by dsimp only; omega⟩ hB.1 h0 ro_46 rfl rfl hl.1 rfl (Nat.le_of_ble_eq_true rfl) gX12_testOf_0.2.2.1 ⟨Nat.le_refl _, Nat.le_refl _⟩) hB.2.1 (fun v2 H2 locs hp hz hS => ?_)
  obtain ⟨x1, rfl, lx1, ux1, hI1, hf, hR, z2_0, z2_1⟩ := hp
  have hB := th_B_c hB hI1 hS hf (by decide)
  have fv_H2_23 : mo_f G H2 a0 23 = mo_f G H0 a0 23 := mo_f_F hf h0 (by decide) (by decide)
  have fv_H2_25 : mo_f G H2 a0 25 = mo_f G H0 a0 25 := mo_f_F hf h0 (by decide) (by decide)
  replace hF := hF.trans (dv_bn2 (z2_1))
  refine W.eq (g2 := F0 m 5 ls [.int x1]) rfl ?_
  refine lv_istore_n (lv' := [(2, .int x1), (0, .ref a0), (1, .int p1)]) hx hb gX12_testOf_0.2.2.2.1 rfl hl (by decide) rfl (fun ls hl => ?_)
  have lp6 : ∀ (n6 : Nat) (H6 : Heap) (locs : List Loc) (ls : Array Slot) (j6_2 : Int32), th_B G Γ Γ [(46, 22), (46, 24)] H0 H6 locs → th_RC G Γ H6 → lv_has ls 4 [(0, .ref a0), (1, .int p1), (2, .int j6_2)] → F = dv_lp (f_X12_testOf_6b d (f_X12_bothOf d)) (dv G Γ H6, (a0 : Int), p1.toInt, j6_2.toInt) → 0 ≤ j6_2.toInt → j6_2.toInt ≤ 1 → (∃ m : Int, mo_f G H6 a0 22 = B + m ∧ 0 ≤ m ∧ mo_rest (mo_ce G H0 a0 B) (mo_both (mo_f G H0 a0 25) (mo_ce G H0 a0 B) d) (mo_is 5) m j) → (B + j - mo_f G H6 a0 22) + 1 ≤ (n6 : Int) → W p l e ({ frames := 17 + 4 * d, cells := 0, slots := 0, locals := 771 + d * 100 } : Room) s m ([.ref a0, .int p1] : List Value).toArray below meth c H6 locs 0 0 (MQ below (th_Q (fun (v : Option Value) (H1 : Heap) => ∃ r : Int32, v = some (.int r) ∧ 0 ≤ r.toInt ∧ r.toInt ≤ 1 ∧ th_I G Γ H1 ∧ th_F G Γ [(46, 22), (46, 24)] H0 H1 ∧ th_RC G Γ H1 ∧ (mo_f G H1 a0 22 = B + j) ∧ (f_X12_testOf d (dv G Γ H0) (a0 : Int) p1.toInt = (dv G Γ H1, r.toInt))) G) ([.ref a0, .int p1] : List Value).toArray s 0 0 (fun q => G.1.2.2 ≤ q)) (F0 m 6 ls []) := by
    intro n6
    induction n6 with
    | zero => intro H6 locs ls j6_2 hB hR hl hF g6_0 g6_1 g6_2 hm6; exact absurd hm6 (by have := mo_lp (mo_both_lt _ _ _) g6_2; omega)
    | succ n6 ih6 =>
      intro H6 locs ls j6_2 hB hR hl hF g6_0 g6_1 g6_2 hm6
      have lj6_2 := ti_lo j6_2; have uj6_2 := ti_hi j6_2
      have fv2_23 : mo_f G H6 a0 23 = mo_f G H0 a0 23 := mo_f_F hB.2.2 h0 (by decide) (by decide)
      have fv3_25 : mo_f G H6 a0 25 = mo_f G H0 a0 25 := mo_f_F hB.2.2 h0 (by decide) (by decide)
      have hm6 : (B + j - mo_f G H6 a0 22) + 1 ≤ (n6 : Int) + 1 := by omega
      replace hF := hF.trans (dv_lp_eq)
      replace hF := hF.trans (congrArg (dv_k (f_X12_testOf_6b d (f_X12_bothOf d))) (f_X12_testOf_6c.eq_1 d (f_X12_bothOf d) (dv G Γ H6) ((a0 : Int)) (p1.toInt) (j6_2.toInt)))
      refine lv_aload_n hx hb gX12_testOf_0.2.2.2.2.1 rfl (lv_at hl 0 rfl) ?_
      obtain ⟨m6, a6, b6, r6⟩ := g6_2
      have ce6 : mo_ce G H6 a0 B m6 = mo_ce G H0 a0 B m6 := by rw [mo_ce_F hB.1 hB.2.2 h0 (by decide)]
      refine lv_iconst (v := 5) hx hb gX12_testOf_0.2.2.2.2.2.1 (by decide) ?_
      refine th_call (th_runV (As := [.int 5]) (rest := []) hC mf_X12_passes0 km_X12_305 im_X12_passes0 se_X12_passes0 (c_X12_passes0 l G Γ H6 hB.1 hR hU a0 h0 5 (by decide) B m6 ⟨by omega, by omega, by omega, by omega⟩) rfl rfl ⟨by dsimp only; omega, by dsimp only; omega⟩ hB.1 h0 ro_46 rfl rfl hl.1 rfl (Nat.le_of_ble_eq_true rfl) gX12_testOf_0.2.2.2.2.2.2.1 ⟨Nat.le_refl _, Nat.le_refl _⟩) hB.2.1 (fun v8 H8 locs hp hz hS => ?_)
      obtain ⟨x4, rfl, lx4, ux4, hI1, hf, hR, z8_0, z8_1, z8_2⟩ := hp
      have hB := th_B_c hB hI1 hS hf (by decide)
      have fv_H8_23 : mo_f G H8 a0 23 = mo_f G H6 a0 23 := mo_f_F hf h0 (by decide) (by decide)
      have fv_H8_25 : mo_f G H8 a0 25 = mo_f G H6 a0 25 := mo_f_F hf h0 (by decide) (by decide)
      have zf8 := z8_2
      rw [tk_5] at zf8
      replace hF := hF.trans (congrArg (dv_k (f_X12_testOf_6b d (f_X12_bothOf d))) (dv_bn2 (zf8)))
      refine W.eq (g2 := F0 m 11 ls [.int x4]) rfl ?_
      have tkw := tk_5
      refine tr_if_eq (tgt := 49) hx hb gX12_testOf_0.2.2.2.2.2.2.2 (by decide) (Eq.refl _) (fun c11 => ?_) (fun c11 => ?_)
      · replace hF := hF.trans (congrArg (dv_k (f_X12_testOf_6b d (f_X12_bothOf d))) (if_pos c11))
        refine lv_iload_n hx hb gX12_testOf_3.2.2.2.1 rfl (lv_at hl 2 rfl) ?_
        replace hF := hF.trans (dv_kr)
        exact th_iret hC hH hr hlocks (th_nb (by omega) (by omega)) hB.2.1 ⟨_, rfl, by omega, by omega, hB.1, hB.2.2, hR, by have w9 := z8_1 (by omega); rw [← mo_rest_end r6 (show ¬ (mo_ce G H0 a0 B m6 = 5) by omega)]; omega, (hF0.symm.trans hF)⟩ gX12_testOf_3.2.2.2.2
      · replace hF := hF.trans (congrArg (dv_k (f_X12_testOf_6b d (f_X12_bothOf d))) (if_neg c11))
        refine lv_aload_n hx hb gX12_testOf_1.1 rfl (lv_at hl 0 rfl) ?_
        obtain ⟨m7, p7, r7⟩ := mo_rest_op r6 (show mo_ce G H0 a0 B m6 = 5 by have w9 := z8_0 (by omega); omega)
        have lt7 := mo_both_lt _ _ _ _ _ p7
        have w7 := z8_0 (by omega)
        refine lv_iload_n hx hb gX12_testOf_1.2.1 rfl (lv_at hl 1 rfl) ?_
        have jn28 : ∀ (locs : List Loc) (ls : Array Slot) (s28_1 : Int32), th_B G Γ Γ [(46, 22), (46, 24)] H0 H8 locs → lv_has ls 4 [(0, .ref a0), (1, .int p1), (2, .int j6_2)] → F = dv_k (f_X12_testOf_6b d (f_X12_bothOf d)) (f_X12_testOf_28 d (f_X12_bothOf d) (dv G Γ H8) ((a0 : Int)) (p1.toInt) (j6_2.toInt) (s28_1.toInt)) → 0 ≤ s28_1.toInt → s28_1.toInt ≤ 1 → W p l e ({ frames := 17 + 4 * d, cells := 0, slots := 0, locals := 771 + d * 100 } : Room) s m ([.ref a0, .int p1] : List Value).toArray below meth c H8 locs 0 0 (MQ below (th_Q (fun (v : Option Value) (H1 : Heap) => ∃ r : Int32, v = some (.int r) ∧ 0 ≤ r.toInt ∧ r.toInt ≤ 1 ∧ th_I G Γ H1 ∧ th_F G Γ [(46, 22), (46, 24)] H0 H1 ∧ th_RC G Γ H1 ∧ (mo_f G H1 a0 22 = B + j) ∧ (f_X12_testOf d (dv G Γ H0) (a0 : Int) p1.toInt = (dv G Γ H1, r.toInt))) G) ([.ref a0, .int p1] : List Value).toArray s 0 0 (fun q => G.1.2.2 ≤ q)) (F0 m 28 ls [.int s28_1, .ref a0]) := by
          intro locs ls s28_1 hB hl hF g28_0 g28_1
          have ls28_1 := ti_lo s28_1; have us28_1 := ti_hi s28_1
          replace hF := hF.trans (congrArg (dv_k (f_X12_testOf_6b d (f_X12_bothOf d))) (f_X12_testOf_28.eq_1 d (f_X12_bothOf d) (dv G Γ H8) ((a0 : Int)) (p1.toInt) (j6_2.toInt) (s28_1.toInt)))
          refine th_call (th_runV (As := [.int s28_1]) (rest := []) hC mf_X12_bothOf km_X12_326 im_X12_bothOf se_X12_bothOf (ihp l G Γ H8 hB.1 hR hU a0 h0 s28_1 (by omega) (by omega) B (m6 + 1) m7 ⟨by omega, by omega, by omega, by omega⟩ (by rw [mo_f_F hB.2.2 h0 (j := 25) (by decide) (by decide), mo_ce_F hB.1 hB.2.2 h0 (by decide)]; exact p7)) rfl rfl ⟨by dsimp only; omega, by dsimp only; omega⟩ hB.1 h0 ro_46 rfl rfl hl.1 rfl (Nat.le_of_ble_eq_true rfl) gX12_testOf_2.1 ⟨Nat.le_refl _, Nat.le_refl _⟩) hB.2.1 (fun v28 H28 locs hp hz hS => ?_)
          obtain ⟨x5, rfl, lx5, ux5, hI1, hf, hR, z28_0, z28_1⟩ := hp
          have hB := th_B_c hB hI1 hS hf (by decide)
          have fv_H28_23 : mo_f G H28 a0 23 = mo_f G H8 a0 23 := mo_f_F hf h0 (by decide) (by decide)
          have fv_H28_25 : mo_f G H28 a0 25 = mo_f G H8 a0 25 := mo_f_F hf h0 (by decide) (by decide)
          replace hF := hF.trans (congrArg (dv_k (f_X12_testOf_6b d (f_X12_bothOf d))) (dv_bn2 (z28_1)))
          refine W.eq (g2 := F0 m 31 ls [.int x5]) rfl ?_
          refine lv_istore_n (lv' := [(3, .int x5), (0, .ref a0), (1, .int p1), (2, .int j6_2)]) hx hb gX12_testOf_2.2.1 rfl hl (by decide) rfl (fun ls hl => ?_)
          refine lv_iload_n hx hb gX12_testOf_2.2.2.1 rfl (lv_at hl 3 rfl) ?_
          have jn45 : ∀ (locs : List Loc) (ls : Array Slot) (s45_0 : Int32), th_B G Γ Γ [(46, 22), (46, 24)] H0 H28 locs → lv_has ls 4 [(0, .ref a0), (1, .int p1)] → F = dv_k (f_X12_testOf_6b d (f_X12_bothOf d)) (f_X12_testOf_45 d (f_X12_bothOf d) (dv G Γ H28) ((a0 : Int)) (p1.toInt) (s45_0.toInt)) → 0 ≤ s45_0.toInt → s45_0.toInt ≤ 1 → W p l e ({ frames := 17 + 4 * d, cells := 0, slots := 0, locals := 771 + d * 100 } : Room) s m ([.ref a0, .int p1] : List Value).toArray below meth c H28 locs 0 0 (MQ below (th_Q (fun (v : Option Value) (H1 : Heap) => ∃ r : Int32, v = some (.int r) ∧ 0 ≤ r.toInt ∧ r.toInt ≤ 1 ∧ th_I G Γ H1 ∧ th_F G Γ [(46, 22), (46, 24)] H0 H1 ∧ th_RC G Γ H1 ∧ (mo_f G H1 a0 22 = B + j) ∧ (f_X12_testOf d (dv G Γ H0) (a0 : Int) p1.toInt = (dv G Γ H1, r.toInt))) G) ([.ref a0, .int p1] : List Value).toArray s 0 0 (fun q => G.1.2.2 ≤ q)) (F0 m 45 ls [.int s45_0]) := by
            intro locs ls s45_0 hB hl hF g45_0 g45_1
            have ls45_0 := ti_lo s45_0; have us45_0 := ti_hi s45_0
            replace hF := hF.trans (congrArg (dv_k (f_X12_testOf_6b d (f_X12_bothOf d))) (f_X12_testOf_45.eq_1 d (f_X12_bothOf d) (dv G Γ H28) ((a0 : Int)) (p1.toInt) (s45_0.toInt)))
            refine lv_istore_n (lv' := [(2, .int s45_0), (0, .ref a0), (1, .int p1)]) hx hb gX12_testOf_3.2.1 rfl hl (by decide) rfl (fun ls hl => ?_)
            refine lv_goto (tgt := 6) hx hb gX12_testOf_3.2.2.1 (by decide) ?_
            replace hF := hF.trans (dv_kl)
            exact ih6 H28 locs ls s45_0 hB hR (lv_sub hl [1, 2, 0] rfl) hF (by omega) (by omega) ⟨m7, by omega, by omega, r7⟩ (by omega)
          have jn40 : ∀ (locs : List Loc) (ls : Array Slot) , th_B G Γ Γ [(46, 22), (46, 24)] H0 H28 locs → lv_has ls 4 [(0, .ref a0), (1, .int p1)] → F = dv_k (f_X12_testOf_6b d (f_X12_bothOf d)) (f_X12_testOf_40 d (f_X12_bothOf d) (dv G Γ H28) ((a0 : Int)) (p1.toInt)) → W p l e ({ frames := 17 + 4 * d, cells := 0, slots := 0, locals := 771 + d * 100 } : Room) s m ([.ref a0, .int p1] : List Value).toArray below meth c H28 locs 0 0 (MQ below (th_Q (fun (v : Option Value) (H1 : Heap) => ∃ r : Int32, v = some (.int r) ∧ 0 ≤ r.toInt ∧ r.toInt ≤ 1 ∧ th_I G Γ H1 ∧ th_F G Γ [(46, 22), (46, 24)] H0 H1 ∧ th_RC G Γ H1 ∧ (mo_f G H1 a0 22 = B + j) ∧ (f_X12_testOf d (dv G Γ H0) (a0 : Int) p1.toInt = (dv G Γ H1, r.toInt))) G) ([.ref a0, .int p1] : List Value).toArray s 0 0 (fun q => G.1.2.2 ≤ q)) (F0 m 40 ls []) := by
            intro locs ls hB hl hF
            replace hF := hF.trans (congrArg (dv_k (f_X12_testOf_6b d (f_X12_bothOf d))) (f_X12_testOf_40.eq_1 d (f_X12_bothOf d) (dv G Γ H28) ((a0 : Int)) (p1.toInt)))
            refine lv_iconst (v := 1) hx hb gX12_testOf_2.2.2.2.2.2.2.1 (by decide) ?_
            refine lv_goto (tgt := 45) hx hb gX12_testOf_2.2.2.2.2.2.2.2 (by decide) ?_
            exact jn45 locs ls 1 hB (lv_sub hl [0, 1] rfl) (by rw [tk_1]; exact hF) (by decide) (by decide)
          refine tr_if_ne (tgt := 40) hx hb gX12_testOf_2.2.2.2.1 (by decide) (Eq.refl _) (fun c33 => ?_) (fun c33 => ?_)
          · replace hF := hF.trans (congrArg (dv_k (f_X12_testOf_6b d (f_X12_bothOf d))) (if_pos c33))
            exact jn40 locs ls hB (lv_sub hl [1, 2] rfl) hF
          · replace hF := hF.trans (congrArg (dv_k (f_X12_testOf_6b d (f_X12_bothOf d))) (if_neg (not_not_intro c33)))
            refine lv_iload_n hx hb gX12_testOf_2.2.2.2.2.1 rfl (lv_at hl 0 rfl) ?_
            refine tr_if_eq (tgt := 44) hx hb gX12_testOf_2.2.2.2.2.2.1 (by decide) (Eq.refl _) (fun c37 => ?_) (fun c37 => ?_)
            · replace hF := hF.trans (congrArg (dv_k (f_X12_testOf_6b d (f_X12_bothOf d))) (if_pos c37))
              refine lv_iconst (v := 0) hx hb gX12_testOf_3.1 (by decide) ?_
              exact jn45 locs ls 0 hB (lv_sub hl [1, 2] rfl) (by rw [tk_0]; exact hF) (by decide) (by decide)
            · replace hF := hF.trans (congrArg (dv_k (f_X12_testOf_6b d (f_X12_bothOf d))) (if_neg c37))
              exact jn40 locs ls hB (lv_sub hl [1, 2] rfl) hF
        have jn27 : ∀ (locs : List Loc) (ls : Array Slot) , th_B G Γ Γ [(46, 22), (46, 24)] H0 H8 locs → lv_has ls 4 [(0, .ref a0), (1, .int p1), (2, .int j6_2)] → F = dv_k (f_X12_testOf_6b d (f_X12_bothOf d)) (f_X12_testOf_27 d (f_X12_bothOf d) (dv G Γ H8) ((a0 : Int)) (p1.toInt) (j6_2.toInt)) → W p l e ({ frames := 17 + 4 * d, cells := 0, slots := 0, locals := 771 + d * 100 } : Room) s m ([.ref a0, .int p1] : List Value).toArray below meth c H8 locs 0 0 (MQ below (th_Q (fun (v : Option Value) (H1 : Heap) => ∃ r : Int32, v = some (.int r) ∧ 0 ≤ r.toInt ∧ r.toInt ≤ 1 ∧ th_I G Γ H1 ∧ th_F G Γ [(46, 22), (46, 24)] H0 H1 ∧ th_RC G Γ H1 ∧ (mo_f G H1 a0 22 = B + j) ∧ (f_X12_testOf d (dv G Γ H0) (a0 : Int) p1.toInt = (dv G Γ H1, r.toInt))) G) ([.ref a0, .int p1] : List Value).toArray s 0 0 (fun q => G.1.2.2 ≤ q)) (F0 m 27 ls [.ref a0]) := by
          intro locs ls hB hl hF
          replace hF := hF.trans (congrArg (dv_k (f_X12_testOf_6b d (f_X12_bothOf d))) (f_X12_testOf_27.eq_1 d (f_X12_bothOf d) (dv G Γ H8) ((a0 : Int)) (p1.toInt) (j6_2.toInt)))
          refine lv_iconst (v := 0) hx hb gX12_testOf_1.2.2.2.2.2.2.2 (by decide) ?_
          exact jn28 locs ls 0 hB (lv_sub hl [0, 1, 2] rfl) (by rw [tk_0]; exact hF) (by decide) (by decide)
        refine tr_if_eq (tgt := 27) hx hb gX12_testOf_1.2.2.1 (by decide) (Eq.refl _) (fun c16 => ?_) (fun c16 => ?_)
        · replace hF := hF.trans (congrArg (dv_k (f_X12_testOf_6b d (f_X12_bothOf d))) (if_pos c16))
          exact jn27 locs ls hB (lv_sub hl [0, 1, 2] rfl) hF
        · replace hF := hF.trans (congrArg (dv_k (f_X12_testOf_6b d (f_X12_bothOf d))) (if_neg c16))
          refine lv_iload_n hx hb gX12_testOf_1.2.2.2.1 rfl (lv_at hl 2 rfl) ?_
          refine tr_if_ne (tgt := 27) hx hb gX12_testOf_1.2.2.2.2.1 (by decide) (Eq.refl _) (fun c20 => ?_) (fun c20 => ?_)
          · replace hF := hF.trans (congrArg (dv_k (f_X12_testOf_6b d (f_X12_bothOf d))) (if_pos c20))
            exact jn27 locs ls hB (lv_sub hl [0, 1, 2] rfl) hF
          · replace hF := hF.trans (congrArg (dv_k (f_X12_testOf_6b d (f_X12_bothOf d))) (if_neg (not_not_intro c20)))
            refine lv_iconst (v := 1) hx hb gX12_testOf_1.2.2.2.2.2.1 (by decide) ?_
            refine lv_goto (tgt := 28) hx hb gX12_testOf_1.2.2.2.2.2.2.1 (by decide) ?_
            exact jn28 locs ls 1 hB (lv_sub hl [0, 1, 2] rfl) (by rw [tk_1]; exact hF) (by decide) (by decide)
  exact lp6 ((B + j - mo_f G H2 a0 22) + 1).toNat H2 locs ls x1 hB hR (lv_sub hl [1, 2, 0] rfl) hF (by omega) (by omega) ⟨m1, by omega, by omega, r1⟩ (by omega)

theorem c_X12_testOf_d (d : Nat) : s_X12_testOf d := by
  induction d with
  | zero => exact (c_X12_testOf_s 0 (c_X12_bothOf_s 0 (c_X12_plainOf_s 0 (c_X12_positiveOf_s 0 (fun d' h => absurd h (by omega))))))
  | succ d ih => exact (c_X12_testOf_s (d + 1) (c_X12_bothOf_s (d + 1) (c_X12_plainOf_s (d + 1) (c_X12_positiveOf_s (d + 1) (fun d' h => by cases h; exact ih)))))
theorem c_X12_positiveOf_d (d : Nat) : s_X12_positiveOf d := c_X12_positiveOf_s d (fun d' _ => c_X12_testOf_d d')
theorem c_X12_plainOf_d (d : Nat) : s_X12_plainOf d := c_X12_plainOf_s d (c_X12_positiveOf_d d)
theorem c_X12_bothOf_d (d : Nat) : s_X12_bothOf d := c_X12_bothOf_s d (c_X12_plainOf_d d)
end
section
set_option maxHeartbeats 4000000 in
set_option maxRecDepth 100000 in
theorem c_X12_setsAsked (l : Launch) (G : th_G) (Γ : th_Ga) (H0 : Heap) (hI : th_I G Γ H0) (hR : th_RC G Γ H0) (hU : dv_U Γ) (a0 : Nat) (h0 : Γ a0 = (46, 0)) (p1 : Int32) (f1 : 0 ≤ p1.toInt) (g1 : p1.toInt ≤ 8) (p2 : Int32) (p3 : Int32) : Met l yX12_setsAsked (.code yX12_setsAsked cX12_setsAsked 4 (none) :: th_tb) ({ frames := 0, cells := 0, slots := 0, locals := 0 } : Room) (th_P [.ref a0, .int p1, .int p2, .int p3] G H0) (th_Q (fun (v : Option Value) (H1 : Heap) => v = none ∧ th_I G Γ H1 ∧ th_F G Γ [(58, 0)] H0 H1 ∧ th_RC G Γ H1 ∧ (f_X12_setsAsked (dv G Γ H0) (a0 : Int) p1.toInt p2.toInt p3.toInt = (dv G Γ H1, 0))) G) 0 0 (fun q => G.1.2.2 ≤ q) := by
  refine th_met RX12 (by decide) rfl (Nat.le_of_ble_eq_true rfl) ?_
  intro p e s m below meth c hC hH hr hlocks hnm ls hl
  have hx := hC.1
  have hb := hC.2.1
  have hB : th_B G Γ Γ [(58, 0)] H0 H0 [] := ⟨hI, va_S.rf, th_F_rf⟩
  have hl : lv_has ls 4 [(0, .ref a0), (1, .int p1), (2, .int p2), (3, .int p3)] := hl
  have lp1 := ti_lo p1; have up1 := ti_hi p1
  have lp2 := ti_lo p2; have up2 := ti_hi p2
  have lp3 := ti_lo p3; have up3 := ti_hi p3
  obtain ⟨F, hF0⟩ : ∃ F, F = f_X12_setsAsked (dv G Γ H0) ((a0 : Int)) (p1.toInt) (p2.toInt) (p3.toInt) := ⟨_, rfl⟩
  have hF := hF0.trans (f_X12_setsAsked.eq_1 (dv G Γ H0) ((a0 : Int)) (p1.toInt) (p2.toInt) (p3.toInt))
  refine lv_aload_n hx hb gX12_setsAsked_0.1 rfl (lv_at hl 0 rfl) ?_
  refine th_getO (j := 26) (r2 := 58) hC cf_X12 hB.1 h0 ro_46 rfl rfl kf_X12_63 gX12_setsAsked_0.2.1 (fun b1 mb1 hb1 => ?_)
  refine lv_iconst (v := 0) hx hb gX12_setsAsked_0.2.2.1 (by decide) ?_
  refine lv_iload_n hx hb gX12_setsAsked_0.2.2.2.1 rfl (lv_at hl 1 rfl) ?_
  have hIo := hB.1
  refine th_iastF hC hB hb1 (Or.inl hb1) ro_58 rfl (by decide) tk_0 (by omega) (by omega) th_sIa gX12_setsAsked_0.2.2.2.2.1 (fun H6 locs hB hf6 hst6 => ?_)
  have hf := hf6
  have mm2 := (th_F_o hf h0 ro_46 (j := 26) (by decide) (by decide)).trans mb1
  have hR := th_RC_F hB.1 hR hf (th_T_s hb1 ro_58 hst6) (by decide)
  replace hF := hF.trans (dv_bn (dv_stoI hIo hB.1 hU hb1 ow_58 (i := 0) hst6 (Eq.refl _) (by omega)))
  refine lv_aload_n hx hb gX12_setsAsked_0.2.2.2.2.2.1 rfl (lv_at hl 0 rfl) ?_
  refine th_getK hC cf_X12 hB.1 h0 ro_46 rfl (j := 26) (by decide) mm2 kf_X12_63 gX12_setsAsked_0.2.2.2.2.2.2.1 ?_
  refine lv_iconst (v := 1) hx hb gX12_setsAsked_0.2.2.2.2.2.2.2 (by decide) ?_
  refine lv_aload_n hx hb gX12_setsAsked_1.1 rfl (lv_at hl 0 rfl) ?_
  refine th_getO (j := 2) (r2 := 48) hC cf_X12 hB.1 h0 ro_46 rfl rfl kf_X12_28 gX12_setsAsked_1.2.1 (fun b3 mb3 hb3 => ?_)
  have sb3 := (th_F_o hB.2.2 h0 ro_46 (j := 2) (by decide) (by decide)).symm.trans mb3
  refine lv_bipush (v := 29) hx hb gX12_setsAsked_1.2.2.1 (by decide) ?_
  refine lv_iload_n hx hb gX12_setsAsked_1.2.2.2.1 rfl (lv_at hl 1 rfl) ?_
  refine tr_iadd hx hb gX12_setsAsked_1.2.2.2.2.1 tk_29 (Eq.refl _) (by omega) (by omega) (fun x4 ex4 => ?_)
  replace hF := hF.trans (dv_bn (ex4.symm))
  refine th_ialdF hC hB.1 hb3 ro_48 rfl (Eq.refl _) (by omega) (by omega) (ek_side (by omega) (by omega)) gX12_setsAsked_1.2.2.2.2.2.1 (fun x5 mx5 lx5 ux5 => ?_)
  replace hF := hF.trans (dv_bn (dv_aldI hB.1 hU hb3 ow_48 (z := x4.toInt) mx5 (by omega)))
  have hIo := hB.1
  refine th_iastF hC hB hb1 (Or.inl hb1) ro_58 rfl (by decide) tk_1 (by omega) (by omega) th_sIa gX12_setsAsked_1.2.2.2.2.2.2.1 (fun H21 locs hB hf21 hst21 => ?_)
  have hf := hf21
  have mm6 := (th_F_o hf h0 ro_46 (j := 26) (by decide) (by decide)).trans mm2
  have mm7 := (th_F_o hf h0 ro_46 (j := 2) (by decide) (by decide)).trans mb3
  have hR := th_RC_F hB.1 hR hf (th_T_s hb1 ro_58 hst21) (by decide)
  replace hF := hF.trans (dv_bn (dv_stoI hIo hB.1 hU hb1 ow_58 (i := 1) hst21 (Eq.refl _) (by omega)))
  refine lv_aload_n hx hb gX12_setsAsked_1.2.2.2.2.2.2.2 rfl (lv_at hl 0 rfl) ?_
  refine th_getK hC cf_X12 hB.1 h0 ro_46 rfl (j := 26) (by decide) mm6 kf_X12_63 gX12_setsAsked_2.1 ?_
  refine lv_iconst (v := 2) hx hb gX12_setsAsked_2.2.1 (by decide) ?_
  refine lv_aload_n hx hb gX12_setsAsked_2.2.2.1 rfl (lv_at hl 0 rfl) ?_
  refine th_getK hC cf_X12 hB.1 h0 ro_46 rfl (j := 2) (by decide) mm7 kf_X12_28 gX12_setsAsked_2.2.2.2.1 ?_
  refine lv_bipush (v := 38) hx hb gX12_setsAsked_2.2.2.2.2.1 (by decide) ?_
  refine lv_iload_n hx hb gX12_setsAsked_2.2.2.2.2.2.1 rfl (lv_at hl 1 rfl) ?_
  refine tr_iadd hx hb gX12_setsAsked_2.2.2.2.2.2.2.1 tk_38 (Eq.refl _) (by omega) (by omega) (fun x8 ex8 => ?_)
  replace hF := hF.trans (dv_bn (ex8.symm))
  refine th_ialdF hC hB.1 hb3 ro_48 rfl (Eq.refl _) (by omega) (by omega) (ek_b (by omega) (by omega)) gX12_setsAsked_2.2.2.2.2.2.2.2 (fun x9 mx9 lx9 ux9 => ?_)
  replace hF := hF.trans (dv_bn (dv_aldI hB.1 hU hb3 ow_48 (z := x8.toInt) mx9 (by omega)))
  have hIo := hB.1
  refine th_iastF hC hB hb1 (Or.inl hb1) ro_58 rfl (by decide) tk_2 (by omega) (by omega) th_sIa gX12_setsAsked_3.1 (fun H36 locs hB hf36 hst36 => ?_)
  have hf := hf36
  have mm10 := (th_F_o hf h0 ro_46 (j := 26) (by decide) (by decide)).trans mm6
  have mm11 := (th_F_o hf h0 ro_46 (j := 2) (by decide) (by decide)).trans mm7
  have hR := th_RC_F hB.1 hR hf (th_T_s hb1 ro_58 hst36) (by decide)
  replace hF := hF.trans (dv_bn (dv_stoI hIo hB.1 hU hb1 ow_58 (i := 2) hst36 (Eq.refl _) (by omega)))
  refine lv_aload_n hx hb gX12_setsAsked_3.2.1 rfl (lv_at hl 0 rfl) ?_
  refine th_getK hC cf_X12 hB.1 h0 ro_46 rfl (j := 26) (by decide) mm10 kf_X12_63 gX12_setsAsked_3.2.2.1 ?_
  refine lv_iconst (v := 3) hx hb gX12_setsAsked_3.2.2.2.1 (by decide) ?_
  refine lv_iload_n hx hb gX12_setsAsked_3.2.2.2.2.1 rfl (lv_at hl 2 rfl) ?_
  have hIo := hB.1
  refine th_iastF hC hB hb1 (Or.inl hb1) ro_58 rfl (by decide) tk_3 (by omega) (by omega) th_sIa gX12_setsAsked_3.2.2.2.2.2.1 (fun H43 locs hB hf43 hst43 => ?_)
  have hf := hf43
  have mm12 := (th_F_o hf h0 ro_46 (j := 26) (by decide) (by decide)).trans mm10
  have mm13 := (th_F_o hf h0 ro_46 (j := 2) (by decide) (by decide)).trans mm11
  have hR := th_RC_F hB.1 hR hf (th_T_s hb1 ro_58 hst43) (by decide)
  replace hF := hF.trans (dv_bn (dv_stoI hIo hB.1 hU hb1 ow_58 (i := 3) hst43 (Eq.refl _) (by omega)))
  refine lv_aload_n hx hb gX12_setsAsked_3.2.2.2.2.2.2.1 rfl (lv_at hl 0 rfl) ?_
  refine th_getK hC cf_X12 hB.1 h0 ro_46 rfl (j := 26) (by decide) mm12 kf_X12_63 gX12_setsAsked_3.2.2.2.2.2.2.2 ?_
  refine lv_iconst (v := 4) hx hb gX12_setsAsked_4.1 (by decide) ?_
  refine lv_iload_n hx hb gX12_setsAsked_4.2.1 rfl (lv_at hl 3 rfl) ?_
  have hIo := hB.1
  refine th_iastF hC hB hb1 (Or.inl hb1) ro_58 rfl (by decide) tk_4 (by omega) (by omega) th_sIa gX12_setsAsked_4.2.2.1 (fun H50 locs hB hf50 hst50 => ?_)
  have hf := hf50
  have mm14 := (th_F_o hf h0 ro_46 (j := 26) (by decide) (by decide)).trans mm12
  have mm15 := (th_F_o hf h0 ro_46 (j := 2) (by decide) (by decide)).trans mm13
  have hR := th_RC_F hB.1 hR hf (th_T_s hb1 ro_58 hst50) (by decide)
  replace hF := hF.trans (dv_bn (dv_stoI hIo hB.1 hU hb1 ow_58 (i := 4) hst50 (Eq.refl _) (by omega)))
  refine lv_aload_n hx hb gX12_setsAsked_4.2.2.2.1 rfl (lv_at hl 0 rfl) ?_
  refine th_getK hC cf_X12 hB.1 h0 ro_46 rfl (j := 26) (by decide) mm14 kf_X12_63 gX12_setsAsked_4.2.2.2.2.1 ?_
  refine lv_iconst (v := 5) hx hb gX12_setsAsked_4.2.2.2.2.2.1 (by decide) ?_
  refine lv_aload_n hx hb gX12_setsAsked_4.2.2.2.2.2.2.1 rfl (lv_at hl 0 rfl) ?_
  refine th_getK hC cf_X12 hB.1 h0 ro_46 rfl (j := 2) (by decide) mm15 kf_X12_28 gX12_setsAsked_4.2.2.2.2.2.2.2 ?_
  refine lv_bipush (v := 66) hx hb gX12_setsAsked_5.1 (by decide) ?_
  refine th_ialdF hC hB.1 hb3 ro_48 rfl tk_66 (by omega) (by omega) (ek_b (by omega) (by omega)) gX12_setsAsked_5.2.1 (fun x16 mx16 lx16 ux16 => ?_)
  replace hF := hF.trans (dv_bn (dv_aldI hB.1 hU hb3 ow_48 (z := 66) mx16 (by omega)))
  have hIo := hB.1
  refine th_iastF hC hB hb1 (Or.inl hb1) ro_58 rfl (by decide) tk_5 (by omega) (by omega) th_sIa gX12_setsAsked_5.2.2.1 (fun H63 locs hB hf63 hst63 => ?_)
  have hf := hf63
  have mm17 := (th_F_o hf h0 ro_46 (j := 26) (by decide) (by decide)).trans mm14
  have mm18 := (th_F_o hf h0 ro_46 (j := 2) (by decide) (by decide)).trans mm15
  have hR := th_RC_F hB.1 hR hf (th_T_s hb1 ro_58 hst63) (by decide)
  replace hF := hF.trans (dv_bn (dv_stoI hIo hB.1 hU hb1 ow_58 (i := 5) hst63 (Eq.refl _) (by omega)))
  refine lv_aload_n hx hb gX12_setsAsked_5.2.2.2.1 rfl (lv_at hl 0 rfl) ?_
  refine th_getK hC cf_X12 hB.1 h0 ro_46 rfl (j := 26) (by decide) mm17 kf_X12_63 gX12_setsAsked_5.2.2.2.2.1 ?_
  refine lv_bipush (v := 6) hx hb gX12_setsAsked_5.2.2.2.2.2.1 (by decide) ?_
  refine lv_aload_n hx hb gX12_setsAsked_5.2.2.2.2.2.2.1 rfl (lv_at hl 0 rfl) ?_
  refine th_getK hC cf_X12 hB.1 h0 ro_46 rfl (j := 2) (by decide) mm18 kf_X12_28 gX12_setsAsked_5.2.2.2.2.2.2.2 ?_
  refine lv_iconst (v := 0) hx hb gX12_setsAsked_6.1 (by decide) ?_
  refine lv_iload_n hx hb gX12_setsAsked_6.2.1 rfl (lv_at hl 1 rfl) ?_
  refine tr_iadd hx hb gX12_setsAsked_6.2.2.1 tk_0 (Eq.refl _) (by omega) (by omega) (fun x19 ex19 => ?_)
  replace hF := hF.trans (dv_bn (ex19.symm))
  refine th_ialdF hC hB.1 hb3 ro_48 rfl (Eq.refl _) (by omega) (by omega) (ek_a (by omega) (by omega)) gX12_setsAsked_6.2.2.2.1 (fun x20 mx20 lx20 ux20 => ?_)
  replace hF := hF.trans (dv_bn (dv_aldI hB.1 hU hb3 ow_48 (z := x19.toInt) mx20 (by omega)))
  have hIo := hB.1
  refine th_iastF hC hB hb1 (Or.inl hb1) ro_58 rfl (by decide) tk_6 (by omega) (by omega) th_sIa gX12_setsAsked_6.2.2.2.2.1 (fun H78 locs hB hf78 hst78 => ?_)
  have hf := hf78
  have mm21 := (th_F_o hf h0 ro_46 (j := 26) (by decide) (by decide)).trans mm17
  have mm22 := (th_F_o hf h0 ro_46 (j := 2) (by decide) (by decide)).trans mm18
  have hR := th_RC_F hB.1 hR hf (th_T_s hb1 ro_58 hst78) (by decide)
  replace hF := hF.trans (dv_bn (dv_stoI hIo hB.1 hU hb1 ow_58 (i := 6) hst78 (Eq.refl _) (by omega)))
  refine lv_aload_n hx hb gX12_setsAsked_6.2.2.2.2.2.1 rfl (lv_at hl 0 rfl) ?_
  refine th_getK hC cf_X12 hB.1 h0 ro_46 rfl (j := 26) (by decide) mm21 kf_X12_63 gX12_setsAsked_6.2.2.2.2.2.2.1 ?_
  refine lv_bipush (v := 7) hx hb gX12_setsAsked_6.2.2.2.2.2.2.2 (by decide) ?_
  refine lv_aload_n hx hb gX12_setsAsked_7.1 rfl (lv_at hl 0 rfl) ?_
  refine th_getK hC cf_X12 hB.1 h0 ro_46 rfl (j := 2) (by decide) mm22 kf_X12_28 gX12_setsAsked_7.2.1 ?_
  refine lv_bipush (v := 28) hx hb gX12_setsAsked_7.2.2.1 (by decide) ?_
  refine th_ialdF hC hB.1 hb3 ro_48 rfl tk_28 (by omega) (by omega) (ek_a (by omega) (by omega)) gX12_setsAsked_7.2.2.2.1 (fun x23 mx23 lx23 ux23 => ?_)
  replace hF := hF.trans (dv_bn (dv_aldI hB.1 hU hb3 ow_48 (z := 28) mx23 (by omega)))
  have hIo := hB.1
  refine th_iastF hC hB hb1 (Or.inl hb1) ro_58 rfl (by decide) tk_7 (by omega) (by omega) th_sIa gX12_setsAsked_7.2.2.2.2.1 (fun H92 locs hB hf92 hst92 => ?_)
  have hf := hf92
  have mm24 := (th_F_o hf h0 ro_46 (j := 26) (by decide) (by decide)).trans mm21
  have mm25 := (th_F_o hf h0 ro_46 (j := 2) (by decide) (by decide)).trans mm22
  have hR := th_RC_F hB.1 hR hf (th_T_s hb1 ro_58 hst92) (by decide)
  replace hF := hF.trans (dv_bn (dv_stoI hIo hB.1 hU hb1 ow_58 (i := 7) hst92 (Eq.refl _) (by omega)))
  exact th_vret hC hH hr hlocks hB.2.1 ⟨rfl, hB.1, hB.2.2, hR, (hF0.symm.trans hF)⟩ gX12_setsAsked_7.2.2.2.2.2

set_option maxHeartbeats 4000000 in
set_option maxRecDepth 100000 in
theorem c_X12_tells (l : Launch) (G : th_G) (Γ : th_Ga) (H0 : Heap) (hI : th_I G Γ H0) (hU : dv_U Γ) (a0 : Nat) (h0 : Γ a0 = (46, 0)) (hR : th_RE a0 G Γ H0) (p1 : Int32) (p2 : Int32) (f2 : 0 ≤ p2.toInt) (g2 : p2.toInt ≤ 8) (p3 : Int32) (p4 : Int32) (p5 : Int32) (f5 : 0 ≤ p5.toInt) (g5 : p5.toInt ≤ 99) (p6 : Int32) (f6 : 0 ≤ p6.toInt) (g6 : p6.toInt ≤ 99) : Met l yX12_tells (.code yX12_tells cX12_tells 14 (some FieldType.int) :: th_tb) ({ frames := 50, cells := 0, slots := 0, locals := 1594 } : Room) (th_P [.ref a0, .int p1, .int p2, .int p3, .int p4, .int p5, .int p6] G H0) (th_Q (fun (v : Option Value) (H1 : Heap) => ∃ r : Int32, v = some (.int r) ∧ 0 ≤ r.toInt ∧ r.toInt ≤ 99 ∧ th_I G Γ H1 ∧ th_F G Γ [(46, 22), (46, 24), (58, 0), (46, 23), (46, 25)] H0 H1 ∧ th_RE a0 G Γ H1 ∧ (f_X12_tells (dv G Γ H0) (a0 : Int) p1.toInt p2.toInt p3.toInt p4.toInt p5.toInt p6.toInt = (dv G Γ H1, r.toInt))) G) 0 0 (fun q => G.1.2.2 ≤ q) := by
  refine th_met RX12 (by decide) rfl (Nat.le_of_ble_eq_true rfl) ?_
  intro p e s m below meth c hC hH hr hlocks hnm ls hl
  have hx := hC.1
  have hb := hC.2.1
  have hB : th_B G Γ Γ [(46, 22), (46, 24), (58, 0), (46, 23), (46, 25)] H0 H0 [] := ⟨hI, va_S.rf, th_F_rf⟩
  have hl : lv_has ls 14 [(0, .ref a0), (1, .int p1), (2, .int p2), (3, .int p3), (4, .int p4), (5, .int p5), (6, .int p6)] := hl
  have lp1 := ti_lo p1; have up1 := ti_hi p1
  have lp2 := ti_lo p2; have up2 := ti_hi p2
  have lp3 := ti_lo p3; have up3 := ti_hi p3
  have lp4 := ti_lo p4; have up4 := ti_hi p4
  have lp5 := ti_lo p5; have up5 := ti_hi p5
  have lp6 := ti_lo p6; have up6 := ti_hi p6
  obtain ⟨F, hF0⟩ : ∃ F, F = f_X12_tells (dv G Γ H0) ((a0 : Int)) (p1.toInt) (p2.toInt) (p3.toInt) (p4.toInt) (p5.toInt) (p6.toInt) := ⟨_, rfl⟩
  have hF := hF0.trans (f_X12_tells.eq_1 (dv G Γ H0) ((a0 : Int)) (p1.toInt) (p2.toInt) (p3.toInt) (p4.toInt) (p5.toInt) (p6.toInt))
  refine lv_aload_n hx hb gX12_tells_0.1 rfl (lv_at hl 0 rfl) ?_
  have hRs := hR.2
  refine th_getO (j := 2) (r2 := 48) hC cf_X12 hB.1 h0 ro_46 rfl rfl kf_X12_28 gX12_tells_0.2.1 (fun b1 mb1 hb1 => ?_)
  refine lv_bipush (v := 72) hx hb gX12_tells_0.2.2.1 (by decide) ?_
  refine th_ialdF hC hB.1 hb1 ro_48 rfl tk_72 (by omega) (by omega) (ek_force (by omega) (by omega)) gX12_tells_0.2.2.2.1 (fun x2 mx2 lx2 ux2 => ?_)
  replace hF := hF.trans (dv_bn (dv_aldI hB.1 hU hb1 ow_48 (z := 72) mx2 (by omega)))
  have vgx2 : mo_v G H0 a0 2 72 = x2.toInt := by rw [show (72 : Int) = 72 by omega]; exact mo_vat mb1 mx2 (by omega)
  refine lv_iconst (v := (-1)) hx hb gX12_tells_0.2.2.2.2.1 (by decide) ?_
  refine tr_icmp_ne (tgt := 14) hx hb gX12_tells_0.2.2.2.2.2.1 (by decide) (Eq.refl _) tk_m1 (fun c8 => ?_) (fun c8 => ?_)
  · replace hF := hF.trans (if_pos c8)
    refine lv_aload_n hx hb gX12_tells_1.1 rfl (lv_at hl 0 rfl) ?_
    refine lv_iload_n hx hb gX12_tells_1.2.1 rfl (lv_at hl 2 rfl) ?_
    refine lv_iload_n hx hb gX12_tells_1.2.2.1 rfl (lv_at hl 3 rfl) ?_
    refine lv_iload hx hb gX12_tells_1.2.2.2.1 (lv_at hl 4 rfl) ?_
    refine th_call (th_runV (As := [.int p2, .int p3, .int p4]) (rest := []) hC mf_X12_setsAsked km_X12_338 im_X12_setsAsked se_X12_setsAsked (c_X12_setsAsked l G Γ H0 hB.1 hR.1 hU a0 h0 p2 (by omega) (by omega) p3 p4) rfl rfl ⟨Nat.le_of_ble_eq_true rfl, Nat.le_of_ble_eq_true rfl⟩ hB.1 h0 ro_46 rfl rfl hl.1 rfl (Nat.le_of_ble_eq_true rfl) gX12_tells_1.2.2.2.2.1 ⟨Nat.le_refl _, Nat.le_refl _⟩) hB.2.1 (fun v19 H19 locs hp hz hS => ?_)
    have hRD := hR
    obtain ⟨rfl, hI1, hf, hR, z19_0⟩ := hp
    have hR := th_RE_c hR hRD hI1 h0 hf (by decide)
    have hB := th_B_c hB hI1 hS hf (by decide)
    have mm3 := (th_F_o hf h0 ro_46 (j := 2) (by decide) (by decide)).trans mb1
    have fv_H19_22 : mo_f G H19 a0 22 = mo_f G H0 a0 22 := mo_f_F hf h0 (by decide) (by decide)
    have fv_H19_23 : mo_f G H19 a0 23 = mo_f G H0 a0 23 := mo_f_F hf h0 (by decide) (by decide)
    have fv_H19_25 : mo_f G H19 a0 25 = mo_f G H0 a0 25 := mo_f_F hf h0 (by decide) (by decide)
    have vv_H19_2 : mo_v G H19 a0 2 = mo_v G H0 a0 2 := mo_v_F (r := 48) hB.1 hf h0 rfl ro_48 (by decide) (by decide)
    replace hF := hF.trans (dv_bn2 (z19_0))
    refine W.eq (g2 := F0 m 22 ls []) rfl ?_
    refine lv_aload_n hx hb gX12_tells_1.2.2.2.2.2.1 rfl (lv_at hl 0 rfl) ?_
    refine lv_iconst (v := 0) hx hb gX12_tells_1.2.2.2.2.2.2.1 (by decide) ?_
    refine th_put hC cf_X12 hB h0 (Or.inl h0) ro_46 rfl (j := 25) rfl (th_sI (by decide) (by decide)) (by decide) rfl narrow_b0 rfl kf_X12_311 gX12_tells_1.2.2.2.2.2.2.2 (fun H24 locs hB hf hst24 => ?_)
    have mm4 := (th_F_o hf h0 ro_46 (j := 2) (by decide) (by decide)).trans mm3
    have hR := th_RE_F hB.1 hR h0 hf (th_T_s h0 ro_46 hst24) (by decide)
    have fv_H24_22 : mo_f G H24 a0 22 = mo_f G H19 a0 22 := mo_f_F hf h0 (by decide) (by decide)
    have fv_H24_23 : mo_f G H24 a0 23 = mo_f G H19 a0 23 := mo_f_F hf h0 (by decide) (by decide)
    have vv_H24_2 : mo_v G H24 a0 2 = mo_v G H19 a0 2 := mo_v_F (r := 48) hB.1 hf h0 rfl ro_48 (by decide) (by decide)
    replace hF := hF.trans (dv_bn (dv_putI hB.1 h0 ro_46 (j := 25) rfl (th_apart hC cf_X12) hst24 tk_0 (by decide)))
    have fp24 : mo_f G H24 a0 25 = 0 := (mo_f_St hst24).trans tk_0
    refine lv_iload hx hb gX12_tells_2.1 (lv_at hl 6 rfl) ?_
    refine lv_i2l hx hb gX12_tells_2.2.1 rfl ?_
    refine lv_topl (fun y5 ey5 => ?_)
    replace hF := hF.trans (dv_bn (dv_i2l_e (Eq.refl _) ey5))
    have i2y5 := ti_i2l ey5
    refine lv_lstore (lv' := [(7, .long y5), (0, .ref a0), (1, .int p1), (2, .int p2), (3, .int p3), (4, .int p4), (5, .int p5), (6, .int p6)]) hx hb gX12_tells_2.2.2.1 hl (by decide) rfl (fun ls hl => ?_)
    refine lv_aload_n hx hb gX12_tells_2.2.2.2.1 rfl (lv_at hl 1 rfl) ?_
    refine lv_sipush (v := 400) hx hb gX12_tells_2.2.2.2.2.1 (by decide) ?_
    refine lv_aload_n hx hb gX12_tells_2.2.2.2.2.2.1 rfl (lv_at hl 1 rfl) ?_
    refine th_getK hC cf_X12 hB.1 h0 ro_46 rfl (j := 2) (by decide) mm4 kf_X12_28 gX12_tells_2.2.2.2.2.2.2.1 ?_
    refine lv_bipush (v := 72) hx hb gX12_tells_2.2.2.2.2.2.2.2 (by decide) ?_
    refine th_ialdF hC hB.1 hb1 ro_48 rfl tk_72 (by omega) (by omega) (ek_force (by omega) (by omega)) gX12_tells_3.1 (fun x6 mx6 lx6 ux6 => ?_)
    replace hF := hF.trans (dv_bn (dv_aldI hB.1 hU hb1 ow_48 (z := 72) mx6 (by omega)))
    have vgx6 : mo_v G H0 a0 2 72 = x6.toInt := by rw [← (mo_v_F (r := 48) hB.1 hB.2.2 h0 rfl ro_48 (by decide) (by decide) : mo_v G H24 a0 2 = _)]; rw [show (72 : Int) = 72 by omega]; exact mo_vat mm4 mx6 (by omega)
    refine tr_imul hx hb gX12_tells_3.2.1 tk_400 (Eq.refl _) (by omega) (by omega) (fun x7 ex7 => ?_)
    replace hF := hF.trans (dv_bn (ex7.symm))
    refine th_put hC cf_X12 hB h0 (Or.inl h0) ro_46 rfl (j := 22) rfl th_sIa (by decide) rfl rfl rfl kf_X12_281 gX12_tells_3.2.2.1 (fun H44 locs hB hf hst44 => ?_)
    have mm8 := (th_F_o hf h0 ro_46 (j := 2) (by decide) (by decide)).trans mm4
    have hR := th_RE_F hB.1 hR h0 hf (th_T_s h0 ro_46 hst44) (by decide)
    have fv_H44_23 : mo_f G H44 a0 23 = mo_f G H24 a0 23 := mo_f_F hf h0 (by decide) (by decide)
    have fv_H44_25 : mo_f G H44 a0 25 = mo_f G H24 a0 25 := mo_f_F hf h0 (by decide) (by decide)
    have vv_H44_2 : mo_v G H44 a0 2 = mo_v G H24 a0 2 := mo_v_F (r := 48) hB.1 hf h0 rfl ro_48 (by decide) (by decide)
    replace hF := hF.trans (dv_bn (dv_putI hB.1 h0 ro_46 (j := 22) rfl (th_apart hC cf_X12) hst44 (Eq.refl _) (by decide)))
    have fp44 : mo_f G H44 a0 22 = x7.toInt := mo_f_St hst44
    have mm9 := hst44.2.1
    refine lv_aload_n hx hb gX12_tells_3.2.2.2.1 rfl (lv_at hl 1 rfl) ?_
    refine lv_aload_n hx hb gX12_tells_3.2.2.2.2.1 rfl (lv_at hl 1 rfl) ?_
    refine th_getK hC cf_X12 hB.1 h0 ro_46 rfl (j := 22) (by decide) mm9 kf_X12_281 gX12_tells_3.2.2.2.2.2.1 ?_
    replace hF := hF.trans (dv_bn (dv_getI h0 ro_46 (j := 22) rfl mm9 (by decide)))
    have fg10 : mo_f G H44 a0 22 = x7.toInt := mo_fat mm9
    refine lv_aload_n hx hb gX12_tells_3.2.2.2.2.2.2.1 rfl (lv_at hl 1 rfl) ?_
    refine th_getK hC cf_X12 hB.1 h0 ro_46 rfl (j := 2) (by decide) mm8 kf_X12_28 gX12_tells_3.2.2.2.2.2.2.2 ?_
    refine lv_bipush (v := 73) hx hb gX12_tells_4.1 (by decide) ?_
    refine lv_aload_n hx hb gX12_tells_4.2.1 rfl (lv_at hl 1 rfl) ?_
    refine th_getK hC cf_X12 hB.1 h0 ro_46 rfl (j := 2) (by decide) mm8 kf_X12_28 gX12_tells_4.2.2.1 ?_
    refine lv_bipush (v := 72) hx hb gX12_tells_4.2.2.2.1 (by decide) ?_
    refine th_ialdF hC hB.1 hb1 ro_48 rfl tk_72 (by omega) (by omega) (ek_force (by omega) (by omega)) gX12_tells_4.2.2.2.2.1 (fun x11 mx11 lx11 ux11 => ?_)
    replace hF := hF.trans (dv_bn (dv_aldI hB.1 hU hb1 ow_48 (z := 72) mx11 (by omega)))
    have vgx11 : mo_v G H0 a0 2 72 = x11.toInt := by rw [← (mo_v_F (r := 48) hB.1 hB.2.2 h0 rfl ro_48 (by decide) (by decide) : mo_v G H44 a0 2 = _)]; rw [show (72 : Int) = 72 by omega]; exact mo_vat mm8 mx11 (by omega)
    refine tr_iadd hx hb gX12_tells_4.2.2.2.2.2.1 tk_73 (Eq.refl _) (by omega) (by omega) (fun x12 ex12 => ?_)
    replace hF := hF.trans (dv_bn (ex12.symm))
    refine th_ialdF hC hB.1 hb1 ro_48 rfl (Eq.refl _) (by omega) (by omega) (ek_size (by omega) (by omega)) gX12_tells_4.2.2.2.2.2.2.1 (fun x13 mx13 lx13 ux13 => ?_)
    replace hF := hF.trans (dv_bn (dv_aldI hB.1 hU hb1 ow_48 (z := x12.toInt) mx13 (by omega)))
    have vgx13 : mo_v G H0 a0 2 (73 + x11.toInt) = x13.toInt := by rw [← (mo_v_F (r := 48) hB.1 hB.2.2 h0 rfl ro_48 (by decide) (by decide) : mo_v G H44 a0 2 = _)]; rw [show ((73 + x11.toInt) : Int) = x12.toInt by omega]; exact mo_vat mm8 mx13 (by omega)
    refine tr_iadd hx hb gX12_tells_4.2.2.2.2.2.2.2 (Eq.refl _) (Eq.refl _) (by omega) (by omega) (fun x14 ex14 => ?_)
    replace hF := hF.trans (dv_bn (ex14.symm))
    refine th_put hC cf_X12 hB h0 (Or.inl h0) ro_46 rfl (j := 23) rfl th_sIa (by decide) rfl rfl rfl kf_X12_278 gX12_tells_5.1 (fun H68 locs hB hf hst68 => ?_)
    have mm15 := (th_F_o hf h0 ro_46 (j := 2) (by decide) (by decide)).trans mm8
    have mm16 := (th_F_o hf h0 ro_46 (j := 22) (by decide) (by decide)).trans mm9
    have hR := th_RE_F hB.1 hR h0 hf (th_T_s h0 ro_46 hst68) (by decide)
    have fv_H68_22 : mo_f G H68 a0 22 = mo_f G H44 a0 22 := mo_f_F hf h0 (by decide) (by decide)
    have fv_H68_25 : mo_f G H68 a0 25 = mo_f G H44 a0 25 := mo_f_F hf h0 (by decide) (by decide)
    have vv_H68_2 : mo_v G H68 a0 2 = mo_v G H44 a0 2 := mo_v_F (r := 48) hB.1 hf h0 rfl ro_48 (by decide) (by decide)
    replace hF := hF.trans (dv_bn (dv_putI hB.1 h0 ro_46 (j := 23) rfl (th_apart hC cf_X12) hst68 (Eq.refl _) (by decide)))
    have fp68 : mo_f G H68 a0 23 = x14.toInt := mo_f_St hst68
    have mm17 := hst68.2.1
    obtain ⟨B, eB⟩ : ∃ B : Int, B = 400 * x2.toInt := ⟨_, rfl⟩
    obtain ⟨n0, en0⟩ : ∃ n : Int, n = mo_v G H0 a0 2 (73 + x2.toInt) := ⟨_, rfl⟩
    obtain ⟨T, eT⟩ : ∃ T : Int → Int, T = mo_tf (mo_v G H0 a0 2) (80 + B) n0 := ⟨_, rfl⟩
    have ex73 : mo_v G H0 a0 2 (73 + x11.toInt) = mo_v G H0 a0 2 (73 + x2.toInt) := by rw [show x11.toInt = x2.toInt by omega]
    have tx : n0 ≤ 400 ∧ mo_text 0 T n0 := by have q9 := hRs.2.2 x2.toInt (by omega) (by have w9 := hRs.1; omega); rw [eT, eB, en0]; exact q9
    have tx0 := tx.1
    have lp71 : ∀ (n71 : Nat) (H71 : Heap) (locs : List Loc) (ls : Array Slot) (j71_7 : Int64), th_B G Γ Γ [(46, 22), (46, 24), (58, 0), (46, 23), (46, 25)] H0 H71 locs → th_RE a0 G Γ H71 → lv_has ls 14 [(0, .ref a0), (1, .int p1), (5, .int p5), (7, .long j71_7)] → F = dv_lp f_X12_tells_71b (dv G Γ H71, (a0 : Int), p1.toInt, p5.toInt, j71_7.toInt) → (∃ m : Int, mo_f G H71 a0 22 = B + m ∧ 0 ≤ m ∧ (m = n0 + 1 ∨ mo_chain T (mo_clause 0 T) (mo_is 159) m n0)) → mo_f G H71 a0 23 = B + n0 → mo_f G H71 a0 25 = 0 → (0 ≤ j71_7.toInt ∧ j71_7.toInt ≤ 99) → th_sl H71 a0 (G.1.1.2 12 23) = .int x14 → (B + n0 + 3 - mo_f G H71 a0 22) ≤ (n71 : Int) → W p l e ({ frames := 50, cells := 0, slots := 0, locals := 1594 } : Room) s m ([.ref a0, .int p1, .int p2, .int p3, .int p4, .int p5, .int p6] : List Value).toArray below meth c H71 locs 0 0 (MQ below (th_Q (fun (v : Option Value) (H1 : Heap) => ∃ r : Int32, v = some (.int r) ∧ 0 ≤ r.toInt ∧ r.toInt ≤ 99 ∧ th_I G Γ H1 ∧ th_F G Γ [(46, 22), (46, 24), (58, 0), (46, 23), (46, 25)] H0 H1 ∧ th_RE a0 G Γ H1 ∧ (f_X12_tells (dv G Γ H0) (a0 : Int) p1.toInt p2.toInt p3.toInt p4.toInt p5.toInt p6.toInt = (dv G Γ H1, r.toInt))) G) ([.ref a0, .int p1, .int p2, .int p3, .int p4, .int p5, .int p6] : List Value).toArray s 0 0 (fun q => G.1.2.2 ≤ q)) (F0 m 71 ls []) := by
      intro n71
      induction n71 with
      | zero => intro H71 locs ls j71_7 hB hR hl hF g71_0 g71_1 g71_2 g71_3 g71_4 hm71; exact absurd hm71 (by have := mo_lpt (mo_clause_lt _ _) g71_0; omega)
      | succ n71 ih71 =>
        intro H71 locs ls j71_7 hB hR hl hF g71_0 g71_1 g71_2 g71_3 g71_4 hm71
        have vw_H71_2 : mo_v G H71 a0 2 = mo_v G H0 a0 2 := mo_v_F (r := 48) hB.1 hB.2.2 h0 rfl ro_48 (by decide) (by decide)
        have hm71 : (B + n0 + 3 - mo_f G H71 a0 22) ≤ (n71 : Int) + 1 := by omega
        replace hF := hF.trans (dv_lp_eq)
        replace hF := hF.trans (congrArg (dv_k f_X12_tells_71b) (f_X12_tells_71c.eq_1 (dv G Γ H71) ((a0 : Int)) (p1.toInt) (p5.toInt) (j71_7.toInt)))
        refine lv_aload_n hx hb gX12_tells_5.2.1 rfl (lv_at hl 0 rfl) ?_
        obtain ⟨m6, a6, b6, r6⟩ := g71_0
        refine th_getI (j := 22) hC cf_X12 hB.1 h0 ro_46 rfl rfl kf_X12_281 gX12_tells_5.2.2.1 (fun x18 mx18 lx18 ux18 => ?_)
        replace hF := hF.trans (congrArg (dv_k f_X12_tells_71b) (dv_bn (dv_getI h0 ro_46 (j := 22) rfl mx18 (by decide))))
        have fg19 : mo_f G H71 a0 22 = x18.toInt := mo_fat mx18
        refine lv_aload_n hx hb gX12_tells_5.2.2.2.1 rfl (lv_at hl 0 rfl) ?_
        refine th_getK hC cf_X12 hB.1 h0 ro_46 rfl (j := 23) (by decide) g71_4 kf_X12_278 gX12_tells_5.2.2.2.2.1 ?_
        replace hF := hF.trans (congrArg (dv_k f_X12_tells_71b) (dv_bn (dv_getI h0 ro_46 (j := 23) rfl g71_4 (by decide))))
        have fg20 : mo_f G H71 a0 23 = x14.toInt := mo_fat g71_4
        refine tr_icmp_ge (tgt := 224) hx hb gX12_tells_5.2.2.2.2.2.1 (by decide) (Eq.refl _) (Eq.refl _) (fun c79 => ?_) (fun c79 => ?_)
        · replace hF := hF.trans (congrArg (dv_k f_X12_tells_71b) (if_pos c79))
          refine lv_lload hx hb gX12_tells_15.1 (lv_at hl 3 rfl) ?_
          refine lv_l2i hx hb gX12_tells_15.2.1 rfl ?_
          refine lv_topi (fun x21 ex21 => ?_)
          have lx21 := ti_lo x21; have ux21 := ti_hi x21
          replace hF := hF.trans (congrArg (dv_k f_X12_tells_71b) (dv_bn (dv_l2i_e (Eq.refl (j71_7.toInt)) ex21)))
          have f226 := ti_l2i ex21 (by omega) (by omega)
          replace hF := hF.trans (dv_kr)
          exact th_iret hC hH hr hlocks rfl hB.2.1 ⟨_, rfl, by omega, by omega, hB.1, hB.2.2, hR, (hF0.symm.trans hF)⟩ gX12_tells_15.2.2
        · replace hF := hF.trans (congrArg (dv_k f_X12_tells_71b) (if_neg (Int.not_le.mpr c79)))
          refine lv_aload_n hx hb gX12_tells_5.2.2.2.2.2.2.1 rfl (lv_at hl 0 rfl) ?_
          have ch6 := r6.resolve_left (by omega)
          obtain ⟨m1, c1, r1⟩ := mo_chain_open ch6
          have lt1 := mo_clause_lt _ _ _ _ c1
          have le1 := mo_rest_le (mo_clause_lt _ _) r1
          have cl : mo_cla T m6 m1 := by rcases c1 with ⟨-, c1⟩ | ⟨q9, -⟩; exact c1; exact absurd q9 (by decide)
          refine lv_aload_n hx hb gX12_tells_5.2.2.2.2.2.2.2 rfl (lv_at hl 0 rfl) ?_
          refine th_getK hC cf_X12 hB.1 h0 ro_46 rfl (j := 22) (by decide) mx18 kf_X12_281 gX12_tells_6.1 ?_
          replace hF := hF.trans (congrArg (dv_k f_X12_tells_71b) (dv_bn (dv_getI h0 ro_46 (j := 22) rfl mx18 (by decide))))
          have fg22 : mo_f G H71 a0 22 = x18.toInt := mo_fat mx18
          refine th_call (th_runV (As := [.int x18]) (rest := []) hC mf_X12_codeAt km_X12_284 im_X12_codeAt se_X12_codeAt (c_X12_codeAt l G Γ H71 hB.1 hU a0 h0 x18 (by omega) B (by omega) (by omega)) rfl rfl ⟨Nat.le_of_ble_eq_true rfl, Nat.le_of_ble_eq_true rfl⟩ hB.1 h0 ro_46 rfl rfl hl.1 rfl (Nat.le_of_ble_eq_true rfl) gX12_tells_6.2.1 ⟨Nat.le_refl _, Nat.le_refl _⟩) hB.2.1 (fun v87 H87 locs hp hz hS => ?_)
          obtain ⟨x23, rfl, q87_0, q87_1, rfl⟩ := hp
          have hB := th_B_s hB hS
          replace hF := hF.trans (congrArg (dv_k f_X12_tells_71b) (dv_bn2 (q87_1)))
          refine W.eq (g2 := F0 m 90 ls [.int x23]) rfl ?_
          have cd87 : T m6 = x23.toInt := by have q9 := q87_0; rw [((mo_ce_T (mo_v_F (r := 48) hB.1 hB.2.2 h0 rfl ro_48 (by decide) (by decide)) (show mo_f G H71 a0 23 = B + n0 by omega)).trans eT.symm)] at q9; rw [q9]; congr 1; omega
          refine lv_istore (lv' := [(9, .int x23), (0, .ref a0), (1, .int p1), (5, .int p5), (7, .long j71_7)]) hx hb gX12_tells_6.2.2.1 hl (by decide) rfl (fun ls hl => ?_)
          refine lv_aload_n hx hb gX12_tells_6.2.2.2.1 rfl (lv_at hl 1 rfl) ?_
          refine lv_iconst (v := 0) hx hb gX12_tells_6.2.2.2.2.1 (by decide) ?_
          refine th_put hC cf_X12 hB h0 (Or.inl h0) ro_46 rfl (j := 24) rfl (th_sI (by decide) (by decide)) (by decide) rfl narrow_b0 rfl kf_X12_291 gX12_tells_6.2.2.2.2.2.1 (fun H94 locs hB hf hst94 => ?_)
          have mm24 := (th_F_o hf h0 ro_46 (j := 23) (by decide) (by decide)).trans g71_4
          have mm25 := (th_F_o hf h0 ro_46 (j := 22) (by decide) (by decide)).trans mx18
          have hR := th_RE_F hB.1 hR h0 hf (th_T_s h0 ro_46 hst94) (by decide)
          have fv_H94_22 : mo_f G H94 a0 22 = mo_f G H71 a0 22 := mo_f_F hf h0 (by decide) (by decide)
          have fv_H94_23 : mo_f G H94 a0 23 = mo_f G H71 a0 23 := mo_f_F hf h0 (by decide) (by decide)
          have fv_H94_25 : mo_f G H94 a0 25 = mo_f G H71 a0 25 := mo_f_F hf h0 (by decide) (by decide)
          have vv_H94_2 : mo_v G H94 a0 2 = mo_v G H71 a0 2 := mo_v_F (r := 48) hB.1 hf h0 rfl ro_48 (by decide) (by decide)
          replace hF := hF.trans (congrArg (dv_k f_X12_tells_71b) (dv_bn (dv_putI hB.1 h0 ro_46 (j := 24) rfl (th_apart hC cf_X12) hst94 tk_0 (by decide))))
          have mm26 := hst94.2.1
          refine lv_aload_n hx hb gX12_tells_6.2.2.2.2.2.2.1 rfl (lv_at hl 1 rfl) ?_
          refine lv_dup hx hb gX12_tells_6.2.2.2.2.2.2.2 rfl ?_
          refine th_getK hC cf_X12 hB.1 h0 ro_46 rfl (j := 22) (by decide) mm25 kf_X12_281 gX12_tells_7.1 ?_
          replace hF := hF.trans (congrArg (dv_k f_X12_tells_71b) (dv_bn (dv_getI h0 ro_46 (j := 22) rfl mm25 (by decide))))
          have fg27 : mo_f G H94 a0 22 = x18.toInt := mo_fat mm25
          refine lv_iconst (v := 1) hx hb gX12_tells_7.2.1 (by decide) ?_
          refine tr_iadd hx hb gX12_tells_7.2.2.1 (Eq.refl _) tk_1 (by omega) (by omega) (fun x28 ex28 => ?_)
          replace hF := hF.trans (congrArg (dv_k f_X12_tells_71b) (dv_bn (ex28.symm)))
          refine th_put hC cf_X12 hB h0 (Or.inl h0) ro_46 rfl (j := 22) rfl th_sIa (by decide) rfl rfl rfl kf_X12_281 gX12_tells_7.2.2.2.1 (fun H104 locs hB hf hst104 => ?_)
          have mm29 := (th_F_o hf h0 ro_46 (j := 23) (by decide) (by decide)).trans mm24
          have mm30 := (th_F_o hf h0 ro_46 (j := 24) (by decide) (by decide)).trans mm26
          have hR := th_RE_F hB.1 hR h0 hf (th_T_s h0 ro_46 hst104) (by decide)
          have fv_H104_23 : mo_f G H104 a0 23 = mo_f G H94 a0 23 := mo_f_F hf h0 (by decide) (by decide)
          have fv_H104_25 : mo_f G H104 a0 25 = mo_f G H94 a0 25 := mo_f_F hf h0 (by decide) (by decide)
          have vv_H104_2 : mo_v G H104 a0 2 = mo_v G H94 a0 2 := mo_v_F (r := 48) hB.1 hf h0 rfl ro_48 (by decide) (by decide)
          replace hF := hF.trans (congrArg (dv_k f_X12_tells_71b) (dv_bn (dv_putI hB.1 h0 ro_46 (j := 22) rfl (th_apart hC cf_X12) hst104 (Eq.refl _) (by decide))))
          have fp104 : mo_f G H104 a0 22 = x28.toInt := mo_f_St hst104
          have mm31 := hst104.2.1
          refine lv_iload hx hb gX12_tells_7.2.2.2.2.1 (lv_at hl 0 rfl) ?_
          refine lv_iconst (v := 3) hx hb gX12_tells_7.2.2.2.2.2.1 (by decide) ?_
          have jn122 : ∀ (H122 : Heap) (locs : List Loc) (ls : Array Slot) (s122_0 : Int64), th_B G Γ Γ [(46, 22), (46, 24), (58, 0), (46, 23), (46, 25)] H0 H122 locs → th_RE a0 G Γ H122 → lv_has ls 14 [(9, .int x23), (0, .ref a0), (1, .int p1), (5, .int p5), (7, .long j71_7)] → F = dv_k f_X12_tells_71b (f_X12_tells_122 (dv G Γ H122) (x23.toInt) ((a0 : Int)) (p1.toInt) (p5.toInt) (j71_7.toInt) (s122_0.toInt)) → (∃ q : Int, mo_f G H122 a0 22 = B + q ∧ 0 ≤ q ∧ mo_if 0 T q m1) → mo_f G H122 a0 23 = B + n0 → mo_f G H122 a0 25 = 0 → th_sl H122 a0 (G.1.1.2 12 23) = .int x14 → W p l e ({ frames := 50, cells := 0, slots := 0, locals := 1594 } : Room) s m ([.ref a0, .int p1, .int p2, .int p3, .int p4, .int p5, .int p6] : List Value).toArray below meth c H122 locs 0 0 (MQ below (th_Q (fun (v : Option Value) (H1 : Heap) => ∃ r : Int32, v = some (.int r) ∧ 0 ≤ r.toInt ∧ r.toInt ≤ 99 ∧ th_I G Γ H1 ∧ th_F G Γ [(46, 22), (46, 24), (58, 0), (46, 23), (46, 25)] H0 H1 ∧ th_RE a0 G Γ H1 ∧ (f_X12_tells (dv G Γ H0) (a0 : Int) p1.toInt p2.toInt p3.toInt p4.toInt p5.toInt p6.toInt = (dv G Γ H1, r.toInt))) G) ([.ref a0, .int p1, .int p2, .int p3, .int p4, .int p5, .int p6] : List Value).toArray s 0 0 (fun q => G.1.2.2 ≤ q)) (F0 m 122 ls [.long s122_0]) := by
            intro H122 locs ls s122_0 hB hR hl hF g122_0 g122_1 g122_2 g122_3
            have vw_H122_2 : mo_v G H122 a0 2 = mo_v G H0 a0 2 := mo_v_F (r := 48) hB.1 hB.2.2 h0 rfl ro_48 (by decide) (by decide)
            replace hF := hF.trans (congrArg (dv_k f_X12_tells_71b) (f_X12_tells_122.eq_1 (dv G Γ H122) (x23.toInt) ((a0 : Int)) (p1.toInt) (p5.toInt) (j71_7.toInt) (s122_0.toInt)))
            refine lv_lstore (lv' := [(10, .long s122_0), (9, .int x23), (0, .ref a0), (1, .int p1), (5, .int p5), (7, .long j71_7)]) hx hb gX12_tells_8.2.2.2.2.1 hl (by decide) rfl (fun ls hl => ?_)
            refine lv_aload_n hx hb gX12_tells_8.2.2.2.2.2.1 rfl (lv_at hl 2 rfl) ?_
            obtain ⟨p2_, a122, b122, if2⟩ := g122_0
            have le4 := mo_if_le if2
            refine th_getI (j := 24) hC cf_X12 hB.1 h0 ro_46 rfl rfl kf_X12_291 gX12_tells_8.2.2.2.2.2.2.1 (fun x32 mx32 lx32 ux32 => ?_)
            replace hF := hF.trans (congrArg (dv_k f_X12_tells_71b) (dv_bn (dv_getI h0 ro_46 (j := 24) rfl mx32 (by decide))))
            refine lv_istore (lv' := [(12, .int x32), (10, .long s122_0), (9, .int x23), (0, .ref a0), (1, .int p1), (5, .int p5), (7, .long j71_7)]) hx hb gX12_tells_8.2.2.2.2.2.2.2 hl (by decide) rfl (fun ls hl => ?_)
            refine lv_aload_n hx hb gX12_tells_9.1 rfl (lv_at hl 3 rfl) ?_
            refine lv_iconst (v := 0) hx hb gX12_tells_9.2.1 (by decide) ?_
            refine th_put hC cf_X12 hB h0 (Or.inl h0) ro_46 rfl (j := 24) rfl (th_sI (by decide) (by decide)) (by decide) rfl narrow_b0 rfl kf_X12_291 gX12_tells_9.2.2.1 (fun H132 locs hB hf hst132 => ?_)
            have mm33 := (th_F_o hf h0 ro_46 (j := 23) (by decide) (by decide)).trans g122_3
            have hR := th_RE_F hB.1 hR h0 hf (th_T_s h0 ro_46 hst132) (by decide)
            have fv_H132_22 : mo_f G H132 a0 22 = mo_f G H122 a0 22 := mo_f_F hf h0 (by decide) (by decide)
            have fv_H132_23 : mo_f G H132 a0 23 = mo_f G H122 a0 23 := mo_f_F hf h0 (by decide) (by decide)
            have fv_H132_25 : mo_f G H132 a0 25 = mo_f G H122 a0 25 := mo_f_F hf h0 (by decide) (by decide)
            have vv_H132_2 : mo_v G H132 a0 2 = mo_v G H122 a0 2 := mo_v_F (r := 48) hB.1 hf h0 rfl ro_48 (by decide) (by decide)
            replace hF := hF.trans (congrArg (dv_k f_X12_tells_71b) (dv_bn (dv_putI hB.1 h0 ro_46 (j := 24) rfl (th_apart hC cf_X12) hst132 tk_0 (by decide))))
            have mm34 := hst132.2.1
            refine lv_aload_n hx hb gX12_tells_9.2.2.2.1 rfl (lv_at hl 3 rfl) ?_
            refine lv_iconst (v := 4) hx hb gX12_tells_9.2.2.2.2.1 (by decide) ?_
            have ce137 : mo_ce G H132 a0 B p2_ = T p2_ := by rw [((mo_ce_T (mo_v_F (r := 48) hB.1 hB.2.2 h0 rfl ro_48 (by decide) (by decide)) (show mo_f G H132 a0 23 = B + n0 by omega)).trans eT.symm)]
            refine th_call (th_runV (As := [.int 4]) (rest := []) hC mf_X12_passes0 km_X12_305 im_X12_passes0 se_X12_passes0 (c_X12_passes0 l G Γ H132 hB.1 hR.1 hU a0 h0 4 (by decide) B p2_ ⟨by omega, by omega, by omega, by omega⟩) rfl rfl ⟨Nat.le_of_ble_eq_true rfl, Nat.le_of_ble_eq_true rfl⟩ hB.1 h0 ro_46 rfl rfl hl.1 rfl (Nat.le_of_ble_eq_true rfl) gX12_tells_9.2.2.2.2.2.1 ⟨Nat.le_refl _, Nat.le_refl _⟩) hB.2.1 (fun v137 H137 locs hp hz hS => ?_)
            have hRD := hR
            obtain ⟨x35, rfl, lx35, ux35, hI1, hf, hR, z137_0, z137_1, z137_2⟩ := hp
            have hR := th_RE_c hR hRD hI1 h0 hf (by decide)
            have hB := th_B_c hB hI1 hS hf (by decide)
            have mm36 := (th_F_o hf h0 ro_46 (j := 23) (by decide) (by decide)).trans mm33
            have mm37 := (th_F_o hf h0 ro_46 (j := 24) (by decide) (by decide)).trans mm34
            have fv_H137_23 : mo_f G H137 a0 23 = mo_f G H132 a0 23 := mo_f_F hf h0 (by decide) (by decide)
            have fv_H137_25 : mo_f G H137 a0 25 = mo_f G H132 a0 25 := mo_f_F hf h0 (by decide) (by decide)
            have vv_H137_2 : mo_v G H137 a0 2 = mo_v G H132 a0 2 := mo_v_F (r := 48) hB.1 hf h0 rfl ro_48 (by decide) (by decide)
            have zf137 := z137_2
            rw [tk_4] at zf137
            replace hF := hF.trans (congrArg (dv_k f_X12_tells_71b) (dv_bn2 (zf137)))
            refine W.eq (g2 := F0 m 140 ls [.int x35]) rfl ?_
            have tk4 := tk_4
            
            
            have jn156 : ∀ (H156 : Heap) (locs : List Loc) (ls : Array Slot) (s156_0 : Int32), th_B G Γ Γ [(46, 22), (46, 24), (58, 0), (46, 23), (46, 25)] H0 H156 locs → th_RE a0 G Γ H156 → lv_has ls 14 [(12, .int x32), (10, .long s122_0), (9, .int x23), (0, .ref a0), (1, .int p1), (5, .int p5), (7, .long j71_7)] → F = dv_k f_X12_tells_71b (f_X12_tells_156 (dv G Γ H156) (x32.toInt) (s122_0.toInt) (x23.toInt) ((a0 : Int)) (p1.toInt) (p5.toInt) (j71_7.toInt) (s156_0.toInt)) → 0 ≤ s156_0.toInt → s156_0.toInt ≤ 1 → mo_f G H156 a0 22 = B + m1 → mo_f G H156 a0 23 = B + n0 → mo_f G H156 a0 25 = 0 → th_sl H156 a0 (G.1.1.2 12 23) = .int x14 → W p l e ({ frames := 50, cells := 0, slots := 0, locals := 1594 } : Room) s m ([.ref a0, .int p1, .int p2, .int p3, .int p4, .int p5, .int p6] : List Value).toArray below meth c H156 locs 0 0 (MQ below (th_Q (fun (v : Option Value) (H1 : Heap) => ∃ r : Int32, v = some (.int r) ∧ 0 ≤ r.toInt ∧ r.toInt ≤ 99 ∧ th_I G Γ H1 ∧ th_F G Γ [(46, 22), (46, 24), (58, 0), (46, 23), (46, 25)] H0 H1 ∧ th_RE a0 G Γ H1 ∧ (f_X12_tells (dv G Γ H0) (a0 : Int) p1.toInt p2.toInt p3.toInt p4.toInt p5.toInt p6.toInt = (dv G Γ H1, r.toInt))) G) ([.ref a0, .int p1, .int p2, .int p3, .int p4, .int p5, .int p6] : List Value).toArray s 0 0 (fun q => G.1.2.2 ≤ q)) (F0 m 156 ls [.int s156_0]) := by
              intro H156 locs ls s156_0 hB hR hl hF g156_0 g156_1 g156_2 g156_3 g156_4 g156_5
              have ls156_0 := ti_lo s156_0; have us156_0 := ti_hi s156_0
              have vw_H156_2 : mo_v G H156 a0 2 = mo_v G H0 a0 2 := mo_v_F (r := 48) hB.1 hB.2.2 h0 rfl ro_48 (by decide) (by decide)
              replace hF := hF.trans (congrArg (dv_k f_X12_tells_71b) (f_X12_tells_156.eq_1 (dv G Γ H156) (x32.toInt) (s122_0.toInt) (x23.toInt) ((a0 : Int)) (p1.toInt) (p5.toInt) (j71_7.toInt) (s156_0.toInt)))
              refine lv_istore (lv' := [(13, .int s156_0), (12, .int x32), (10, .long s122_0), (9, .int x23), (0, .ref a0), (1, .int p1), (5, .int p5), (7, .long j71_7)]) hx hb gX12_tells_10.2.2.2.2.2.2.1 hl (by decide) rfl (fun ls hl => ?_)
              refine lv_iload hx hb gX12_tells_10.2.2.2.2.2.2.2 (lv_at hl 3 rfl) ?_
              refine lv_iload_n hx hb gX12_tells_11.1 rfl (lv_at hl 5 rfl) ?_
              have jn211 : ∀ (locs : List Loc) (ls : Array Slot) (j211_7 : Int64), th_B G Γ Γ [(46, 22), (46, 24), (58, 0), (46, 23), (46, 25)] H0 H156 locs → lv_has ls 14 [(0, .ref a0), (1, .int p1), (5, .int p5), (7, .long j211_7)] → F = dv_k f_X12_tells_71b (f_X12_tells_211 (dv G Γ H156) ((a0 : Int)) (p1.toInt) (p5.toInt) (j211_7.toInt)) → (0 ≤ j211_7.toInt ∧ j211_7.toInt ≤ 99) → W p l e ({ frames := 50, cells := 0, slots := 0, locals := 1594 } : Room) s m ([.ref a0, .int p1, .int p2, .int p3, .int p4, .int p5, .int p6] : List Value).toArray below meth c H156 locs 0 0 (MQ below (th_Q (fun (v : Option Value) (H1 : Heap) => ∃ r : Int32, v = some (.int r) ∧ 0 ≤ r.toInt ∧ r.toInt ≤ 99 ∧ th_I G Γ H1 ∧ th_F G Γ [(46, 22), (46, 24), (58, 0), (46, 23), (46, 25)] H0 H1 ∧ th_RE a0 G Γ H1 ∧ (f_X12_tells (dv G Γ H0) (a0 : Int) p1.toInt p2.toInt p3.toInt p4.toInt p5.toInt p6.toInt = (dv G Γ H1, r.toInt))) G) ([.ref a0, .int p1, .int p2, .int p3, .int p4, .int p5, .int p6] : List Value).toArray s 0 0 (fun q => G.1.2.2 ≤ q)) (F0 m 211 ls []) := by
                intro locs ls j211_7 hB hl hF g211_0
                replace hF := hF.trans (congrArg (dv_k f_X12_tells_71b) (f_X12_tells_211.eq_1 (dv G Γ H156) ((a0 : Int)) (p1.toInt) (p5.toInt) (j211_7.toInt)))
                refine lv_aload_n hx hb gX12_tells_14.2.1 rfl (lv_at hl 0 rfl) ?_
                refine lv_dup hx hb gX12_tells_14.2.2.1 rfl ?_
                refine th_getI (j := 22) hC cf_X12 hB.1 h0 ro_46 rfl rfl kf_X12_281 gX12_tells_14.2.2.2.1 (fun x38 mx38 lx38 ux38 => ?_)
                replace hF := hF.trans (congrArg (dv_k f_X12_tells_71b) (dv_bn (dv_getI h0 ro_46 (j := 22) rfl mx38 (by decide))))
                have fg39 : mo_f G H156 a0 22 = x38.toInt := mo_fat mx38
                refine lv_iconst (v := 1) hx hb gX12_tells_14.2.2.2.2.1 (by decide) ?_
                refine tr_iadd hx hb gX12_tells_14.2.2.2.2.2.1 (Eq.refl _) tk_1 (by omega) (by omega) (fun x40 ex40 => ?_)
                replace hF := hF.trans (congrArg (dv_k f_X12_tells_71b) (dv_bn (ex40.symm)))
                refine th_put hC cf_X12 hB h0 (Or.inl h0) ro_46 rfl (j := 22) rfl th_sIa (by decide) rfl rfl rfl kf_X12_281 gX12_tells_14.2.2.2.2.2.2.1 (fun H218 locs hB hf hst218 => ?_)
                have mm41 := (th_F_o hf h0 ro_46 (j := 23) (by decide) (by decide)).trans g156_5
                have hR := th_RE_F hB.1 hR h0 hf (th_T_s h0 ro_46 hst218) (by decide)
                have fv_H218_23 : mo_f G H218 a0 23 = mo_f G H156 a0 23 := mo_f_F hf h0 (by decide) (by decide)
                have fv_H218_25 : mo_f G H218 a0 25 = mo_f G H156 a0 25 := mo_f_F hf h0 (by decide) (by decide)
                have vv_H218_2 : mo_v G H218 a0 2 = mo_v G H156 a0 2 := mo_v_F (r := 48) hB.1 hf h0 rfl ro_48 (by decide) (by decide)
                replace hF := hF.trans (congrArg (dv_k f_X12_tells_71b) (dv_bn (dv_putI hB.1 h0 ro_46 (j := 22) rfl (th_apart hC cf_X12) hst218 (Eq.refl _) (by decide))))
                have fp218 : mo_f G H218 a0 22 = x40.toInt := mo_f_St hst218
                have mm42 := hst218.2.1
                refine lv_goto (tgt := 71) hx hb gX12_tells_14.2.2.2.2.2.2.2 (by decide) ?_
                replace hF := hF.trans (dv_kl)
                exact ih71 H218 locs ls j211_7 hB hR (lv_sub hl [0, 1, 2, 3] rfl) hF ⟨m1 + 1, by omega, by omega, by rcases r1 with ⟨q9, -⟩ | ⟨-, q9⟩; exact Or.inl (by omega); exact Or.inr q9⟩ (by omega) (by omega) (by have l0 : (0 : Int64).toInt = 0 := rfl; first | omega | decide) mm41 (by omega)
              refine tr_icmp_ne (tgt := 211) hx hb gX12_tells_11.2.1 (by decide) (Eq.refl _) (Eq.refl _) (fun c161 => ?_) (fun c161 => ?_)
              · replace hF := hF.trans (congrArg (dv_k f_X12_tells_71b) (if_pos c161))
                exact jn211 locs ls j71_7 hB (lv_sub hl [4, 5, 6, 7] rfl) hF (by have l0 : (0 : Int64).toInt = 0 := rfl; first | omega | decide)
              · replace hF := hF.trans (congrArg (dv_k f_X12_tells_71b) (if_neg (not_not_intro c161)))
                refine lv_iload hx hb gX12_tells_11.2.2.1 (lv_at hl 0 rfl) ?_
                refine tr_if_eq (tgt := 211) hx hb gX12_tells_11.2.2.2.1 (by decide) (Eq.refl _) (fun c166 => ?_) (fun c166 => ?_)
                · replace hF := hF.trans (congrArg (dv_k f_X12_tells_71b) (if_pos c166))
                  exact jn211 locs ls j71_7 hB (lv_sub hl [4, 5, 6, 7] rfl) hF (by have l0 : (0 : Int64).toInt = 0 := rfl; first | omega | decide)
                · replace hF := hF.trans (congrArg (dv_k f_X12_tells_71b) (if_neg c166))
                  refine lv_aload_n hx hb gX12_tells_11.2.2.2.2.1 rfl (lv_at hl 4 rfl) ?_
                  refine th_getI (j := 24) hC cf_X12 hB.1 h0 ro_46 rfl rfl kf_X12_291 gX12_tells_11.2.2.2.2.2.1 (fun x43 mx43 lx43 ux43 => ?_)
                  replace hF := hF.trans (congrArg (dv_k f_X12_tells_71b) (dv_bn (dv_getI h0 ro_46 (j := 24) rfl mx43 (by decide))))
                  refine tr_if_ne (tgt := 211) hx hb gX12_tells_11.2.2.2.2.2.2.1 (by decide) (Eq.refl _) (fun c173 => ?_) (fun c173 => ?_)
                  · replace hF := hF.trans (congrArg (dv_k f_X12_tells_71b) (if_pos c173))
                    exact jn211 locs ls j71_7 hB (lv_sub hl [4, 5, 6, 7] rfl) hF (by have l0 : (0 : Int64).toInt = 0 := rfl; first | omega | decide)
                  · replace hF := hF.trans (congrArg (dv_k f_X12_tells_71b) (if_neg (not_not_intro c173)))
                    refine lv_iload hx hb gX12_tells_11.2.2.2.2.2.2.2 (lv_at hl 1 rfl) ?_
                    refine tr_if_ne (tgt := 211) hx hb gX12_tells_12.1 (by decide) (Eq.refl _) (fun c178 => ?_) (fun c178 => ?_)
                    · replace hF := hF.trans (congrArg (dv_k f_X12_tells_71b) (if_pos c178))
                      exact jn211 locs ls j71_7 hB (lv_sub hl [4, 5, 6, 7] rfl) hF (by have l0 : (0 : Int64).toInt = 0 := rfl; first | omega | decide)
                    · replace hF := hF.trans (congrArg (dv_k f_X12_tells_71b) (if_neg (not_not_intro c178)))
                      refine lv_lload hx hb gX12_tells_12.2.1 (lv_at hl 2 rfl) ?_
                      refine lv_lconst (v := 0) hx hb gX12_tells_12.2.2.1 rfl ?_
                      refine tr_lcmp2 hx hb gX12_tells_12.2.2.2.1 (fun x44 fx44 gx44 ix44 => ?_)
                      replace hF := hF.trans (congrArg (dv_k f_X12_tells_71b) (dv_bn (dv_lcmp_e (Eq.refl (s122_0.toInt)) (rfl : (0 : Int64).toInt = 0) fx44 ix44)))
                      refine tr_if_ge (tgt := 192) hx hb gX12_tells_12.2.2.2.2.1 (by decide) (Eq.refl _) (fun c185 => ?_) (fun c185 => ?_)
                      · replace hF := hF.trans (congrArg (dv_k f_X12_tells_71b) (if_pos c185))
                        refine lv_lload hx hb gX12_tells_12.2.2.2.2.2.2.2 (lv_at hl 2 rfl) ?_
                        refine lv_iload hx hb gX12_tells_13.1 (lv_at hl 6 rfl) ?_
                        refine lv_i2l hx hb gX12_tells_13.2.1 rfl ?_
                        refine lv_topl (fun y45 ey45 => ?_)
                        replace hF := hF.trans (congrArg (dv_k f_X12_tells_71b) (dv_bn (dv_i2l_e (Eq.refl _) ey45)))
                        have i2y45 := ti_i2l ey45
                        refine tr_lcmp2 hx hb gX12_tells_13.2.2.1 (fun x46 fx46 gx46 ix46 => ?_)
                        replace hF := hF.trans (congrArg (dv_k f_X12_tells_71b) (dv_bn (dv_lcmp_e (Eq.refl (s122_0.toInt)) (Eq.refl (y45.toInt)) fx46 ix46)))
                        refine tr_if_le (tgt := 207) hx hb gX12_tells_13.2.2.2.1 (by decide) (Eq.refl _) (fun c198 => ?_) (fun c198 => ?_)
                        · replace hF := hF.trans (congrArg (dv_k f_X12_tells_71b) (if_pos c198))
                          refine lv_lload hx hb gX12_tells_13.2.2.2.2.2.2.2 (lv_at hl 2 rfl) ?_
                          refine lv_lstore (lv' := [(7, .long s122_0), (13, .int s156_0), (12, .int x32), (10, .long s122_0), (9, .int x23), (0, .ref a0), (1, .int p1), (5, .int p5)]) hx hb gX12_tells_14.1 hl (by decide) rfl (fun ls hl => ?_)
                          exact jn211 locs ls s122_0 hB (lv_sub hl [5, 6, 7, 0] rfl) hF (by have l0 : (0 : Int64).toInt = 0 := rfl; first | omega | decide)
                        · replace hF := hF.trans (congrArg (dv_k f_X12_tells_71b) (if_neg (Int.not_le.mpr c198)))
                          refine lv_iload hx hb gX12_tells_13.2.2.2.2.1 (lv_at hl 6 rfl) ?_
                          refine lv_i2l hx hb gX12_tells_13.2.2.2.2.2.1 rfl ?_
                          refine lv_topl (fun y47 ey47 => ?_)
                          replace hF := hF.trans (congrArg (dv_k f_X12_tells_71b) (dv_bn (dv_i2l_e (Eq.refl _) ey47)))
                          have i2y47 := ti_i2l ey47
                          refine lv_goto (tgt := 209) hx hb gX12_tells_13.2.2.2.2.2.2.1 (by decide) ?_
                          refine lv_lstore (lv' := [(7, .long y47), (13, .int s156_0), (12, .int x32), (10, .long s122_0), (9, .int x23), (0, .ref a0), (1, .int p1), (5, .int p5)]) hx hb gX12_tells_14.1 hl (by decide) rfl (fun ls hl => ?_)
                          exact jn211 locs ls y47 hB (lv_sub hl [5, 6, 7, 0] rfl) hF (by have l0 : (0 : Int64).toInt = 0 := rfl; first | omega | decide)
                      · replace hF := hF.trans (congrArg (dv_k f_X12_tells_71b) (if_neg (Int.not_le.mpr c185)))
                        refine lv_lconst (v := 0) hx hb gX12_tells_12.2.2.2.2.2.1 rfl ?_
                        refine lv_goto (tgt := 209) hx hb gX12_tells_12.2.2.2.2.2.2.1 (by decide) ?_
                        refine lv_lstore (lv' := [(7, .long 0), (13, .int s156_0), (12, .int x32), (10, .long s122_0), (9, .int x23), (0, .ref a0), (1, .int p1), (5, .int p5)]) hx hb gX12_tells_14.1 hl (by decide) rfl (fun ls hl => ?_)
                        exact jn211 locs ls 0 hB (lv_sub hl [5, 6, 7, 0] rfl) (by rw [show (0 : Int64).toInt = 0 from rfl]; exact hF) (by have l0 : (0 : Int64).toInt = 0 := rfl; first | omega | decide)
            have jn151 : ∀ (H151 : Heap) (locs : List Loc) (ls : Array Slot) , th_B G Γ Γ [(46, 22), (46, 24), (58, 0), (46, 23), (46, 25)] H0 H151 locs → th_RE a0 G Γ H151 → lv_has ls 14 [(12, .int x32), (10, .long s122_0), (9, .int x23), (0, .ref a0), (1, .int p1), (5, .int p5), (7, .long j71_7)] → F = dv_k f_X12_tells_71b (f_X12_tells_151 (dv G Γ H151) (x32.toInt) (s122_0.toInt) (x23.toInt) ((a0 : Int)) (p1.toInt) (p5.toInt) (j71_7.toInt)) → mo_f G H151 a0 22 = B + m1 → mo_f G H151 a0 23 = B + n0 → mo_f G H151 a0 25 = 0 → th_sl H151 a0 (G.1.1.2 12 23) = .int x14 → W p l e ({ frames := 50, cells := 0, slots := 0, locals := 1594 } : Room) s m ([.ref a0, .int p1, .int p2, .int p3, .int p4, .int p5, .int p6] : List Value).toArray below meth c H151 locs 0 0 (MQ below (th_Q (fun (v : Option Value) (H1 : Heap) => ∃ r : Int32, v = some (.int r) ∧ 0 ≤ r.toInt ∧ r.toInt ≤ 99 ∧ th_I G Γ H1 ∧ th_F G Γ [(46, 22), (46, 24), (58, 0), (46, 23), (46, 25)] H0 H1 ∧ th_RE a0 G Γ H1 ∧ (f_X12_tells (dv G Γ H0) (a0 : Int) p1.toInt p2.toInt p3.toInt p4.toInt p5.toInt p6.toInt = (dv G Γ H1, r.toInt))) G) ([.ref a0, .int p1, .int p2, .int p3, .int p4, .int p5, .int p6] : List Value).toArray s 0 0 (fun q => G.1.2.2 ≤ q)) (F0 m 151 ls []) := by
              intro H151 locs ls hB hR hl hF g151_0 g151_1 g151_2 g151_3
              have vw_H151_2 : mo_v G H151 a0 2 = mo_v G H0 a0 2 := mo_v_F (r := 48) hB.1 hB.2.2 h0 rfl ro_48 (by decide) (by decide)
              replace hF := hF.trans (congrArg (dv_k f_X12_tells_71b) (f_X12_tells_151.eq_1 (dv G Γ H151) (x32.toInt) (s122_0.toInt) (x23.toInt) ((a0 : Int)) (p1.toInt) (p5.toInt) (j71_7.toInt)))
              refine lv_iconst (v := 1) hx hb gX12_tells_10.2.2.2.1 (by decide) ?_
              refine lv_goto (tgt := 156) hx hb gX12_tells_10.2.2.2.2.1 (by decide) ?_
              exact jn156 H151 locs ls 1 hB hR (lv_sub hl [0, 1, 2, 3, 4, 5, 6] rfl) (by rw [tk_1]; exact hF) (by decide) (by decide) (by first | omega | (rcases if2 with ⟨q9, -⟩ | ⟨-, q9⟩; exact absurd q9 (by omega); omega)) (by have w0 := tk_1; omega) (by have w0 := tk_1; omega) g151_3
            refine tr_if_eq (tgt := 151) hx hb gX12_tells_9.2.2.2.2.2.2.1 (by decide) (Eq.refl _) (fun c140 => ?_) (fun c140 => ?_)
            · replace hF := hF.trans (congrArg (dv_k f_X12_tells_71b) (if_pos c140))
              exact jn151 H137 locs ls hB hR (lv_sub hl [0, 1, 2, 3, 4, 5, 6] rfl) hF (by first | omega | (rcases if2 with ⟨q9, -⟩ | ⟨-, q9⟩; exact absurd q9 (by omega); omega)) (by omega) (by omega) mm36
            · replace hF := hF.trans (congrArg (dv_k f_X12_tells_71b) (if_neg c140))
              refine lv_aload_n hx hb gX12_tells_9.2.2.2.2.2.2.2 rfl (lv_at hl 3 rfl) ?_
              refine lv_iconst (v := 1) hx hb gX12_tells_10.1 (by decide) ?_
              have ts : mo_test 0 T 8 (p2_ + 1) m1 := by rcases if2 with ⟨-, q9⟩ | ⟨q9, -⟩; exact q9; exact absurd (show T p2_ = 4 by omega) q9
              refine th_call (th_runV (As := [.int 1]) (rest := []) hC mf_X12_testOf km_X12_335 im_X12_testOf se_X12_testOf (c_X12_testOf_d 8 l G Γ H137 hB.1 hR.1 hU a0 h0 1 (by decide) (by decide) B (p2_ + 1) m1 ⟨by omega, by omega, by omega, by omega⟩ (by rw [((mo_ce_T (mo_v_F (r := 48) hB.1 hB.2.2 h0 rfl ro_48 (by decide) (by decide)) (show mo_f G H137 a0 23 = B + n0 by omega)).trans eT.symm), show mo_f G H137 a0 25 = 0 by omega]; exact ts)) rfl rfl ⟨Nat.le_of_ble_eq_true rfl, Nat.le_of_ble_eq_true rfl⟩ hB.1 h0 ro_46 rfl rfl hl.1 rfl (Nat.le_of_ble_eq_true rfl) gX12_tells_10.2.1 ⟨Nat.le_refl _, Nat.le_refl _⟩) hB.2.1 (fun v145 H145 locs hp hz hS => ?_)
              have hRD := hR
              obtain ⟨x48, rfl, lx48, ux48, hI1, hf, hR, z145_0, z145_1⟩ := hp
              have hR := th_RE_c hR hRD hI1 h0 hf (by decide)
              have hB := th_B_c hB hI1 hS hf (by decide)
              have mm49 := (th_F_o hf h0 ro_46 (j := 23) (by decide) (by decide)).trans mm36
              have fv_H145_23 : mo_f G H145 a0 23 = mo_f G H137 a0 23 := mo_f_F hf h0 (by decide) (by decide)
              have fv_H145_25 : mo_f G H145 a0 25 = mo_f G H137 a0 25 := mo_f_F hf h0 (by decide) (by decide)
              have vv_H145_2 : mo_v G H145 a0 2 = mo_v G H137 a0 2 := mo_v_F (r := 48) hB.1 hf h0 rfl ro_48 (by decide) (by decide)
              have zf145 := z145_1
              rw [tk_1] at zf145
              replace hF := hF.trans (congrArg (dv_k f_X12_tells_71b) (dv_bn2 (zf145)))
              refine W.eq (g2 := F0 m 148 ls [.int x48]) rfl ?_
              refine tr_if_eq (tgt := 155) hx hb gX12_tells_10.2.2.1 (by decide) (Eq.refl _) (fun c148 => ?_) (fun c148 => ?_)
              · replace hF := hF.trans (congrArg (dv_k f_X12_tells_71b) (if_pos c148))
                refine lv_iconst (v := 0) hx hb gX12_tells_10.2.2.2.2.2.1 (by decide) ?_
                exact jn156 H145 locs ls 0 hB hR (lv_sub hl [0, 1, 2, 3, 4, 5, 6] rfl) (by rw [tk_0]; exact hF) (by decide) (by decide) (by first | omega | (rcases if2 with ⟨q9, -⟩ | ⟨-, q9⟩; exact absurd q9 (by omega); omega)) (by have w0 := tk_0; omega) (by have w0 := tk_0; omega) mm49
              · replace hF := hF.trans (congrArg (dv_k f_X12_tells_71b) (if_neg c148))
                exact jn151 H145 locs ls hB hR (lv_sub hl [0, 1, 2, 3, 4, 5, 6] rfl) hF (by first | omega | (rcases if2 with ⟨q9, -⟩ | ⟨-, q9⟩; exact absurd q9 (by omega); omega)) (by omega) (by omega) mm49
          refine tr_icmp_ne (tgt := 117) hx hb gX12_tells_7.2.2.2.2.2.2.1 (by decide) (Eq.refl _) tk_3 (fun c110 => ?_) (fun c110 => ?_)
          · replace hF := hF.trans (congrArg (dv_k f_X12_tells_71b) (if_pos c110))
            refine lv_aload_n hx hb gX12_tells_8.2.1 rfl (lv_at hl 1 rfl) ?_
            refine lv_iconst (v := 1) hx hb gX12_tells_8.2.2.1 (by decide) ?_
            obtain ⟨p1_, sm, if1⟩ : ∃ p, mo_sum 0 T 8 (m6 + 1) p ∧ mo_if 0 T p m1 := by rcases cl with ⟨-, q9⟩ | ⟨q9, -⟩; exact q9; exact absurd q9 (by omega)
            have lt3 := mo_sum_lt _ _ _ _ _ sm
            have le3 := mo_if_le if1
            refine th_call (th_runV (As := [.int 1]) (rest := []) hC mf_X12_sumOf km_X12_308 im_X12_sumOf se_X12_sumOf (c_X12_sumOf_d 8 l G Γ H104 hB.1 hR.1 hU a0 h0 1 (by decide) (by decide) B (m6 + 1) p1_ ⟨by omega, by omega, by omega, by omega⟩ (by rw [((mo_ce_T (mo_v_F (r := 48) hB.1 hB.2.2 h0 rfl ro_48 (by decide) (by decide)) (show mo_f G H104 a0 23 = B + n0 by omega)).trans eT.symm), show mo_f G H104 a0 25 = 0 by omega]; exact sm)) rfl rfl ⟨Nat.le_of_ble_eq_true rfl, Nat.le_of_ble_eq_true rfl⟩ hB.1 h0 ro_46 rfl rfl hl.1 rfl (Nat.le_of_ble_eq_true rfl) gX12_tells_8.2.2.2.1 ⟨Nat.le_refl _, Nat.le_refl _⟩) hB.2.1 (fun v119 H119 locs hp hz hS => ?_)
            have hRD := hR
            obtain ⟨y50, rfl, hI1, hf, hR, z119_0, z119_1⟩ := hp
            have hR := th_RE_c hR hRD hI1 h0 hf (by decide)
            have hB := th_B_c hB hI1 hS hf (by decide)
            have mm51 := (th_F_o hf h0 ro_46 (j := 23) (by decide) (by decide)).trans mm29
            have fv_H119_23 : mo_f G H119 a0 23 = mo_f G H104 a0 23 := mo_f_F hf h0 (by decide) (by decide)
            have fv_H119_25 : mo_f G H119 a0 25 = mo_f G H104 a0 25 := mo_f_F hf h0 (by decide) (by decide)
            have vv_H119_2 : mo_v G H119 a0 2 = mo_v G H104 a0 2 := mo_v_F (r := 48) hB.1 hf h0 rfl ro_48 (by decide) (by decide)
            have zf119 := z119_1
            rw [tk_1] at zf119
            replace hF := hF.trans (congrArg (dv_k f_X12_tells_71b) (dv_bn2 (zf119)))
            refine W.eq (g2 := F0 m 122 ls [.long y50]) rfl ?_
            exact jn122 H119 locs ls y50 hB hR (lv_sub hl [0, 1, 2, 3, 4] rfl) hF ⟨p1_, by omega, by omega, if1⟩ (by omega) (by omega) mm51
          · replace hF := hF.trans (congrArg (dv_k f_X12_tells_71b) (if_neg (not_not_intro c110)))
            refine lv_lconst (v := 1) hx hb gX12_tells_7.2.2.2.2.2.2.2 rfl ?_
            refine lv_goto (tgt := 122) hx hb gX12_tells_8.1 (by decide) ?_
            exact jn122 H104 locs ls 1 hB hR (lv_sub hl [0, 1, 2, 3, 4] rfl) (by rw [show (1 : Int64).toInt = 1 from rfl]; exact hF) ⟨m6 + 1, by omega, by omega, by rcases cl with ⟨q9, -⟩ | ⟨-, q9⟩; exact absurd q9 (by omega); exact q9⟩ (by omega) (by omega) mm29
    exact lp71 ((B + n0 + 3 - mo_f G H68 a0 22)).toNat H68 locs ls y5 hB hR (lv_sub hl [1, 2, 6, 0] rfl) hF ⟨0, by omega, by omega, Or.inr tx.2⟩ (by omega) (by omega) (by have l0 : (0 : Int64).toInt = 0 := rfl; first | omega | decide) mm17 (by omega)
  · replace hF := hF.trans (if_neg (not_not_intro c8))
    refine lv_iload hx hb gX12_tells_0.2.2.2.2.2.2.1 (lv_at hl 6 rfl) ?_
    exact th_iret hC hH hr hlocks rfl hB.2.1 ⟨_, rfl, by omega, by omega, hB.1, hB.2.2, hR, (hF0.symm.trans hF)⟩ gX12_tells_0.2.2.2.2.2.2.2

set_option maxHeartbeats 4000000 in
set_option maxRecDepth 100000 in
theorem c_X12_costsAt (l : Launch) (G : th_G) (Γ : th_Ga) (H0 : Heap) (hI : th_I G Γ H0) (hU : dv_U Γ) (a0 : Nat) (h0 : Γ a0 = (46, 0)) (hR : th_RE a0 G Γ H0) (p1 : Int32) (f1 : 0 ≤ p1.toInt) (g1 : p1.toInt ≤ 8) (p2 : Int32) (p3 : Int32) : Met l yX12_costsAt (.code yX12_costsAt cX12_costsAt 4 (some FieldType.int) :: th_tb) ({ frames := 51, cells := 0, slots := 0, locals := 1627 } : Room) (th_P [.ref a0, .int p1, .int p2, .int p3] G H0) (th_Q (fun (v : Option Value) (H1 : Heap) => ∃ r : Int32, v = some (.int r) ∧ 0 ≤ r.toInt ∧ r.toInt ≤ 99 ∧ th_I G Γ H1 ∧ th_F G Γ [(46, 22), (46, 24), (58, 0), (46, 23), (46, 25)] H0 H1 ∧ th_RE a0 G Γ H1 ∧ (f_X12_costsAt (dv G Γ H0) (a0 : Int) p1.toInt p2.toInt p3.toInt = (dv G Γ H1, r.toInt))) G) 0 0 (fun q => G.1.2.2 ≤ q) := by
  refine th_met RX12 (by decide) rfl (Nat.le_of_ble_eq_true rfl) ?_
  intro p e s m below meth c hC hH hr hlocks hnm ls hl
  have hx := hC.1
  have hb := hC.2.1
  have hB : th_B G Γ Γ [(46, 22), (46, 24), (58, 0), (46, 23), (46, 25)] H0 H0 [] := ⟨hI, va_S.rf, th_F_rf⟩
  have hl : lv_has ls 4 [(0, .ref a0), (1, .int p1), (2, .int p2), (3, .int p3)] := hl
  have lp1 := ti_lo p1; have up1 := ti_hi p1
  have lp2 := ti_lo p2; have up2 := ti_hi p2
  have lp3 := ti_lo p3; have up3 := ti_hi p3
  obtain ⟨F, hF0⟩ : ∃ F, F = f_X12_costsAt (dv G Γ H0) ((a0 : Int)) (p1.toInt) (p2.toInt) (p3.toInt) := ⟨_, rfl⟩
  have hF := hF0.trans (f_X12_costsAt.eq_1 (dv G Γ H0) ((a0 : Int)) (p1.toInt) (p2.toInt) (p3.toInt))
  refine lv_aload_n hx hb gX12_costsAt_0.1 rfl (lv_at hl 0 rfl) ?_
  refine lv_iconst (v := 1) hx hb gX12_costsAt_0.2.1 (by decide) ?_
  refine lv_iload_n hx hb gX12_costsAt_0.2.2.1 rfl (lv_at hl 1 rfl) ?_
  refine lv_iload_n hx hb gX12_costsAt_0.2.2.2.1 rfl (lv_at hl 2 rfl) ?_
  refine lv_iload_n hx hb gX12_costsAt_0.2.2.2.2.1 rfl (lv_at hl 3 rfl) ?_
  refine lv_bipush (v := 99) hx hb gX12_costsAt_0.2.2.2.2.2.1 (by decide) ?_
  refine lv_aload_n hx hb gX12_costsAt_0.2.2.2.2.2.2.1 rfl (lv_at hl 0 rfl) ?_
  refine th_getO (j := 2) (r2 := 48) hC cf_X12 hB.1 h0 ro_46 rfl rfl kf_X12_28 gX12_costsAt_0.2.2.2.2.2.2.2 (fun b1 mb1 hb1 => ?_)
  refine lv_bipush (v := 29) hx hb gX12_costsAt_1.1 (by decide) ?_
  refine lv_iload_n hx hb gX12_costsAt_1.2.1 rfl (lv_at hl 1 rfl) ?_
  refine tr_iadd hx hb gX12_costsAt_1.2.2.1 tk_29 (Eq.refl _) (by omega) (by omega) (fun x2 ex2 => ?_)
  replace hF := hF.trans (dv_bn (ex2.symm))
  refine th_ialdF hC hB.1 hb1 ro_48 rfl (Eq.refl _) (by omega) (by omega) (ek_side (by omega) (by omega)) gX12_costsAt_1.2.2.2.1 (fun x3 mx3 lx3 ux3 => ?_)
  replace hF := hF.trans (dv_bn (dv_aldI hB.1 hU hb1 ow_48 (z := x2.toInt) mx3 (by omega)))
  refine th_call (th_runV (As := [.int 1, .int p1, .int p2, .int p3, .int 99, .int x3]) (rest := []) hC mf_X12_tells km_X12_341 im_X12_tells se_X12_tells (c_X12_tells l G Γ H0 hB.1 hU a0 h0 hR 1 p1 (by omega) (by omega) p2 p3 99 (by decide) (by decide) x3 (by omega) (by omega)) rfl rfl ⟨Nat.le_of_ble_eq_true rfl, Nat.le_of_ble_eq_true rfl⟩ hB.1 h0 ro_46 rfl rfl hl.1 rfl (Nat.le_of_ble_eq_true rfl) gX12_costsAt_1.2.2.2.2.1 ⟨Nat.le_refl _, Nat.le_refl _⟩) hB.2.1 (fun v16 H16 locs hp hz hS => ?_)
  obtain ⟨x4, rfl, lx4, ux4, hI1, hf, hR, z16_0⟩ := hp
  have hB := th_B_c hB hI1 hS hf (by decide)
  have zf16 := z16_0
  rw [tk_1, tk_99] at zf16
  replace hF := hF.trans (dv_bn2 (zf16))
  refine W.eq (g2 := F0 m 19 ls [.int x4]) rfl ?_
  exact th_iret hC hH hr hlocks rfl hB.2.1 ⟨_, rfl, by omega, by omega, hB.1, hB.2.2, hR, (hF0.symm.trans hF)⟩ gX12_costsAt_1.2.2.2.2.2

set_option maxHeartbeats 4000000 in
set_option maxRecDepth 100000 in
theorem c_X12_isBarred (l : Launch) (G : th_G) (Γ : th_Ga) (H0 : Heap) (hI : th_I G Γ H0) (hU : dv_U Γ) (a0 : Nat) (h0 : Γ a0 = (46, 0)) (hR : th_RE a0 G Γ H0) (p1 : Int32) (f1 : 0 ≤ p1.toInt) (g1 : p1.toInt ≤ 8) (p2 : Int32) (p3 : Int32) : Met l yX12_isBarred (.code yX12_isBarred cX12_isBarred 4 (some FieldType.boolean) :: th_tb) ({ frames := 51, cells := 0, slots := 0, locals := 1627 } : Room) (th_P [.ref a0, .int p1, .int p2, .int p3] G H0) (th_Q (fun (v : Option Value) (H1 : Heap) => ∃ r : Int32, v = some (.int r) ∧ 0 ≤ r.toInt ∧ r.toInt ≤ 1 ∧ th_I G Γ H1 ∧ th_F G Γ [(46, 22), (46, 24), (58, 0), (46, 23), (46, 25)] H0 H1 ∧ th_RE a0 G Γ H1 ∧ (f_X12_isBarred (dv G Γ H0) (a0 : Int) p1.toInt p2.toInt p3.toInt = (dv G Γ H1, r.toInt))) G) 0 0 (fun q => G.1.2.2 ≤ q) := by
  refine th_met RX12 (by decide) rfl (Nat.le_of_ble_eq_true rfl) ?_
  intro p e s m below meth c hC hH hr hlocks hnm ls hl
  have hx := hC.1
  have hb := hC.2.1
  have hB : th_B G Γ Γ [(46, 22), (46, 24), (58, 0), (46, 23), (46, 25)] H0 H0 [] := ⟨hI, va_S.rf, th_F_rf⟩
  have hl : lv_has ls 4 [(0, .ref a0), (1, .int p1), (2, .int p2), (3, .int p3)] := hl
  have lp1 := ti_lo p1; have up1 := ti_hi p1
  have lp2 := ti_lo p2; have up2 := ti_hi p2
  have lp3 := ti_lo p3; have up3 := ti_hi p3
  obtain ⟨F, hF0⟩ : ∃ F, F = f_X12_isBarred (dv G Γ H0) ((a0 : Int)) (p1.toInt) (p2.toInt) (p3.toInt) := ⟨_, rfl⟩
  have hF := hF0.trans (f_X12_isBarred.eq_1 (dv G Γ H0) ((a0 : Int)) (p1.toInt) (p2.toInt) (p3.toInt))
  refine lv_aload_n hx hb gX12_isBarred_0.1 rfl (lv_at hl 0 rfl) ?_
  refine lv_iconst (v := 3) hx hb gX12_isBarred_0.2.1 (by decide) ?_
  refine lv_iload_n hx hb gX12_isBarred_0.2.2.1 rfl (lv_at hl 1 rfl) ?_
  refine lv_iload_n hx hb gX12_isBarred_0.2.2.2.1 rfl (lv_at hl 2 rfl) ?_
  refine lv_iload_n hx hb gX12_isBarred_0.2.2.2.2.1 rfl (lv_at hl 3 rfl) ?_
  refine lv_iconst (v := 1) hx hb gX12_isBarred_0.2.2.2.2.2.1 (by decide) ?_
  refine lv_iconst (v := 0) hx hb gX12_isBarred_0.2.2.2.2.2.2.1 (by decide) ?_
  refine th_call (th_runV (As := [.int 3, .int p1, .int p2, .int p3, .int 1, .int 0]) (rest := []) hC mf_X12_tells km_X12_341 im_X12_tells se_X12_tells (c_X12_tells l G Γ H0 hB.1 hU a0 h0 hR 3 p1 (by omega) (by omega) p2 p3 1 (by decide) (by decide) 0 (by decide) (by decide)) rfl rfl ⟨Nat.le_of_ble_eq_true rfl, Nat.le_of_ble_eq_true rfl⟩ hB.1 h0 ro_46 rfl rfl hl.1 rfl (Nat.le_of_ble_eq_true rfl) gX12_isBarred_0.2.2.2.2.2.2.2 ⟨Nat.le_refl _, Nat.le_refl _⟩) hB.2.1 (fun v7 H7 locs hp hz hS => ?_)
  obtain ⟨x1, rfl, lx1, ux1, hI1, hf, hR, z7_0⟩ := hp
  have hB := th_B_c hB hI1 hS hf (by decide)
  have zf7 := z7_0
  rw [tk_3, tk_1, tk_0] at zf7
  replace hF := hF.trans (dv_bn2 (zf7))
  refine W.eq (g2 := F0 m 10 ls [.int x1]) rfl ?_
  refine lv_iconst (v := 1) hx hb gX12_isBarred_1.1 (by decide) ?_
  refine tr_icmp_ne (tgt := 18) hx hb gX12_isBarred_1.2.1 (by decide) (Eq.refl _) tk_1 (fun c11 => ?_) (fun c11 => ?_)
  · replace hF := hF.trans (if_pos c11)
    refine lv_iconst (v := 0) hx hb gX12_isBarred_1.2.2.2.2.1 (by decide) ?_
    exact th_iret hC hH hr hlocks narrow_b0 hB.2.1 ⟨_, rfl, by decide, by decide, hB.1, hB.2.2, hR, (hF0.symm.trans (hF.trans (by rw [tk_0])))⟩ gX12_isBarred_1.2.2.2.2.2
  · replace hF := hF.trans (if_neg (not_not_intro c11))
    refine lv_iconst (v := 1) hx hb gX12_isBarred_1.2.2.1 (by decide) ?_
    refine lv_goto (tgt := 19) hx hb gX12_isBarred_1.2.2.2.1 (by decide) ?_
    exact th_iret hC hH hr hlocks narrow_b1 hB.2.1 ⟨_, rfl, by decide, by decide, hB.1, hB.2.2, hR, (hF0.symm.trans (hF.trans (by rw [tk_1])))⟩ gX12_isBarred_1.2.2.2.2.2

set_option maxHeartbeats 4000000 in
set_option maxRecDepth 100000 in
theorem c_X12_wearsNow (l : Launch) (G : th_G) (Γ : th_Ga) (H0 : Heap) (hI : th_I G Γ H0) (hU : dv_U Γ) (a0 : Nat) (h0 : Γ a0 = (46, 0)) (hR : th_RE a0 G Γ H0) (p1 : Int32) (f1 : 0 ≤ p1.toInt) (g1 : p1.toInt ≤ 8) : Met l yX12_wearsNow (.code yX12_wearsNow cX12_wearsNow 2 (some FieldType.int) :: th_tb) ({ frames := 51, cells := 0, slots := 0, locals := 1627 } : Room) (th_P [.ref a0, .int p1] G H0) (th_Q (fun (v : Option Value) (H1 : Heap) => ∃ r : Int32, v = some (.int r) ∧ 0 ≤ r.toInt ∧ r.toInt ≤ 99 ∧ th_I G Γ H1 ∧ th_F G Γ [(46, 22), (46, 24), (58, 0), (46, 23), (46, 25)] H0 H1 ∧ th_RE a0 G Γ H1 ∧ (f_X12_wearsNow (dv G Γ H0) (a0 : Int) p1.toInt = (dv G Γ H1, r.toInt))) G) 0 0 (fun q => G.1.2.2 ≤ q) := by
  refine th_met RX12 (by decide) rfl (Nat.le_of_ble_eq_true rfl) ?_
  intro p e s m below meth c hC hH hr hlocks hnm ls hl
  have hx := hC.1
  have hb := hC.2.1
  have hB : th_B G Γ Γ [(46, 22), (46, 24), (58, 0), (46, 23), (46, 25)] H0 H0 [] := ⟨hI, va_S.rf, th_F_rf⟩
  have hl : lv_has ls 2 [(0, .ref a0), (1, .int p1)] := hl
  have lp1 := ti_lo p1; have up1 := ti_hi p1
  obtain ⟨F, hF0⟩ : ∃ F, F = f_X12_wearsNow (dv G Γ H0) ((a0 : Int)) (p1.toInt) := ⟨_, rfl⟩
  have hF := hF0.trans (f_X12_wearsNow.eq_1 (dv G Γ H0) ((a0 : Int)) (p1.toInt))
  refine lv_aload_n hx hb gX12_wearsNow_0.1 rfl (lv_at hl 0 rfl) ?_
  refine lv_iconst (v := 2) hx hb gX12_wearsNow_0.2.1 (by decide) ?_
  refine lv_iload_n hx hb gX12_wearsNow_0.2.2.1 rfl (lv_at hl 1 rfl) ?_
  refine lv_aload_n hx hb gX12_wearsNow_0.2.2.2.1 rfl (lv_at hl 0 rfl) ?_
  refine th_getO (j := 2) (r2 := 48) hC cf_X12 hB.1 h0 ro_46 rfl rfl kf_X12_28 gX12_wearsNow_0.2.2.2.2.1 (fun b1 mb1 hb1 => ?_)
  refine lv_bipush (v := 9) hx hb gX12_wearsNow_0.2.2.2.2.2.1 (by decide) ?_
  refine lv_iload_n hx hb gX12_wearsNow_0.2.2.2.2.2.2.1 rfl (lv_at hl 1 rfl) ?_
  refine tr_iadd hx hb gX12_wearsNow_0.2.2.2.2.2.2.2 tk_9 (Eq.refl _) (by omega) (by omega) (fun x2 ex2 => ?_)
  replace hF := hF.trans (dv_bn (ex2.symm))
  refine th_ialdF hC hB.1 hb1 ro_48 rfl (Eq.refl _) (by omega) (by omega) (ek_a (by omega) (by omega)) gX12_wearsNow_1.1 (fun x3 mx3 lx3 ux3 => ?_)
  replace hF := hF.trans (dv_bn (dv_aldI hB.1 hU hb1 ow_48 (z := x2.toInt) mx3 (by omega)))
  refine lv_aload_n hx hb gX12_wearsNow_1.2.1 rfl (lv_at hl 0 rfl) ?_
  refine th_getK hC cf_X12 hB.1 h0 ro_46 rfl (j := 2) (by decide) mb1 kf_X12_28 gX12_wearsNow_1.2.2.1 ?_
  refine lv_bipush (v := 18) hx hb gX12_wearsNow_1.2.2.2.1 (by decide) ?_
  refine lv_iload_n hx hb gX12_wearsNow_1.2.2.2.2.1 rfl (lv_at hl 1 rfl) ?_
  refine tr_iadd hx hb gX12_wearsNow_1.2.2.2.2.2.1 tk_18 (Eq.refl _) (by omega) (by omega) (fun x4 ex4 => ?_)
  replace hF := hF.trans (dv_bn (ex4.symm))
  refine th_ialdF hC hB.1 hb1 ro_48 rfl (Eq.refl _) (by omega) (by omega) (ek_a (by omega) (by omega)) gX12_wearsNow_1.2.2.2.2.2.2.1 (fun x5 mx5 lx5 ux5 => ?_)
  replace hF := hF.trans (dv_bn (dv_aldI hB.1 hU hb1 ow_48 (z := x4.toInt) mx5 (by omega)))
  refine lv_bipush (v := 9) hx hb gX12_wearsNow_1.2.2.2.2.2.2.2 (by decide) ?_
  refine lv_iconst (v := 1) hx hb gX12_wearsNow_2.1 (by decide) ?_
  refine th_call (th_runV (As := [.int 2, .int p1, .int x3, .int x5, .int 9, .int 1]) (rest := []) hC mf_X12_tells km_X12_341 im_X12_tells se_X12_tells (c_X12_tells l G Γ H0 hB.1 hU a0 h0 hR 2 p1 (by omega) (by omega) x3 x5 9 (by decide) (by decide) 1 (by decide) (by decide)) rfl rfl ⟨Nat.le_of_ble_eq_true rfl, Nat.le_of_ble_eq_true rfl⟩ hB.1 h0 ro_46 rfl rfl hl.1 rfl (Nat.le_of_ble_eq_true rfl) gX12_wearsNow_2.2.1 ⟨Nat.le_refl _, Nat.le_refl _⟩) hB.2.1 (fun v24 H24 locs hp hz hS => ?_)
  obtain ⟨x6, rfl, lx6, ux6, hI1, hf, hR, z24_0⟩ := hp
  have hB := th_B_c hB hI1 hS hf (by decide)
  have mm7 := (th_F_o hf h0 ro_46 (j := 2) (by decide) (by decide)).trans mb1
  have zf24 := z24_0
  rw [tk_2, tk_9, tk_1] at zf24
  replace hF := hF.trans (dv_bn2 (zf24))
  refine W.eq (g2 := F0 m 27 ls [.int x6]) rfl ?_
  exact th_iret hC hH hr hlocks rfl hB.2.1 ⟨_, rfl, by omega, by omega, hB.1, hB.2.2, hR, (hF0.symm.trans hF)⟩ gX12_wearsNow_2.2.2
end
section
section MO6
variable {G : th_G} {Γ : th_Ga} {H H1 : Heap} {L : List (Nat × Nat)} {a : Nat} {cv : Int → Int}
/-- the tokens that are read are cv, and behind the last there is none -/
def mo_rd (G : th_G) (H : Heap) (a : Nat) (cv : Int → Int) : Prop := mo_cr G H a = cv ∧ mo_v G H a 15 (mo_f G H a 18) = 0
theorem mo_rd_F (hI : th_I G Γ H1) (hF : th_F G Γ L H H1) (ha : Γ a = (46, 0)) (hL : th_in L 46 15 = false ∧ th_in L 55 0 = false ∧ th_in L 46 18 = false) (h : mo_rd G H a cv) : mo_rd G H1 a cv := by
  unfold mo_rd
  rw [mo_cr_F hI hF ha hL, mo_v_F (r := 55) hI hF ha rfl ro_55 hL.1 hL.2.1, mo_f_F hF ha (by decide) hL.2.2]
  exact h
theorem mo_rd_at {z x : Int} (h : mo_rd G H a cv) (hv : mo_v G H a 15 z = x) (h0 : 0 ≤ z) (h1 : z ≤ mo_f G H a 18) : cv z = x := by
  rw [← h.1]
  unfold mo_cr mo_tf
  by_cases q : 0 ≤ z ∧ z < mo_f G H a 18
  · rw [if_pos q, Int.zero_add]
    exact hv
  · rw [if_neg q, ← hv, show z = mo_f G H a 18 by omega]
    exact h.2.symm
theorem mo_rd_nz {z : Int} (h : mo_rd G H a cv) (hz : cv z ≠ 0) : 0 ≤ z ∧ z < mo_f G H a 18 := by
  rw [← h.1] at hz
  exact mo_tf_nz hz
theorem mo_lpr {f n : Int} {A X : Int → Prop} (h : ∃ m : Int, f = m ∧ A m ∧ m ≤ n ∧ X m) : f ≤ n := by
  obtain ⟨m, h1, -, h2, -⟩ := h
  omega
theorem mo_f_rg (hI : th_I G Γ H) (ha : Γ a = (46, 0)) {j : Nat} {lo hi : Int} (hq : th_f46[j]? = some (0, lo, hi)) : lo ≤ mo_f G H a j ∧ mo_f G H a j ≤ hi := by
  obtain ⟨-, -, h⟩ := hI a 46 0 _ ha ro_46
  obtain ⟨x, e1, e2, e3⟩ := h j _ hq
  rw [mo_fat e1]
  exact ⟨e2, e3⟩
/-- the words of the language o -/
def mo_wd (G : th_G) (H : Heap) (a : Nat) (o : Int) : Prop := mo_f G H a 10 = o ∧ ((o = 0 ∧ mo_f G H a 8 = 8 ∧ mo_f G H a 9 = 15) ∨ (o = 1 ∧ mo_f G H a 8 = 14 ∧ mo_f G H a 9 = 20))
theorem mo_wd_F {o : Int} (hF : th_F G Γ L H H1) (ha : Γ a = (46, 0)) (hL : th_in L 46 8 = false ∧ th_in L 46 9 = false ∧ th_in L 46 10 = false) (h : mo_wd G H a o) : mo_wd G H1 a o := by
  unfold mo_wd
  rw [mo_f_F hF ha (by decide) hL.1, mo_f_F hF ha (by decide) hL.2.1, mo_f_F hF ha (by decide) hL.2.2]
  exact h
def mo_clh (cv : Int → Int) (t m : Int) : Prop := ((cv t = 1 ∨ cv t = 2) ∧ mo_sum 0 cv 8 (t + 1) m) ∨ (cv t = 3 ∧ m = t + 1)
theorem mo_cla_h {t m j : Int} (h : mo_clh cv t m) (hi : mo_if 0 cv m j) : mo_cla cv t j := by
  rcases h with ⟨h1, h2⟩ | ⟨h1, h2⟩
  · exact Or.inl ⟨h1, m, h2, hi⟩
  · subst h2
    exact Or.inr ⟨h1, hi⟩
theorem mo_if_y {o m a j : Int} (h : cv m = 4) (ha : a = m + 1) (ht : mo_test o cv 8 a j) : mo_if o cv m j := by
  subst ha
  exact Or.inl ⟨h, ht⟩
theorem mo_if_n {o m j : Int} (h : cv m ≠ 4) (hj : j = m) : mo_if o cv m j := Or.inr ⟨h, hj⟩
theorem mo_tim_y {m a j : Int} (h : cv m = 27) (h2 : cv a = 50) (ha : a = m + 1 ∧ j = m + 2) : mo_tim cv m j := by
  obtain ⟨ha, hj⟩ := ha
  subst ha
  exact Or.inl ⟨h, h2, hj⟩
theorem mo_tim_n {m j : Int} (h : cv m ≠ 27) (hj : j = m) : mo_tim cv m j := Or.inr ⟨h, hj⟩
end MO6
set_option maxHeartbeats 4000000 in
set_option maxRecDepth 100000 in
theorem c_X12_faults (l : Launch) (G : th_G) (Γ : th_Ga) (H0 : Heap) (hI : th_I G Γ H0) (hR : th_RC G Γ H0) (hU : dv_U Γ) (a0 : Nat) (h0 : Γ a0 = (46, 0)) : Met l yX12_faults (.code yX12_faults cX12_faults 1 (none) :: th_tb) ({ frames := 1, cells := 0, slots := 0, locals := 20 } : Room) (th_P [.ref a0] G H0) (th_Q (fun (v : Option Value) (H1 : Heap) => v = none ∧ th_I G Γ H1 ∧ th_F G Γ [(46, 21)] H0 H1 ∧ th_RC G Γ H1 ∧ (mo_f G H1 a0 21 ≠ -1) ∧ (f_X12_faults (dv G Γ H0) (a0 : Int) = (dv G Γ H1, 0))) G) 0 0 (fun q => G.1.2.2 ≤ q) := by
  refine th_met RX12 (by decide) rfl (Nat.le_of_ble_eq_true rfl) ?_
  intro p e s m below meth c hC hH hr hlocks hnm ls hl
  have hx := hC.1
  have hb := hC.2.1
  have hB : th_B G Γ Γ [(46, 21)] H0 H0 [] := ⟨hI, va_S.rf, th_F_rf⟩
  have hl : lv_has ls 1 [(0, .ref a0)] := hl
  obtain ⟨F, hF0⟩ : ∃ F, F = f_X12_faults (dv G Γ H0) ((a0 : Int)) := ⟨_, rfl⟩
  have hF := hF0.trans (f_X12_faults.eq_1 (dv G Γ H0) ((a0 : Int)))
  refine lv_aload_n hx hb gX12_faults_0.1 rfl (lv_at hl 0 rfl) ?_
  refine th_call (th_runV (As := []) (rest := []) hC mf_X12_fine km_X12_192 im_X12_fine se_X12_fine (c_X12_fine l G Γ H0 hB.1 hU a0 h0) rfl rfl ⟨Nat.le_of_ble_eq_true rfl, Nat.le_of_ble_eq_true rfl⟩ hB.1 h0 ro_46 rfl rfl hl.1 rfl (Nat.le_of_ble_eq_true rfl) gX12_faults_0.2.1 ⟨Nat.le_refl _, Nat.le_refl _⟩) hB.2.1 (fun v1 H1 locs hp hz hS => ?_)
  obtain ⟨x1, rfl, lx1, ux1, q1_0, q1_1, q1_2, rfl⟩ := hp
  have hB := th_B_s hB hS
  replace hF := hF.trans (dv_bn2 (q1_2))
  refine W.eq (g2 := F0 m 4 ls [.int x1]) rfl ?_
  refine tr_if_eq (tgt := 20) hx hb gX12_faults_0.2.2.1 (by decide) (Eq.refl _) (fun c4 => ?_) (fun c4 => ?_)
  · specialize q1_1 (by omega); clear q1_0
    replace hF := hF.trans (if_pos c4)
    exact th_vret hC hH hr hlocks hB.2.1 ⟨rfl, hB.1, hB.2.2, hR, by omega, (hF0.symm.trans hF)⟩ gX12_faults_1.2.2
  · specialize q1_0 (by omega); clear q1_1
    replace hF := hF.trans (if_neg c4)
    refine lv_aload_n hx hb gX12_faults_0.2.2.2.1 rfl (lv_at hl 0 rfl) ?_
    refine lv_aload_n hx hb gX12_faults_0.2.2.2.2.1 rfl (lv_at hl 0 rfl) ?_
    refine th_getO (j := 17) (r2 := 57) hC cf_X12 hB.1 h0 ro_46 rfl rfl kf_X12_60 gX12_faults_0.2.2.2.2.2.1 (fun b2 mb2 hb2 => ?_)
    refine lv_aload_n hx hb gX12_faults_0.2.2.2.2.2.2.1 rfl (lv_at hl 0 rfl) ?_
    refine th_getI (j := 19) hC cf_X12 hB.1 h0 ro_46 rfl rfl kf_X12_196 gX12_faults_0.2.2.2.2.2.2.2 (fun x3 mx3 lx3 ux3 => ?_)
    replace hF := hF.trans (dv_bn (dv_getI h0 ro_46 (j := 19) rfl mx3 (by decide)))
    refine th_ialdF hC hB.1 hb2 ro_57 rfl (Eq.refl _) (by omega) (by omega) rfl gX12_faults_1.1 (fun x4 mx4 lx4 ux4 => ?_)
    replace hF := hF.trans (dv_bn (dv_aldI hB.1 hU hb2 ow_57 (z := x3.toInt) mx4 (by omega)))
    refine th_put hC cf_X12 hB h0 (Or.inl h0) ro_46 rfl (j := 21) rfl (th_sI (by omega) (by omega)) (by decide) rfl rfl rfl kf_X12_189 gX12_faults_1.2.1 (fun H17 locs hB hf hst17 => ?_)
    have hR := th_RC_F hB.1 hR hf (th_T_s h0 ro_46 hst17) (by decide)
    replace hF := hF.trans (dv_bn (dv_putI hB.1 h0 ro_46 (j := 21) rfl (th_apart hC cf_X12) hst17 (Eq.refl _) (by decide)))
    have fp17 : mo_f G H17 a0 21 = x4.toInt := mo_f_St hst17
    exact th_vret hC hH hr hlocks hB.2.1 ⟨rfl, hB.1, hB.2.2, hR, by omega, (hF0.symm.trans hF)⟩ gX12_faults_1.2.2

set_option maxHeartbeats 4000000 in
set_option maxRecDepth 100000 in
theorem c_X12_takes0 (l : Launch) (G : th_G) (Γ : th_Ga) (H0 : Heap) (hI : th_I G Γ H0) (hR : th_RC G Γ H0) (hU : dv_U Γ) (a0 : Nat) (h0 : Γ a0 = (46, 0)) (p1 : Int32) (f1 : 1 ≤ p1.toInt) (cv : Int → Int) (t : Int) (k1 : mo_rd G H0 a0 cv) (k2 : mo_f G H0 a0 19 = t ∧ 0 ≤ t ∧ t ≤ mo_f G H0 a0 18) : Met l yX12_takes0 (.code yX12_takes0 cX12_takes0 3 (some FieldType.boolean) :: th_tb) ({ frames := 1, cells := 0, slots := 0, locals := 20 } : Room) (th_P [.ref a0, .int p1] G H0) (th_Q (fun (v : Option Value) (H1 : Heap) => ∃ r : Int32, v = some (.int r) ∧ 0 ≤ r.toInt ∧ r.toInt ≤ 1 ∧ th_I G Γ H1 ∧ th_F G Γ [(46, 19)] H0 H1 ∧ th_RC G Γ H1 ∧ (r.toInt = 1 → mo_f G H0 a0 21 = -1 ∧ cv t = p1.toInt ∧ mo_f G H1 a0 19 = t + 1) ∧ (r.toInt = 0 → mo_f G H1 a0 19 = t ∧ (mo_f G H0 a0 21 = -1 → cv t ≠ p1.toInt)) ∧ (mo_f G H1 a0 19 ≤ mo_f G H0 a0 18) ∧ (f_X12_takes0 (dv G Γ H0) (a0 : Int) p1.toInt = (dv G Γ H1, r.toInt))) G) 0 0 (fun q => G.1.2.2 ≤ q) := by
  refine th_met RX12 (by decide) rfl (Nat.le_of_ble_eq_true rfl) ?_
  intro p e s m below meth c hC hH hr hlocks hnm ls hl
  have hx := hC.1
  have hb := hC.2.1
  have hB : th_B G Γ Γ [(46, 19)] H0 H0 [] := ⟨hI, va_S.rf, th_F_rf⟩
  have hl : lv_has ls 3 [(0, .ref a0), (1, .int p1)] := hl
  have lp1 := ti_lo p1; have up1 := ti_hi p1
  obtain ⟨F, hF0⟩ : ∃ F, F = f_X12_takes0 (dv G Γ H0) ((a0 : Int)) (p1.toInt) := ⟨_, rfl⟩
  have hF := hF0.trans (f_X12_takes0.eq_1 (dv G Γ H0) ((a0 : Int)) (p1.toInt))
  refine lv_aload_n hx hb gX12_takes0_0.1 rfl (lv_at hl 0 rfl) ?_
  refine th_call (th_runV (As := []) (rest := []) hC mf_X12_fine km_X12_192 im_X12_fine se_X12_fine (c_X12_fine l G Γ H0 hB.1 hU a0 h0) rfl rfl ⟨Nat.le_of_ble_eq_true rfl, Nat.le_of_ble_eq_true rfl⟩ hB.1 h0 ro_46 rfl rfl hl.1 rfl (Nat.le_of_ble_eq_true rfl) gX12_takes0_0.2.1 ⟨Nat.le_refl _, Nat.le_refl _⟩) hB.2.1 (fun v1 H1 locs hp hz hS => ?_)
  obtain ⟨x1, rfl, lx1, ux1, q1_0, q1_1, q1_2, rfl⟩ := hp
  have hB := th_B_s hB hS
  replace hF := hF.trans (dv_bn2 (q1_2))
  refine W.eq (g2 := F0 m 4 ls [.int x1]) rfl ?_
  refine tr_if_eq (tgt := 24) hx hb gX12_takes0_0.2.2.1 (by decide) (Eq.refl _) (fun c4 => ?_) (fun c4 => ?_)
  · specialize q1_1 (by omega); clear q1_0
    replace hF := hF.trans (if_pos c4)
    refine lv_iconst (v := 0) hx hb gX12_takes0_1.2.2.2.2.1 (by decide) ?_
    refine lv_istore_n (lv' := [(2, .int 0), (0, .ref a0), (1, .int p1)]) hx hb gX12_takes0_1.2.2.2.2.2.1 rfl hl (by decide) rfl (fun ls hl => ?_)
    refine lv_iload_n hx hb gX12_takes0_1.2.2.2.2.2.2.1 rfl (lv_at hl 0 rfl) ?_
    refine tr_if_eq (tgt := 40) hx hb gX12_takes0_1.2.2.2.2.2.2.2 (by decide) tk_0 (fun c27 => ?_) (fun c27 => ?_)
    · refine lv_iload_n hx hb gX12_takes0_2.2.2.2.2.2.2.1 rfl (lv_at hl 0 rfl) ?_
      exact th_iret hC hH hr hlocks narrow_b0 hB.2.1 ⟨_, rfl, by decide, by decide, hB.1, hB.2.2, hR, by first | (intro h9; exact absurd h9 (by decide)) | (intro _; omega), by first | (intro h9; exact absurd h9 (by decide)) | (intro _; omega), by omega, (hF0.symm.trans (hF.trans (by rw [tk_0])))⟩ gX12_takes0_2.2.2.2.2.2.2.2
    · exfalso; omega
  · specialize q1_0 (by omega); clear q1_1
    replace hF := hF.trans (if_neg c4)
    refine lv_aload_n hx hb gX12_takes0_0.2.2.2.1 rfl (lv_at hl 0 rfl) ?_
    refine th_getO (j := 15) (r2 := 55) hC cf_X12 hB.1 h0 ro_46 rfl rfl kf_X12_54 gX12_takes0_0.2.2.2.2.1 (fun b2 mb2 hb2 => ?_)
    refine lv_aload_n hx hb gX12_takes0_0.2.2.2.2.2.1 rfl (lv_at hl 0 rfl) ?_
    refine th_getI (j := 19) hC cf_X12 hB.1 h0 ro_46 rfl rfl kf_X12_196 gX12_takes0_0.2.2.2.2.2.2.1 (fun x3 mx3 lx3 ux3 => ?_)
    replace hF := hF.trans (dv_bn (dv_getI h0 ro_46 (j := 19) rfl mx3 (by decide)))
    have fg4 : mo_f G H0 a0 19 = x3.toInt := mo_fat mx3
    refine th_ialdF hC hB.1 hb2 ro_55 rfl (Eq.refl _) (by omega) (by omega) rfl gX12_takes0_0.2.2.2.2.2.2.2 (fun x5 mx5 lx5 ux5 => ?_)
    replace hF := hF.trans (dv_bn (dv_aldI hB.1 hU hb2 ow_55 (z := x3.toInt) mx5 (by omega)))
    have vgx5 : mo_v G H0 a0 15 x3.toInt = x5.toInt := by rw [show (x3.toInt : Int) = x3.toInt by omega]; exact mo_vat mb2 mx5 (by omega)
    have rc15 : cv t = x5.toInt := by have q9 := mo_rd_at k1 vgx5 (by omega) (by omega); rw [← q9]; congr 1; omega
    refine lv_iload_n hx hb gX12_takes0_1.1 rfl (lv_at hl 1 rfl) ?_
    refine tr_icmp_ne (tgt := 24) hx hb gX12_takes0_1.2.1 (by decide) (Eq.refl _) (Eq.refl _) (fun c17 => ?_) (fun c17 => ?_)
    · replace hF := hF.trans (if_pos c17)
      refine lv_iconst (v := 0) hx hb gX12_takes0_1.2.2.2.2.1 (by decide) ?_
      refine lv_istore_n (lv' := [(2, .int 0), (0, .ref a0), (1, .int p1)]) hx hb gX12_takes0_1.2.2.2.2.2.1 rfl hl (by decide) rfl (fun ls hl => ?_)
      refine lv_iload_n hx hb gX12_takes0_1.2.2.2.2.2.2.1 rfl (lv_at hl 0 rfl) ?_
      refine tr_if_eq (tgt := 40) hx hb gX12_takes0_1.2.2.2.2.2.2.2 (by decide) tk_0 (fun c27 => ?_) (fun c27 => ?_)
      · refine lv_iload_n hx hb gX12_takes0_2.2.2.2.2.2.2.1 rfl (lv_at hl 0 rfl) ?_
        exact th_iret hC hH hr hlocks narrow_b0 hB.2.1 ⟨_, rfl, by decide, by decide, hB.1, hB.2.2, hR, by first | (intro h9; exact absurd h9 (by decide)) | (intro _; omega), by first | (intro h9; exact absurd h9 (by decide)) | (intro _; omega), by omega, (hF0.symm.trans (hF.trans (by rw [tk_0])))⟩ gX12_takes0_2.2.2.2.2.2.2.2
      · exfalso; omega
    · replace hF := hF.trans (if_neg (not_not_intro c17))
      refine lv_iconst (v := 1) hx hb gX12_takes0_1.2.2.1 (by decide) ?_
      refine lv_goto (tgt := 25) hx hb gX12_takes0_1.2.2.2.1 (by decide) ?_
      refine lv_istore_n (lv' := [(2, .int 1), (0, .ref a0), (1, .int p1)]) hx hb gX12_takes0_1.2.2.2.2.2.1 rfl hl (by decide) rfl (fun ls hl => ?_)
      refine lv_iload_n hx hb gX12_takes0_1.2.2.2.2.2.2.1 rfl (lv_at hl 0 rfl) ?_
      refine tr_if_eq (tgt := 40) hx hb gX12_takes0_1.2.2.2.2.2.2.2 (by decide) tk_1 (fun c27 => ?_) (fun c27 => ?_)
      · exfalso; omega
      · refine lv_aload_n hx hb gX12_takes0_2.1 rfl (lv_at hl 1 rfl) ?_
        refine lv_dup hx hb gX12_takes0_2.2.1 rfl ?_
        refine th_getK hC cf_X12 hB.1 h0 ro_46 rfl (j := 19) (by decide) mx3 kf_X12_196 gX12_takes0_2.2.2.1 ?_
        replace hF := hF.trans (dv_bn (dv_getI h0 ro_46 (j := 19) rfl mx3 (by decide)))
        have fg6 : mo_f G H0 a0 19 = x3.toInt := mo_fat mx3
        have nz32 := mo_rd_nz k1 (show cv t ≠ 0 by omega)
        have t18 := mo_f_rg hI h0 (j := 18) rfl
        refine lv_iconst (v := 1) hx hb gX12_takes0_2.2.2.2.1 (by decide) ?_
        refine tr_iadd hx hb gX12_takes0_2.2.2.2.2.1 (Eq.refl _) tk_1 (by omega) (by omega) (fun x7 ex7 => ?_)
        replace hF := hF.trans (dv_bn (ex7.symm))
        refine th_put hC cf_X12 hB h0 (Or.inl h0) ro_46 rfl (j := 19) rfl (th_sI (by omega) (by omega)) (by decide) rfl rfl rfl kf_X12_196 gX12_takes0_2.2.2.2.2.2.1 (fun H37 locs hB hf hst37 => ?_)
        have hR := th_RC_F hB.1 hR hf (th_T_s h0 ro_46 hst37) (by decide)
        have fv_H37_18 : mo_f G H37 a0 18 = mo_f G H0 a0 18 := mo_f_F hf h0 (by decide) (by decide)
        have fv_H37_21 : mo_f G H37 a0 21 = mo_f G H0 a0 21 := mo_f_F hf h0 (by decide) (by decide)
        have vv_H37_15 : mo_v G H37 a0 15 = mo_v G H0 a0 15 := mo_v_F (r := 55) hB.1 hf h0 rfl ro_55 (by decide) (by decide)
        have cr_H37 : mo_rd G H37 a0 cv := mo_rd_F hB.1 hB.2.2 h0 (by decide) k1
        replace hF := hF.trans (dv_bn (dv_putI hB.1 h0 ro_46 (j := 19) rfl (th_apart hC cf_X12) hst37 (Eq.refl _) (by decide)))
        have fp37 : mo_f G H37 a0 19 = x7.toInt := mo_f_St hst37
        refine lv_iload_n hx hb gX12_takes0_2.2.2.2.2.2.2.1 rfl (lv_at hl 0 rfl) ?_
        exact th_iret hC hH hr hlocks narrow_b1 hB.2.1 ⟨_, rfl, by decide, by decide, hB.1, hB.2.2, hR, by first | (intro h9; exact absurd h9 (by decide)) | (intro _; omega), by first | (intro h9; exact absurd h9 (by decide)) | (intro _; omega), by omega, (hF0.symm.trans (hF.trans (by rw [tk_1])))⟩ gX12_takes0_2.2.2.2.2.2.2.2

set_option maxHeartbeats 4000000 in
set_option maxRecDepth 100000 in
theorem c_X12_must (l : Launch) (G : th_G) (Γ : th_Ga) (H0 : Heap) (hI : th_I G Γ H0) (hR : th_RC G Γ H0) (hU : dv_U Γ) (a0 : Nat) (h0 : Γ a0 = (46, 0)) (p1 : Int32) (f1 : 1 ≤ p1.toInt) (cv : Int → Int) (t : Int) (k1 : mo_rd G H0 a0 cv) (k2 : mo_f G H0 a0 19 = t ∧ 0 ≤ t ∧ t ≤ mo_f G H0 a0 18) : Met l yX12_must (.code yX12_must cX12_must 2 (none) :: th_tb) ({ frames := 2, cells := 0, slots := 0, locals := 42 } : Room) (th_P [.ref a0, .int p1] G H0) (th_Q (fun (v : Option Value) (H1 : Heap) => v = none ∧ th_I G Γ H1 ∧ th_F G Γ [(46, 19), (46, 21)] H0 H1 ∧ th_RC G Γ H1 ∧ (t ≤ mo_f G H1 a0 19 ∧ mo_f G H1 a0 19 ≤ mo_f G H0 a0 18) ∧ (mo_f G H1 a0 21 = -1 → mo_f G H0 a0 21 = -1 ∧ cv t = p1.toInt ∧ mo_f G H1 a0 19 = t + 1) ∧ (f_X12_must (dv G Γ H0) (a0 : Int) p1.toInt = (dv G Γ H1, 0))) G) 0 0 (fun q => G.1.2.2 ≤ q) := by
  refine th_met RX12 (by decide) rfl (Nat.le_of_ble_eq_true rfl) ?_
  intro p e s m below meth c hC hH hr hlocks hnm ls hl
  have hx := hC.1
  have hb := hC.2.1
  have hB : th_B G Γ Γ [(46, 19), (46, 21)] H0 H0 [] := ⟨hI, va_S.rf, th_F_rf⟩
  have hl : lv_has ls 2 [(0, .ref a0), (1, .int p1)] := hl
  have lp1 := ti_lo p1; have up1 := ti_hi p1
  obtain ⟨F, hF0⟩ : ∃ F, F = f_X12_must (dv G Γ H0) ((a0 : Int)) (p1.toInt) := ⟨_, rfl⟩
  have hF := hF0.trans (f_X12_must.eq_1 (dv G Γ H0) ((a0 : Int)) (p1.toInt))
  refine lv_aload_n hx hb gX12_must_0.1 rfl (lv_at hl 0 rfl) ?_
  refine lv_iload_n hx hb gX12_must_0.2.1 rfl (lv_at hl 1 rfl) ?_
  refine th_call (th_runV (As := [.int p1]) (rest := []) hC mf_X12_takes0 km_X12_199 im_X12_takes0 se_X12_takes0 (c_X12_takes0 l G Γ H0 hB.1 hR hU a0 h0 p1 (by omega) cv t k1 ⟨by omega, by omega, by omega⟩) rfl rfl ⟨Nat.le_of_ble_eq_true rfl, Nat.le_of_ble_eq_true rfl⟩ hB.1 h0 ro_46 rfl rfl hl.1 rfl (Nat.le_of_ble_eq_true rfl) gX12_must_0.2.2.1 ⟨Nat.le_refl _, Nat.le_refl _⟩) hB.2.1 (fun v2 H2 locs hp hz hS => ?_)
  obtain ⟨x1, rfl, lx1, ux1, hI1, hf, hR, z2_0, z2_1, z2_2, z2_3⟩ := hp
  have hB := th_B_c hB hI1 hS hf (by decide)
  have fv_H2_18 : mo_f G H2 a0 18 = mo_f G H0 a0 18 := mo_f_F hf h0 (by decide) (by decide)
  have fv_H2_21 : mo_f G H2 a0 21 = mo_f G H0 a0 21 := mo_f_F hf h0 (by decide) (by decide)
  have vv_H2_15 : mo_v G H2 a0 15 = mo_v G H0 a0 15 := mo_v_F (r := 55) hB.1 hf h0 rfl ro_55 (by decide) (by decide)
  have cr_H2 : mo_rd G H2 a0 cv := mo_rd_F hB.1 hB.2.2 h0 (by decide) k1
  replace hF := hF.trans (dv_bn2 (z2_3))
  refine W.eq (g2 := F0 m 5 ls [.int x1]) rfl ?_
  refine tr_if_ne (tgt := 12) hx hb gX12_must_0.2.2.2.1 (by decide) (Eq.refl _) (fun c5 => ?_) (fun c5 => ?_)
  · specialize z2_0 (by omega); clear z2_1
    replace hF := hF.trans (if_pos c5)
    exact th_vret hC hH hr hlocks hB.2.1 ⟨rfl, hB.1, hB.2.2, hR, ⟨by omega, by omega⟩, by intro h9; omega, (hF0.symm.trans hF)⟩ gX12_must_0.2.2.2.2.2.2
  · specialize z2_1 (by omega); clear z2_0
    replace hF := hF.trans (if_neg (not_not_intro c5))
    refine lv_aload_n hx hb gX12_must_0.2.2.2.2.1 rfl (lv_at hl 0 rfl) ?_
    refine th_call (th_runV (As := []) (rest := []) hC mf_X12_faults km_X12_202 im_X12_faults se_X12_faults (c_X12_faults l G Γ H2 hB.1 hR hU a0 h0) rfl rfl ⟨Nat.le_of_ble_eq_true rfl, Nat.le_of_ble_eq_true rfl⟩ hB.1 h0 ro_46 rfl rfl hl.1 rfl (Nat.le_of_ble_eq_true rfl) gX12_must_0.2.2.2.2.2.1 ⟨Nat.le_refl _, Nat.le_refl _⟩) hB.2.1 (fun v9 H9 locs hp hz hS => ?_)
    obtain ⟨rfl, hI1, hf, hR, z9_0, z9_1⟩ := hp
    have hB := th_B_c hB hI1 hS hf (by decide)
    have fv_H9_18 : mo_f G H9 a0 18 = mo_f G H2 a0 18 := mo_f_F hf h0 (by decide) (by decide)
    have fv_H9_19 : mo_f G H9 a0 19 = mo_f G H2 a0 19 := mo_f_F hf h0 (by decide) (by decide)
    have vv_H9_15 : mo_v G H9 a0 15 = mo_v G H2 a0 15 := mo_v_F (r := 55) hB.1 hf h0 rfl ro_55 (by decide) (by decide)
    have cr_H9 : mo_rd G H9 a0 cv := mo_rd_F hB.1 hB.2.2 h0 (by decide) k1
    replace hF := hF.trans (dv_bn2 (z9_1))
    refine W.eq (g2 := F0 m 12 ls []) rfl ?_
    exact th_vret hC hH hr hlocks hB.2.1 ⟨rfl, hB.1, hB.2.2, hR, ⟨by omega, by omega⟩, fun h9 => absurd h9 z9_0, (hF0.symm.trans hF)⟩ gX12_must_0.2.2.2.2.2.2

set_option maxHeartbeats 4000000 in
set_option maxRecDepth 100000 in
theorem c_X12_leaf (l : Launch) (G : th_G) (Γ : th_Ga) (H0 : Heap) (hI : th_I G Γ H0) (hR : th_RC G Γ H0) (hU : dv_U Γ) (a0 : Nat) (h0 : Γ a0 = (46, 0)) (cv : Int → Int) (t : Int) (k1 : mo_rd G H0 a0 cv) (k2 : mo_f G H0 a0 19 = t ∧ 0 ≤ t ∧ t ≤ mo_f G H0 a0 18) (k3 : mo_f G H0 a0 21 = -1 → cv t ≠ 0) : Met l yX12_leaf (.code yX12_leaf cX12_leaf 1 (none) :: th_tb) ({ frames := 2, cells := 0, slots := 0, locals := 40 } : Room) (th_P [.ref a0] G H0) (th_Q (fun (v : Option Value) (H1 : Heap) => v = none ∧ th_I G Γ H1 ∧ th_F G Γ [(46, 19), (46, 20), (46, 21)] H0 H1 ∧ th_RC G Γ H1 ∧ (t ≤ mo_f G H1 a0 19 ∧ mo_f G H1 a0 19 ≤ mo_f G H0 a0 18) ∧ (mo_f G H1 a0 21 = -1 → mo_f G H0 a0 21 = -1 ∧ mo_f G H1 a0 19 = t + 1) ∧ (f_X12_leaf (dv G Γ H0) (a0 : Int) = (dv G Γ H1, 0))) G) 0 0 (fun q => G.1.2.2 ≤ q) := by
  refine th_met RX12 (by decide) rfl (Nat.le_of_ble_eq_true rfl) ?_
  intro p e s m below meth c hC hH hr hlocks hnm ls hl
  have hx := hC.1
  have hb := hC.2.1
  have hB : th_B G Γ Γ [(46, 19), (46, 20), (46, 21)] H0 H0 [] := ⟨hI, va_S.rf, th_F_rf⟩
  have hl : lv_has ls 1 [(0, .ref a0)] := hl
  obtain ⟨F, hF0⟩ : ∃ F, F = f_X12_leaf (dv G Γ H0) ((a0 : Int)) := ⟨_, rfl⟩
  have hF := hF0.trans (f_X12_leaf.eq_1 (dv G Γ H0) ((a0 : Int)))
  refine lv_aload_n hx hb gX12_leaf_0.1 rfl (lv_at hl 0 rfl) ?_
  refine th_getI (j := 20) hC cf_X12 hB.1 h0 ro_46 rfl rfl kf_X12_205 gX12_leaf_0.2.1 (fun x1 mx1 lx1 ux1 => ?_)
  replace hF := hF.trans (dv_bn (dv_getI h0 ro_46 (j := 20) rfl mx1 (by decide)))
  refine lv_bipush (v := 50) hx hb gX12_leaf_0.2.2.1 (by decide) ?_
  refine tr_icmp_ne (tgt := 13) hx hb gX12_leaf_0.2.2.2.1 (by decide) (Eq.refl _) tk_50 (fun c6 => ?_) (fun c6 => ?_)
  · replace hF := hF.trans (if_pos c6)
    refine lv_aload_n hx hb gX12_leaf_0.2.2.2.2.2.2.1 rfl (lv_at hl 0 rfl) ?_
    refine lv_dup hx hb gX12_leaf_0.2.2.2.2.2.2.2 rfl ?_
    refine th_getK hC cf_X12 hB.1 h0 ro_46 rfl (j := 20) (by decide) mx1 kf_X12_205 gX12_leaf_1.1 ?_
    replace hF := hF.trans (dv_bn (dv_getI h0 ro_46 (j := 20) rfl mx1 (by decide)))
    refine lv_iconst (v := 1) hx hb gX12_leaf_1.2.1 (by decide) ?_
    refine lv_iadd hx hb gX12_leaf_1.2.2.1 ?_
    refine lv_topi (fun x2 ex2 => ?_)
    have lx2 := ti_lo x2; have ux2 := ti_hi x2
    replace hF := hF.trans (dv_bn (dv_add_e (Eq.refl _) tk_1 ex2))
    refine th_put hC cf_X12 hB h0 (Or.inl h0) ro_46 rfl (j := 20) rfl th_sIa (by decide) rfl rfl rfl kf_X12_205 gX12_leaf_1.2.2.2.1 (fun H20 locs hB hf hst20 => ?_)
    have hR := th_RC_F hB.1 hR hf (th_T_s h0 ro_46 hst20) (by decide)
    have fv_H20_18 : mo_f G H20 a0 18 = mo_f G H0 a0 18 := mo_f_F hf h0 (by decide) (by decide)
    have fv_H20_19 : mo_f G H20 a0 19 = mo_f G H0 a0 19 := mo_f_F hf h0 (by decide) (by decide)
    have fv_H20_21 : mo_f G H20 a0 21 = mo_f G H0 a0 21 := mo_f_F hf h0 (by decide) (by decide)
    have vv_H20_15 : mo_v G H20 a0 15 = mo_v G H0 a0 15 := mo_v_F (r := 55) hB.1 hf h0 rfl ro_55 (by decide) (by decide)
    have cr_H20 : mo_rd G H20 a0 cv := mo_rd_F hB.1 hB.2.2 h0 (by decide) k1
    replace hF := hF.trans (dv_bn (dv_putI hB.1 h0 ro_46 (j := 20) rfl (th_apart hC cf_X12) hst20 (Eq.refl _) (by decide)))
    refine lv_aload_n hx hb gX12_leaf_1.2.2.2.2.1 rfl (lv_at hl 0 rfl) ?_
    refine th_call (th_runV (As := []) (rest := []) hC mf_X12_fine km_X12_192 im_X12_fine se_X12_fine (c_X12_fine l G Γ H20 hB.1 hU a0 h0) rfl rfl ⟨Nat.le_of_ble_eq_true rfl, Nat.le_of_ble_eq_true rfl⟩ hB.1 h0 ro_46 rfl rfl hl.1 rfl (Nat.le_of_ble_eq_true rfl) gX12_leaf_1.2.2.2.2.2.1 ⟨Nat.le_refl _, Nat.le_refl _⟩) hB.2.1 (fun v24 H24 locs hp hz hS => ?_)
    obtain ⟨x3, rfl, lx3, ux3, q24_0, q24_1, q24_2, rfl⟩ := hp
    have hB := th_B_s hB hS
    replace hF := hF.trans (dv_bn2 (q24_2))
    refine W.eq (g2 := F0 m 27 ls [.int x3]) rfl ?_
    refine tr_if_eq (tgt := 40) hx hb gX12_leaf_1.2.2.2.2.2.2.1 (by decide) (Eq.refl _) (fun c27 => ?_) (fun c27 => ?_)
    · specialize q24_1 (by omega); clear q24_0
      replace hF := hF.trans (if_pos c27)
      exact th_vret hC hH hr hlocks hB.2.1 ⟨rfl, hB.1, hB.2.2, hR, ⟨by omega, by omega⟩, by intro h9; omega, (hF0.symm.trans hF)⟩ gX12_leaf_2.2.2.2.2.2
    · specialize q24_0 (by omega); clear q24_1
      replace hF := hF.trans (if_neg c27)
      refine lv_aload_n hx hb gX12_leaf_1.2.2.2.2.2.2.2 rfl (lv_at hl 0 rfl) ?_
      refine lv_dup hx hb gX12_leaf_2.1 rfl ?_
      refine th_getI (j := 19) hC cf_X12 hB.1 h0 ro_46 rfl rfl kf_X12_196 gX12_leaf_2.2.1 (fun x4 mx4 lx4 ux4 => ?_)
      replace hF := hF.trans (dv_bn (dv_getI h0 ro_46 (j := 19) rfl mx4 (by decide)))
      have fg5 : mo_f G H20 a0 19 = x4.toInt := mo_fat mx4
      have nz32 := mo_rd_nz k1 (show cv t ≠ 0 by omega)
      have t18 := mo_f_rg hI h0 (j := 18) rfl
      refine lv_iconst (v := 1) hx hb gX12_leaf_2.2.2.1 (by decide) ?_
      refine tr_iadd hx hb gX12_leaf_2.2.2.2.1 (Eq.refl _) tk_1 (by omega) (by omega) (fun x6 ex6 => ?_)
      replace hF := hF.trans (dv_bn (ex6.symm))
      refine th_put hC cf_X12 hB h0 (Or.inl h0) ro_46 rfl (j := 19) rfl (th_sI (by omega) (by omega)) (by decide) rfl rfl rfl kf_X12_196 gX12_leaf_2.2.2.2.2.1 (fun H37 locs hB hf hst37 => ?_)
      have hR := th_RC_F hB.1 hR hf (th_T_s h0 ro_46 hst37) (by decide)
      have fv_H37_18 : mo_f G H37 a0 18 = mo_f G H20 a0 18 := mo_f_F hf h0 (by decide) (by decide)
      have fv_H37_21 : mo_f G H37 a0 21 = mo_f G H20 a0 21 := mo_f_F hf h0 (by decide) (by decide)
      have vv_H37_15 : mo_v G H37 a0 15 = mo_v G H20 a0 15 := mo_v_F (r := 55) hB.1 hf h0 rfl ro_55 (by decide) (by decide)
      have cr_H37 : mo_rd G H37 a0 cv := mo_rd_F hB.1 hB.2.2 h0 (by decide) k1
      replace hF := hF.trans (dv_bn (dv_putI hB.1 h0 ro_46 (j := 19) rfl (th_apart hC cf_X12) hst37 (Eq.refl _) (by decide)))
      have fp37 : mo_f G H37 a0 19 = x6.toInt := mo_f_St hst37
      exact th_vret hC hH hr hlocks hB.2.1 ⟨rfl, hB.1, hB.2.2, hR, ⟨by omega, by omega⟩, by intro h9; omega, (hF0.symm.trans hF)⟩ gX12_leaf_2.2.2.2.2.2
  · replace hF := hF.trans (if_neg (not_not_intro c6))
    refine lv_aload_n hx hb gX12_leaf_0.2.2.2.2.1 rfl (lv_at hl 0 rfl) ?_
    refine th_call (th_runV (As := []) (rest := []) hC mf_X12_faults km_X12_202 im_X12_faults se_X12_faults (c_X12_faults l G Γ H0 hB.1 hR hU a0 h0) rfl rfl ⟨Nat.le_of_ble_eq_true rfl, Nat.le_of_ble_eq_true rfl⟩ hB.1 h0 ro_46 rfl rfl hl.1 rfl (Nat.le_of_ble_eq_true rfl) gX12_leaf_0.2.2.2.2.2.1 ⟨Nat.le_refl _, Nat.le_refl _⟩) hB.2.1 (fun v10 H10 locs hp hz hS => ?_)
    obtain ⟨rfl, hI1, hf, hR, z10_0, z10_1⟩ := hp
    have hB := th_B_c hB hI1 hS hf (by decide)
    have mm7 := (th_F_o hf h0 ro_46 (j := 20) (by decide) (by decide)).trans mx1
    have fv_H10_18 : mo_f G H10 a0 18 = mo_f G H0 a0 18 := mo_f_F hf h0 (by decide) (by decide)
    have fv_H10_19 : mo_f G H10 a0 19 = mo_f G H0 a0 19 := mo_f_F hf h0 (by decide) (by decide)
    have vv_H10_15 : mo_v G H10 a0 15 = mo_v G H0 a0 15 := mo_v_F (r := 55) hB.1 hf h0 rfl ro_55 (by decide) (by decide)
    have cr_H10 : mo_rd G H10 a0 cv := mo_rd_F hB.1 hB.2.2 h0 (by decide) k1
    replace hF := hF.trans (dv_bn2 (z10_1))
    refine W.eq (g2 := F0 m 13 ls []) rfl ?_
    refine lv_aload_n hx hb gX12_leaf_0.2.2.2.2.2.2.1 rfl (lv_at hl 0 rfl) ?_
    refine lv_dup hx hb gX12_leaf_0.2.2.2.2.2.2.2 rfl ?_
    refine th_getK hC cf_X12 hB.1 h0 ro_46 rfl (j := 20) (by decide) mm7 kf_X12_205 gX12_leaf_1.1 ?_
    replace hF := hF.trans (dv_bn (dv_getI h0 ro_46 (j := 20) rfl mm7 (by decide)))
    refine lv_iconst (v := 1) hx hb gX12_leaf_1.2.1 (by decide) ?_
    refine tr_iadd hx hb gX12_leaf_1.2.2.1 (Eq.refl _) tk_1 (by omega) (by omega) (fun x8 ex8 => ?_)
    replace hF := hF.trans (dv_bn (ex8.symm))
    refine th_put hC cf_X12 hB h0 (Or.inl h0) ro_46 rfl (j := 20) rfl th_sIa (by decide) rfl rfl rfl kf_X12_205 gX12_leaf_1.2.2.2.1 (fun H20 locs hB hf hst20 => ?_)
    have hR := th_RC_F hB.1 hR hf (th_T_s h0 ro_46 hst20) (by decide)
    have fv_H20_18 : mo_f G H20 a0 18 = mo_f G H10 a0 18 := mo_f_F hf h0 (by decide) (by decide)
    have fv_H20_19 : mo_f G H20 a0 19 = mo_f G H10 a0 19 := mo_f_F hf h0 (by decide) (by decide)
    have fv_H20_21 : mo_f G H20 a0 21 = mo_f G H10 a0 21 := mo_f_F hf h0 (by decide) (by decide)
    have vv_H20_15 : mo_v G H20 a0 15 = mo_v G H10 a0 15 := mo_v_F (r := 55) hB.1 hf h0 rfl ro_55 (by decide) (by decide)
    have cr_H20 : mo_rd G H20 a0 cv := mo_rd_F hB.1 hB.2.2 h0 (by decide) k1
    replace hF := hF.trans (dv_bn (dv_putI hB.1 h0 ro_46 (j := 20) rfl (th_apart hC cf_X12) hst20 (Eq.refl _) (by decide)))
    refine lv_aload_n hx hb gX12_leaf_1.2.2.2.2.1 rfl (lv_at hl 0 rfl) ?_
    refine th_call (th_runV (As := []) (rest := []) hC mf_X12_fine km_X12_192 im_X12_fine se_X12_fine (c_X12_fine l G Γ H20 hB.1 hU a0 h0) rfl rfl ⟨Nat.le_of_ble_eq_true rfl, Nat.le_of_ble_eq_true rfl⟩ hB.1 h0 ro_46 rfl rfl hl.1 rfl (Nat.le_of_ble_eq_true rfl) gX12_leaf_1.2.2.2.2.2.1 ⟨Nat.le_refl _, Nat.le_refl _⟩) hB.2.1 (fun v24 H24 locs hp hz hS => ?_)
    obtain ⟨x9, rfl, lx9, ux9, q24_0, q24_1, q24_2, rfl⟩ := hp
    have hB := th_B_s hB hS
    replace hF := hF.trans (dv_bn2 (q24_2))
    refine W.eq (g2 := F0 m 27 ls [.int x9]) rfl ?_
    refine tr_if_eq (tgt := 40) hx hb gX12_leaf_1.2.2.2.2.2.2.1 (by decide) (Eq.refl _) (fun c27 => ?_) (fun c27 => ?_)
    · specialize q24_1 (by omega); clear q24_0
      replace hF := hF.trans (if_pos c27)
      exact th_vret hC hH hr hlocks hB.2.1 ⟨rfl, hB.1, hB.2.2, hR, ⟨by omega, by omega⟩, by intro h9; omega, (hF0.symm.trans hF)⟩ gX12_leaf_2.2.2.2.2.2
    · specialize q24_0 (by omega); clear q24_1
      replace hF := hF.trans (if_neg c27)
      refine lv_aload_n hx hb gX12_leaf_1.2.2.2.2.2.2.2 rfl (lv_at hl 0 rfl) ?_
      refine lv_dup hx hb gX12_leaf_2.1 rfl ?_
      refine th_getI (j := 19) hC cf_X12 hB.1 h0 ro_46 rfl rfl kf_X12_196 gX12_leaf_2.2.1 (fun x10 mx10 lx10 ux10 => ?_)
      replace hF := hF.trans (dv_bn (dv_getI h0 ro_46 (j := 19) rfl mx10 (by decide)))
      have fg11 : mo_f G H20 a0 19 = x10.toInt := mo_fat mx10
      have nz32 := mo_rd_nz k1 (show cv t ≠ 0 by omega)
      have t18 := mo_f_rg hI h0 (j := 18) rfl
      refine lv_iconst (v := 1) hx hb gX12_leaf_2.2.2.1 (by decide) ?_
      refine tr_iadd hx hb gX12_leaf_2.2.2.2.1 (Eq.refl _) tk_1 (by omega) (by omega) (fun x12 ex12 => ?_)
      replace hF := hF.trans (dv_bn (ex12.symm))
      refine th_put hC cf_X12 hB h0 (Or.inl h0) ro_46 rfl (j := 19) rfl (th_sI (by omega) (by omega)) (by decide) rfl rfl rfl kf_X12_196 gX12_leaf_2.2.2.2.2.1 (fun H37 locs hB hf hst37 => ?_)
      have hR := th_RC_F hB.1 hR hf (th_T_s h0 ro_46 hst37) (by decide)
      have fv_H37_18 : mo_f G H37 a0 18 = mo_f G H20 a0 18 := mo_f_F hf h0 (by decide) (by decide)
      have fv_H37_21 : mo_f G H37 a0 21 = mo_f G H20 a0 21 := mo_f_F hf h0 (by decide) (by decide)
      have vv_H37_15 : mo_v G H37 a0 15 = mo_v G H20 a0 15 := mo_v_F (r := 55) hB.1 hf h0 rfl ro_55 (by decide) (by decide)
      have cr_H37 : mo_rd G H37 a0 cv := mo_rd_F hB.1 hB.2.2 h0 (by decide) k1
      replace hF := hF.trans (dv_bn (dv_putI hB.1 h0 ro_46 (j := 19) rfl (th_apart hC cf_X12) hst37 (Eq.refl _) (by decide)))
      have fp37 : mo_f G H37 a0 19 = x12.toInt := mo_f_St hst37
      exact th_vret hC hH hr hlocks hB.2.1 ⟨rfl, hB.1, hB.2.2, hR, ⟨by omega, by omega⟩, by intro h9; omega, (hF0.symm.trans hF)⟩ gX12_leaf_2.2.2.2.2.2

set_option maxHeartbeats 4000000 in
set_option maxRecDepth 100000 in
theorem c_X12_mustNumber (l : Launch) (G : th_G) (Γ : th_Ga) (H0 : Heap) (hI : th_I G Γ H0) (hR : th_RC G Γ H0) (hU : dv_U Γ) (a0 : Nat) (h0 : Γ a0 = (46, 0)) (p1 : Int32) (p2 : Int32) (cv : Int → Int) (t : Int) (k1 : mo_rd G H0 a0 cv) (k2 : mo_f G H0 a0 19 = t ∧ 0 ≤ t ∧ t ≤ mo_f G H0 a0 18) : Met l yX12_mustNumber (.code yX12_mustNumber cX12_mustNumber 3 (none) :: th_tb) ({ frames := 2, cells := 0, slots := 0, locals := 40 } : Room) (th_P [.ref a0, .int p1, .int p2] G H0) (th_Q (fun (v : Option Value) (H1 : Heap) => v = none ∧ th_I G Γ H1 ∧ th_F G Γ [(46, 19), (46, 21)] H0 H1 ∧ th_RC G Γ H1 ∧ (t ≤ mo_f G H1 a0 19 ∧ mo_f G H1 a0 19 ≤ mo_f G H0 a0 18) ∧ (mo_f G H1 a0 21 = -1 → mo_f G H0 a0 21 = -1 ∧ cv t = 50 ∧ mo_f G H1 a0 19 = t + 1) ∧ (f_X12_mustNumber (dv G Γ H0) (a0 : Int) p1.toInt p2.toInt = (dv G Γ H1, 0))) G) 0 0 (fun q => G.1.2.2 ≤ q) := by
  refine th_met RX12 (by decide) rfl (Nat.le_of_ble_eq_true rfl) ?_
  intro p e s m below meth c hC hH hr hlocks hnm ls hl
  have hx := hC.1
  have hb := hC.2.1
  have hB : th_B G Γ Γ [(46, 19), (46, 21)] H0 H0 [] := ⟨hI, va_S.rf, th_F_rf⟩
  have hl : lv_has ls 3 [(0, .ref a0), (1, .int p1), (2, .int p2)] := hl
  have lp1 := ti_lo p1; have up1 := ti_hi p1
  have lp2 := ti_lo p2; have up2 := ti_hi p2
  obtain ⟨F, hF0⟩ : ∃ F, F = f_X12_mustNumber (dv G Γ H0) ((a0 : Int)) (p1.toInt) (p2.toInt) := ⟨_, rfl⟩
  have hF := hF0.trans (f_X12_mustNumber.eq_1 (dv G Γ H0) ((a0 : Int)) (p1.toInt) (p2.toInt))
  refine lv_aload_n hx hb gX12_mustNumber_0.1 rfl (lv_at hl 0 rfl) ?_
  refine th_call (th_runV (As := []) (rest := []) hC mf_X12_fine km_X12_192 im_X12_fine se_X12_fine (c_X12_fine l G Γ H0 hB.1 hU a0 h0) rfl rfl ⟨Nat.le_of_ble_eq_true rfl, Nat.le_of_ble_eq_true rfl⟩ hB.1 h0 ro_46 rfl rfl hl.1 rfl (Nat.le_of_ble_eq_true rfl) gX12_mustNumber_0.2.1 ⟨Nat.le_refl _, Nat.le_refl _⟩) hB.2.1 (fun v1 H1 locs hp hz hS => ?_)
  obtain ⟨x1, rfl, lx1, ux1, q1_0, q1_1, q1_2, rfl⟩ := hp
  have hB := th_B_s hB hS
  replace hF := hF.trans (dv_bn2 (q1_2))
  refine W.eq (g2 := F0 m 4 ls [.int x1]) rfl ?_
  refine tr_if_eq (tgt := 42) hx hb gX12_mustNumber_0.2.2.1 (by decide) (Eq.refl _) (fun c4 => ?_) (fun c4 => ?_)
  · specialize q1_1 (by omega); clear q1_0
    replace hF := hF.trans (if_pos c4)
    refine lv_aload_n hx hb gX12_mustNumber_2.2.2.2.2.2.1 rfl (lv_at hl 0 rfl) ?_
    refine th_call (th_runV (As := []) (rest := []) hC mf_X12_fine km_X12_192 im_X12_fine se_X12_fine (c_X12_fine l G Γ H0 hB.1 hU a0 h0) rfl rfl ⟨Nat.le_of_ble_eq_true rfl, Nat.le_of_ble_eq_true rfl⟩ hB.1 h0 ro_46 rfl rfl hl.1 rfl (Nat.le_of_ble_eq_true rfl) gX12_mustNumber_2.2.2.2.2.2.2.1 ⟨Nat.le_refl _, Nat.le_refl _⟩) hB.2.1 (fun v43 H43 locs hp hz hS => ?_)
    obtain ⟨x2, rfl, lx2, ux2, q43_0, q43_1, q43_2, rfl⟩ := hp
    have hB := th_B_s hB hS
    replace hF := hF.trans (dv_bn2 (q43_2))
    refine W.eq (g2 := F0 m 46 ls [.int x2]) rfl ?_
    refine tr_if_eq (tgt := 59) hx hb gX12_mustNumber_2.2.2.2.2.2.2.2 (by decide) (Eq.refl _) (fun c46 => ?_) (fun c46 => ?_)
    · specialize q43_1 (by omega); clear q43_0
      replace hF := hF.trans (if_pos c46)
      exact th_vret hC hH hr hlocks hB.2.1 ⟨rfl, hB.1, hB.2.2, hR, ⟨by omega, by omega⟩, by intro h9; omega, (hF0.symm.trans hF)⟩ gX12_mustNumber_3.2.2.2.2.2.2
    · specialize q43_0 (by omega); clear q43_1
      replace hF := hF.trans (if_neg c46)
      refine lv_aload_n hx hb gX12_mustNumber_3.1 rfl (lv_at hl 0 rfl) ?_
      refine lv_dup hx hb gX12_mustNumber_3.2.1 rfl ?_
      refine th_getI (j := 19) hC cf_X12 hB.1 h0 ro_46 rfl rfl kf_X12_196 gX12_mustNumber_3.2.2.1 (fun x3 mx3 lx3 ux3 => ?_)
      replace hF := hF.trans (dv_bn (dv_getI h0 ro_46 (j := 19) rfl mx3 (by decide)))
      have fg4 : mo_f G H0 a0 19 = x3.toInt := mo_fat mx3
      have nz51 := mo_rd_nz k1 (show cv t ≠ 0 by omega)
      have t18 := mo_f_rg hI h0 (j := 18) rfl
      refine lv_iconst (v := 1) hx hb gX12_mustNumber_3.2.2.2.1 (by decide) ?_
      refine tr_iadd hx hb gX12_mustNumber_3.2.2.2.2.1 (Eq.refl _) tk_1 (by omega) (by omega) (fun x5 ex5 => ?_)
      replace hF := hF.trans (dv_bn (ex5.symm))
      refine th_put hC cf_X12 hB h0 (Or.inl h0) ro_46 rfl (j := 19) rfl (th_sI (by omega) (by omega)) (by decide) rfl rfl rfl kf_X12_196 gX12_mustNumber_3.2.2.2.2.2.1 (fun H56 locs hB hf hst56 => ?_)
      have hR := th_RC_F hB.1 hR hf (th_T_s h0 ro_46 hst56) (by decide)
      have fv_H56_18 : mo_f G H56 a0 18 = mo_f G H0 a0 18 := mo_f_F hf h0 (by decide) (by decide)
      have fv_H56_21 : mo_f G H56 a0 21 = mo_f G H0 a0 21 := mo_f_F hf h0 (by decide) (by decide)
      have vv_H56_15 : mo_v G H56 a0 15 = mo_v G H0 a0 15 := mo_v_F (r := 55) hB.1 hf h0 rfl ro_55 (by decide) (by decide)
      have cr_H56 : mo_rd G H56 a0 cv := mo_rd_F hB.1 hB.2.2 h0 (by decide) k1
      replace hF := hF.trans (dv_bn (dv_putI hB.1 h0 ro_46 (j := 19) rfl (th_apart hC cf_X12) hst56 (Eq.refl _) (by decide)))
      have fp56 : mo_f G H56 a0 19 = x5.toInt := mo_f_St hst56
      exact th_vret hC hH hr hlocks hB.2.1 ⟨rfl, hB.1, hB.2.2, hR, ⟨by omega, by omega⟩, by intro h9; omega, (hF0.symm.trans hF)⟩ gX12_mustNumber_3.2.2.2.2.2.2
  · specialize q1_0 (by omega); clear q1_1
    replace hF := hF.trans (if_neg c4)
    refine lv_aload_n hx hb gX12_mustNumber_0.2.2.2.1 rfl (lv_at hl 0 rfl) ?_
    refine th_getO (j := 15) (r2 := 55) hC cf_X12 hB.1 h0 ro_46 rfl rfl kf_X12_54 gX12_mustNumber_0.2.2.2.2.1 (fun b6 mb6 hb6 => ?_)
    refine lv_aload_n hx hb gX12_mustNumber_0.2.2.2.2.2.1 rfl (lv_at hl 0 rfl) ?_
    refine th_getI (j := 19) hC cf_X12 hB.1 h0 ro_46 rfl rfl kf_X12_196 gX12_mustNumber_0.2.2.2.2.2.2.1 (fun x7 mx7 lx7 ux7 => ?_)
    replace hF := hF.trans (dv_bn (dv_getI h0 ro_46 (j := 19) rfl mx7 (by decide)))
    have fg8 : mo_f G H0 a0 19 = x7.toInt := mo_fat mx7
    refine th_ialdF hC hB.1 hb6 ro_55 rfl (Eq.refl _) (by omega) (by omega) rfl gX12_mustNumber_0.2.2.2.2.2.2.2 (fun x9 mx9 lx9 ux9 => ?_)
    replace hF := hF.trans (dv_bn (dv_aldI hB.1 hU hb6 ow_55 (z := x7.toInt) mx9 (by omega)))
    have vgx9 : mo_v G H0 a0 15 x7.toInt = x9.toInt := by rw [show (x7.toInt : Int) = x7.toInt by omega]; exact mo_vat mb6 mx9 (by omega)
    have rc15 : cv t = x9.toInt := by have q9 := mo_rd_at k1 vgx9 (by omega) (by omega); rw [← q9]; congr 1; omega
    refine lv_bipush (v := 50) hx hb gX12_mustNumber_1.1 (by decide) ?_
    refine tr_icmp_ne (tgt := 38) hx hb gX12_mustNumber_1.2.1 (by decide) (Eq.refl _) tk_50 (fun c18 => ?_) (fun c18 => ?_)
    · replace hF := hF.trans (if_pos c18)
      refine lv_aload_n hx hb gX12_mustNumber_2.2.2.2.1 rfl (lv_at hl 0 rfl) ?_
      refine th_call (th_runV (As := []) (rest := []) hC mf_X12_faults km_X12_202 im_X12_faults se_X12_faults (c_X12_faults l G Γ H0 hB.1 hR hU a0 h0) rfl rfl ⟨Nat.le_of_ble_eq_true rfl, Nat.le_of_ble_eq_true rfl⟩ hB.1 h0 ro_46 rfl rfl hl.1 rfl (Nat.le_of_ble_eq_true rfl) gX12_mustNumber_2.2.2.2.2.1 ⟨Nat.le_refl _, Nat.le_refl _⟩) hB.2.1 (fun v39 H39 locs hp hz hS => ?_)
      obtain ⟨rfl, hI1, hf, hR, z39_0, z39_1⟩ := hp
      have hB := th_B_c hB hI1 hS hf (by decide)
      have mm10 := (th_F_o hf h0 ro_46 (j := 19) (by decide) (by decide)).trans mx7
      have fv_H39_18 : mo_f G H39 a0 18 = mo_f G H0 a0 18 := mo_f_F hf h0 (by decide) (by decide)
      have fv_H39_19 : mo_f G H39 a0 19 = mo_f G H0 a0 19 := mo_f_F hf h0 (by decide) (by decide)
      have vv_H39_15 : mo_v G H39 a0 15 = mo_v G H0 a0 15 := mo_v_F (r := 55) hB.1 hf h0 rfl ro_55 (by decide) (by decide)
      have cr_H39 : mo_rd G H39 a0 cv := mo_rd_F hB.1 hB.2.2 h0 (by decide) k1
      replace hF := hF.trans (dv_bn2 (z39_1))
      refine W.eq (g2 := F0 m 42 ls []) rfl ?_
      refine lv_aload_n hx hb gX12_mustNumber_2.2.2.2.2.2.1 rfl (lv_at hl 0 rfl) ?_
      refine th_call (th_runV (As := []) (rest := []) hC mf_X12_fine km_X12_192 im_X12_fine se_X12_fine (c_X12_fine l G Γ H39 hB.1 hU a0 h0) rfl rfl ⟨Nat.le_of_ble_eq_true rfl, Nat.le_of_ble_eq_true rfl⟩ hB.1 h0 ro_46 rfl rfl hl.1 rfl (Nat.le_of_ble_eq_true rfl) gX12_mustNumber_2.2.2.2.2.2.2.1 ⟨Nat.le_refl _, Nat.le_refl _⟩) hB.2.1 (fun v43 H43 locs hp hz hS => ?_)
      obtain ⟨x11, rfl, lx11, ux11, q43_0, q43_1, q43_2, rfl⟩ := hp
      have hB := th_B_s hB hS
      replace hF := hF.trans (dv_bn2 (q43_2))
      refine W.eq (g2 := F0 m 46 ls [.int x11]) rfl ?_
      refine tr_if_eq (tgt := 59) hx hb gX12_mustNumber_2.2.2.2.2.2.2.2 (by decide) (Eq.refl _) (fun c46 => ?_) (fun c46 => ?_)
      · specialize q43_1 (by omega); clear q43_0
        replace hF := hF.trans (if_pos c46)
        exact th_vret hC hH hr hlocks hB.2.1 ⟨rfl, hB.1, hB.2.2, hR, ⟨by omega, by omega⟩, by intro h9; omega, (hF0.symm.trans hF)⟩ gX12_mustNumber_3.2.2.2.2.2.2
      · specialize q43_0 (by omega); clear q43_1
        replace hF := hF.trans (if_neg c46)
        refine lv_aload_n hx hb gX12_mustNumber_3.1 rfl (lv_at hl 0 rfl) ?_
        refine lv_dup hx hb gX12_mustNumber_3.2.1 rfl ?_
        refine th_getK hC cf_X12 hB.1 h0 ro_46 rfl (j := 19) (by decide) mm10 kf_X12_196 gX12_mustNumber_3.2.2.1 ?_
        replace hF := hF.trans (dv_bn (dv_getI h0 ro_46 (j := 19) rfl mm10 (by decide)))
        have fg12 : mo_f G H39 a0 19 = x7.toInt := mo_fat mm10
        have nz51 := mo_rd_nz k1 (show cv t ≠ 0 by omega)
        have t18 := mo_f_rg hI h0 (j := 18) rfl
        refine lv_iconst (v := 1) hx hb gX12_mustNumber_3.2.2.2.1 (by decide) ?_
        refine tr_iadd hx hb gX12_mustNumber_3.2.2.2.2.1 (Eq.refl _) tk_1 (by omega) (by omega) (fun x13 ex13 => ?_)
        replace hF := hF.trans (dv_bn (ex13.symm))
        refine th_put hC cf_X12 hB h0 (Or.inl h0) ro_46 rfl (j := 19) rfl (th_sI (by omega) (by omega)) (by decide) rfl rfl rfl kf_X12_196 gX12_mustNumber_3.2.2.2.2.2.1 (fun H56 locs hB hf hst56 => ?_)
        have hR := th_RC_F hB.1 hR hf (th_T_s h0 ro_46 hst56) (by decide)
        have fv_H56_18 : mo_f G H56 a0 18 = mo_f G H39 a0 18 := mo_f_F hf h0 (by decide) (by decide)
        have fv_H56_21 : mo_f G H56 a0 21 = mo_f G H39 a0 21 := mo_f_F hf h0 (by decide) (by decide)
        have vv_H56_15 : mo_v G H56 a0 15 = mo_v G H39 a0 15 := mo_v_F (r := 55) hB.1 hf h0 rfl ro_55 (by decide) (by decide)
        have cr_H56 : mo_rd G H56 a0 cv := mo_rd_F hB.1 hB.2.2 h0 (by decide) k1
        replace hF := hF.trans (dv_bn (dv_putI hB.1 h0 ro_46 (j := 19) rfl (th_apart hC cf_X12) hst56 (Eq.refl _) (by decide)))
        have fp56 : mo_f G H56 a0 19 = x13.toInt := mo_f_St hst56
        exact th_vret hC hH hr hlocks hB.2.1 ⟨rfl, hB.1, hB.2.2, hR, ⟨by omega, by omega⟩, by intro h9; omega, (hF0.symm.trans hF)⟩ gX12_mustNumber_3.2.2.2.2.2.2
    · replace hF := hF.trans (if_neg (not_not_intro c18))
      refine lv_aload_n hx hb gX12_mustNumber_1.2.2.1 rfl (lv_at hl 0 rfl) ?_
      refine th_getO (j := 16) (r2 := 56) hC cf_X12 hB.1 h0 ro_46 rfl rfl kf_X12_57 gX12_mustNumber_1.2.2.2.1 (fun b14 mb14 hb14 => ?_)
      refine lv_aload_n hx hb gX12_mustNumber_1.2.2.2.2.1 rfl (lv_at hl 0 rfl) ?_
      refine th_getK hC cf_X12 hB.1 h0 ro_46 rfl (j := 19) (by decide) mx7 kf_X12_196 gX12_mustNumber_1.2.2.2.2.2.1 ?_
      replace hF := hF.trans (dv_bn (dv_getI h0 ro_46 (j := 19) rfl mx7 (by decide)))
      have fg15 : mo_f G H0 a0 19 = x7.toInt := mo_fat mx7
      refine th_ialdF hC hB.1 hb14 ro_56 rfl (Eq.refl _) (by omega) (by omega) rfl gX12_mustNumber_1.2.2.2.2.2.2.1 (fun x16 mx16 lx16 ux16 => ?_)
      replace hF := hF.trans (dv_bn (dv_aldI hB.1 hU hb14 ow_56 (z := x7.toInt) mx16 (by omega)))
      refine lv_iload_n hx hb gX12_mustNumber_1.2.2.2.2.2.2.2 rfl (lv_at hl 1 rfl) ?_
      refine lv_iload_n hx hb gX12_mustNumber_2.1 rfl (lv_at hl 2 rfl) ?_
      refine th_call (th_runS (As := [.int x16, .int p1, .int p2]) (rest := []) hC mf_X12_lies km_X12_18 st_X12_lies (c_X12_lies l G Γ H0 hB.1 hU x16 p1 p2) rfl rfl ⟨Nat.le_of_ble_eq_true rfl, Nat.le_of_ble_eq_true rfl⟩ rfl hl.1 rfl (Nat.le_of_ble_eq_true rfl) gX12_mustNumber_2.2.1 ⟨Nat.le_refl _, Nat.le_refl _⟩) hB.2.1 (fun v32 H32 locs hp hz hS => ?_)
      obtain ⟨x17, rfl, lx17, ux17, q32_0, q32_1, q32_2, rfl⟩ := hp
      have hB := th_B_s hB hS
      replace hF := hF.trans (dv_bn2 (q32_2))
      refine W.eq (g2 := F0 m 35 ls [.int x17]) rfl ?_
      refine tr_if_ne (tgt := 42) hx hb gX12_mustNumber_2.2.2.1 (by decide) (Eq.refl _) (fun c35 => ?_) (fun c35 => ?_)
      · replace hF := hF.trans (if_pos c35)
        refine lv_aload_n hx hb gX12_mustNumber_2.2.2.2.2.2.1 rfl (lv_at hl 0 rfl) ?_
        refine th_call (th_runV (As := []) (rest := []) hC mf_X12_fine km_X12_192 im_X12_fine se_X12_fine (c_X12_fine l G Γ H0 hB.1 hU a0 h0) rfl rfl ⟨Nat.le_of_ble_eq_true rfl, Nat.le_of_ble_eq_true rfl⟩ hB.1 h0 ro_46 rfl rfl hl.1 rfl (Nat.le_of_ble_eq_true rfl) gX12_mustNumber_2.2.2.2.2.2.2.1 ⟨Nat.le_refl _, Nat.le_refl _⟩) hB.2.1 (fun v43 H43 locs hp hz hS => ?_)
        obtain ⟨x18, rfl, lx18, ux18, q43_0, q43_1, q43_2, rfl⟩ := hp
        have hB := th_B_s hB hS
        replace hF := hF.trans (dv_bn2 (q43_2))
        refine W.eq (g2 := F0 m 46 ls [.int x18]) rfl ?_
        refine tr_if_eq (tgt := 59) hx hb gX12_mustNumber_2.2.2.2.2.2.2.2 (by decide) (Eq.refl _) (fun c46 => ?_) (fun c46 => ?_)
        · specialize q43_1 (by omega); clear q43_0
          replace hF := hF.trans (if_pos c46)
          exact th_vret hC hH hr hlocks hB.2.1 ⟨rfl, hB.1, hB.2.2, hR, ⟨by omega, by omega⟩, by intro h9; omega, (hF0.symm.trans hF)⟩ gX12_mustNumber_3.2.2.2.2.2.2
        · specialize q43_0 (by omega); clear q43_1
          replace hF := hF.trans (if_neg c46)
          refine lv_aload_n hx hb gX12_mustNumber_3.1 rfl (lv_at hl 0 rfl) ?_
          refine lv_dup hx hb gX12_mustNumber_3.2.1 rfl ?_
          refine th_getK hC cf_X12 hB.1 h0 ro_46 rfl (j := 19) (by decide) mx7 kf_X12_196 gX12_mustNumber_3.2.2.1 ?_
          replace hF := hF.trans (dv_bn (dv_getI h0 ro_46 (j := 19) rfl mx7 (by decide)))
          have fg19 : mo_f G H0 a0 19 = x7.toInt := mo_fat mx7
          have nz51 := mo_rd_nz k1 (show cv t ≠ 0 by omega)
          have t18 := mo_f_rg hI h0 (j := 18) rfl
          refine lv_iconst (v := 1) hx hb gX12_mustNumber_3.2.2.2.1 (by decide) ?_
          refine tr_iadd hx hb gX12_mustNumber_3.2.2.2.2.1 (Eq.refl _) tk_1 (by omega) (by omega) (fun x20 ex20 => ?_)
          replace hF := hF.trans (dv_bn (ex20.symm))
          refine th_put hC cf_X12 hB h0 (Or.inl h0) ro_46 rfl (j := 19) rfl (th_sI (by omega) (by omega)) (by decide) rfl rfl rfl kf_X12_196 gX12_mustNumber_3.2.2.2.2.2.1 (fun H56 locs hB hf hst56 => ?_)
          have hR := th_RC_F hB.1 hR hf (th_T_s h0 ro_46 hst56) (by decide)
          have fv_H56_18 : mo_f G H56 a0 18 = mo_f G H0 a0 18 := mo_f_F hf h0 (by decide) (by decide)
          have fv_H56_21 : mo_f G H56 a0 21 = mo_f G H0 a0 21 := mo_f_F hf h0 (by decide) (by decide)
          have vv_H56_15 : mo_v G H56 a0 15 = mo_v G H0 a0 15 := mo_v_F (r := 55) hB.1 hf h0 rfl ro_55 (by decide) (by decide)
          have cr_H56 : mo_rd G H56 a0 cv := mo_rd_F hB.1 hB.2.2 h0 (by decide) k1
          replace hF := hF.trans (dv_bn (dv_putI hB.1 h0 ro_46 (j := 19) rfl (th_apart hC cf_X12) hst56 (Eq.refl _) (by decide)))
          have fp56 : mo_f G H56 a0 19 = x20.toInt := mo_f_St hst56
          exact th_vret hC hH hr hlocks hB.2.1 ⟨rfl, hB.1, hB.2.2, hR, ⟨by omega, by omega⟩, by intro h9; omega, (hF0.symm.trans hF)⟩ gX12_mustNumber_3.2.2.2.2.2.2
      · replace hF := hF.trans (if_neg (not_not_intro c35))
        refine lv_aload_n hx hb gX12_mustNumber_2.2.2.2.1 rfl (lv_at hl 0 rfl) ?_
        refine th_call (th_runV (As := []) (rest := []) hC mf_X12_faults km_X12_202 im_X12_faults se_X12_faults (c_X12_faults l G Γ H0 hB.1 hR hU a0 h0) rfl rfl ⟨Nat.le_of_ble_eq_true rfl, Nat.le_of_ble_eq_true rfl⟩ hB.1 h0 ro_46 rfl rfl hl.1 rfl (Nat.le_of_ble_eq_true rfl) gX12_mustNumber_2.2.2.2.2.1 ⟨Nat.le_refl _, Nat.le_refl _⟩) hB.2.1 (fun v39 H39 locs hp hz hS => ?_)
        obtain ⟨rfl, hI1, hf, hR, z39_0, z39_1⟩ := hp
        have hB := th_B_c hB hI1 hS hf (by decide)
        have mm21 := (th_F_o hf h0 ro_46 (j := 19) (by decide) (by decide)).trans mx7
        have fv_H39_18 : mo_f G H39 a0 18 = mo_f G H0 a0 18 := mo_f_F hf h0 (by decide) (by decide)
        have fv_H39_19 : mo_f G H39 a0 19 = mo_f G H0 a0 19 := mo_f_F hf h0 (by decide) (by decide)
        have vv_H39_15 : mo_v G H39 a0 15 = mo_v G H0 a0 15 := mo_v_F (r := 55) hB.1 hf h0 rfl ro_55 (by decide) (by decide)
        have cr_H39 : mo_rd G H39 a0 cv := mo_rd_F hB.1 hB.2.2 h0 (by decide) k1
        replace hF := hF.trans (dv_bn2 (z39_1))
        refine W.eq (g2 := F0 m 42 ls []) rfl ?_
        refine lv_aload_n hx hb gX12_mustNumber_2.2.2.2.2.2.1 rfl (lv_at hl 0 rfl) ?_
        refine th_call (th_runV (As := []) (rest := []) hC mf_X12_fine km_X12_192 im_X12_fine se_X12_fine (c_X12_fine l G Γ H39 hB.1 hU a0 h0) rfl rfl ⟨Nat.le_of_ble_eq_true rfl, Nat.le_of_ble_eq_true rfl⟩ hB.1 h0 ro_46 rfl rfl hl.1 rfl (Nat.le_of_ble_eq_true rfl) gX12_mustNumber_2.2.2.2.2.2.2.1 ⟨Nat.le_refl _, Nat.le_refl _⟩) hB.2.1 (fun v43 H43 locs hp hz hS => ?_)
        obtain ⟨x22, rfl, lx22, ux22, q43_0, q43_1, q43_2, rfl⟩ := hp
        have hB := th_B_s hB hS
        replace hF := hF.trans (dv_bn2 (q43_2))
        refine W.eq (g2 := F0 m 46 ls [.int x22]) rfl ?_
        refine tr_if_eq (tgt := 59) hx hb gX12_mustNumber_2.2.2.2.2.2.2.2 (by decide) (Eq.refl _) (fun c46 => ?_) (fun c46 => ?_)
        · specialize q43_1 (by omega); clear q43_0
          replace hF := hF.trans (if_pos c46)
          exact th_vret hC hH hr hlocks hB.2.1 ⟨rfl, hB.1, hB.2.2, hR, ⟨by omega, by omega⟩, by intro h9; omega, (hF0.symm.trans hF)⟩ gX12_mustNumber_3.2.2.2.2.2.2
        · specialize q43_0 (by omega); clear q43_1
          replace hF := hF.trans (if_neg c46)
          refine lv_aload_n hx hb gX12_mustNumber_3.1 rfl (lv_at hl 0 rfl) ?_
          refine lv_dup hx hb gX12_mustNumber_3.2.1 rfl ?_
          refine th_getK hC cf_X12 hB.1 h0 ro_46 rfl (j := 19) (by decide) mm21 kf_X12_196 gX12_mustNumber_3.2.2.1 ?_
          replace hF := hF.trans (dv_bn (dv_getI h0 ro_46 (j := 19) rfl mm21 (by decide)))
          have fg23 : mo_f G H39 a0 19 = x7.toInt := mo_fat mm21
          have nz51 := mo_rd_nz k1 (show cv t ≠ 0 by omega)
          have t18 := mo_f_rg hI h0 (j := 18) rfl
          refine lv_iconst (v := 1) hx hb gX12_mustNumber_3.2.2.2.1 (by decide) ?_
          refine tr_iadd hx hb gX12_mustNumber_3.2.2.2.2.1 (Eq.refl _) tk_1 (by omega) (by omega) (fun x24 ex24 => ?_)
          replace hF := hF.trans (dv_bn (ex24.symm))
          refine th_put hC cf_X12 hB h0 (Or.inl h0) ro_46 rfl (j := 19) rfl (th_sI (by omega) (by omega)) (by decide) rfl rfl rfl kf_X12_196 gX12_mustNumber_3.2.2.2.2.2.1 (fun H56 locs hB hf hst56 => ?_)
          have hR := th_RC_F hB.1 hR hf (th_T_s h0 ro_46 hst56) (by decide)
          have fv_H56_18 : mo_f G H56 a0 18 = mo_f G H39 a0 18 := mo_f_F hf h0 (by decide) (by decide)
          have fv_H56_21 : mo_f G H56 a0 21 = mo_f G H39 a0 21 := mo_f_F hf h0 (by decide) (by decide)
          have vv_H56_15 : mo_v G H56 a0 15 = mo_v G H39 a0 15 := mo_v_F (r := 55) hB.1 hf h0 rfl ro_55 (by decide) (by decide)
          have cr_H56 : mo_rd G H56 a0 cv := mo_rd_F hB.1 hB.2.2 h0 (by decide) k1
          replace hF := hF.trans (dv_bn (dv_putI hB.1 h0 ro_46 (j := 19) rfl (th_apart hC cf_X12) hst56 (Eq.refl _) (by decide)))
          have fp56 : mo_f G H56 a0 19 = x24.toInt := mo_f_St hst56
          exact th_vret hC hH hr hlocks hB.2.1 ⟨rfl, hB.1, hB.2.2, hR, ⟨by omega, by omega⟩, by intro h9; omega, (hF0.symm.trans hF)⟩ gX12_mustNumber_3.2.2.2.2.2.2
end
section
def s_X12_readPart (d : Nat) : Prop := ∀ (l : Launch) (G : th_G) (Γ : th_Ga) (H0 : Heap) (hI : th_I G Γ H0) (hR : th_RC G Γ H0) (hU : dv_U Γ) (a0 : Nat) (h0 : Γ a0 = (46, 0)) (p1 : Int32) (f1 : 0 ≤ p1.toInt) (g1 : p1.toInt ≤ 8) (o : Int) (cv : Int → Int) (t : Int) (k1 : mo_rd G H0 a0 cv) (k2 : mo_f G H0 a0 19 = t ∧ 0 ≤ t ∧ t ≤ mo_f G H0 a0 18) (k3 : mo_wd G H0 a0 o) (k4 : p1.toInt + (d : Int) = 8), Met l yX12_readPart (.code yX12_readPart cX12_readPart 3 (none) :: th_tb) ({ frames := 12 + 3 * d, cells := 0, slots := 0, locals := 400 + d * 80 } : Room) (th_P [.ref a0, .int p1] G H0) (th_Q (fun (v : Option Value) (H1 : Heap) => v = none ∧ th_I G Γ H1 ∧ th_F G Γ [(46, 19), (46, 20), (46, 21)] H0 H1 ∧ th_RC G Γ H1 ∧ (t ≤ mo_f G H1 a0 19 ∧ mo_f G H1 a0 19 ≤ mo_f G H0 a0 18) ∧ (mo_f G H1 a0 21 = -1 → mo_f G H0 a0 21 = -1 ∧ mo_part o cv d t (mo_f G H1 a0 19)) ∧ (f_X12_readPart d (dv G Γ H0) (a0 : Int) p1.toInt = (dv G Γ H1, 0))) G) 0 0 (fun q => G.1.2.2 ≤ q)

def s_X12_readTerm (d : Nat) : Prop := ∀ (l : Launch) (G : th_G) (Γ : th_Ga) (H0 : Heap) (hI : th_I G Γ H0) (hR : th_RC G Γ H0) (hU : dv_U Γ) (a0 : Nat) (h0 : Γ a0 = (46, 0)) (p1 : Int32) (f1 : 0 ≤ p1.toInt) (g1 : p1.toInt ≤ 8) (o : Int) (cv : Int → Int) (t : Int) (k1 : mo_rd G H0 a0 cv) (k2 : mo_f G H0 a0 19 = t ∧ 0 ≤ t ∧ t ≤ mo_f G H0 a0 18) (k3 : mo_wd G H0 a0 o) (k4 : p1.toInt + (d : Int) = 8), Met l yX12_readTerm (.code yX12_readTerm cX12_readTerm 2 (none) :: th_tb) ({ frames := 13 + 3 * d, cells := 0, slots := 0, locals := 422 + d * 80 } : Room) (th_P [.ref a0, .int p1] G H0) (th_Q (fun (v : Option Value) (H1 : Heap) => v = none ∧ th_I G Γ H1 ∧ th_F G Γ [(46, 19), (46, 20), (46, 21)] H0 H1 ∧ th_RC G Γ H1 ∧ (t ≤ mo_f G H1 a0 19 ∧ mo_f G H1 a0 19 ≤ mo_f G H0 a0 18) ∧ (mo_f G H1 a0 21 = -1 → mo_f G H0 a0 21 = -1 ∧ mo_term o cv d t (mo_f G H1 a0 19)) ∧ (f_X12_readTerm d (dv G Γ H0) (a0 : Int) p1.toInt = (dv G Γ H1, 0))) G) 0 0 (fun q => G.1.2.2 ≤ q)

def s_X12_readSum (d : Nat) : Prop := ∀ (l : Launch) (G : th_G) (Γ : th_Ga) (H0 : Heap) (hI : th_I G Γ H0) (hR : th_RC G Γ H0) (hU : dv_U Γ) (a0 : Nat) (h0 : Γ a0 = (46, 0)) (p1 : Int32) (f1 : 0 ≤ p1.toInt) (g1 : p1.toInt ≤ 8) (o : Int) (cv : Int → Int) (t : Int) (k1 : mo_rd G H0 a0 cv) (k2 : mo_f G H0 a0 19 = t ∧ 0 ≤ t ∧ t ≤ mo_f G H0 a0 18) (k3 : mo_wd G H0 a0 o) (k4 : p1.toInt + (d : Int) = 8), Met l yX12_readSum (.code yX12_readSum cX12_readSum 2 (none) :: th_tb) ({ frames := 14 + 3 * d, cells := 0, slots := 0, locals := 443 + d * 80 } : Room) (th_P [.ref a0, .int p1] G H0) (th_Q (fun (v : Option Value) (H1 : Heap) => v = none ∧ th_I G Γ H1 ∧ th_F G Γ [(46, 19), (46, 20), (46, 21)] H0 H1 ∧ th_RC G Γ H1 ∧ (t ≤ mo_f G H1 a0 19 ∧ mo_f G H1 a0 19 ≤ mo_f G H0 a0 18) ∧ (mo_f G H1 a0 21 = -1 → mo_f G H0 a0 21 = -1 ∧ mo_sum o cv d t (mo_f G H1 a0 19)) ∧ (f_X12_readSum d (dv G Γ H0) (a0 : Int) p1.toInt = (dv G Γ H1, 0))) G) 0 0 (fun q => G.1.2.2 ≤ q)

set_option maxHeartbeats 4000000 in
set_option maxRecDepth 100000 in
theorem c_X12_readPart_s (d : Nat) (ihd : ∀ d', d = d' + 1 → s_X12_readSum d') : s_X12_readPart d := by
  intro l G Γ H0 hI hR hU a0 h0 p1 f1 g1 o cv t k1 k2 k3 k4
  refine th_met RX12 (by decide) rfl (Nat.le_of_ble_eq_true rfl) ?_
  intro p e s m below meth c hC hH hr hlocks hnm ls hl
  have hx := hC.1
  have hb := hC.2.1
  have hB : th_B G Γ Γ [(46, 19), (46, 20), (46, 21)] H0 H0 [] := ⟨hI, va_S.rf, th_F_rf⟩
  have hl : lv_has ls 3 [(0, .ref a0), (1, .int p1)] := hl
  have lp1 := ti_lo p1; have up1 := ti_hi p1
  obtain ⟨F, hF0⟩ : ∃ F, F = f_X12_readPart d (dv G Γ H0) ((a0 : Int)) (p1.toInt) := ⟨_, rfl⟩
  have hF := hF0.trans ((f_X12_readPart_d d (dv G Γ H0) ((a0 : Int)) (p1.toInt)).trans (f_X12_readPart_B.eq_1 d (dv_pre (fun _ _ _ => dv_z) f_X12_readSum d) (dv G Γ H0) ((a0 : Int)) (p1.toInt)))
  refine lv_aload_n hx hb gX12_readPart_0.1 rfl (lv_at hl 0 rfl) ?_
  have k3u := k3
  unfold mo_wd at k3u
  refine th_call (th_runV (As := []) (rest := []) hC mf_X12_fine km_X12_192 im_X12_fine se_X12_fine (c_X12_fine l G Γ H0 hB.1 hU a0 h0) rfl rfl ⟨by dsimp only; omega, by dsimp only; omega⟩ hB.1 h0 ro_46 rfl rfl hl.1 rfl (Nat.le_of_ble_eq_true rfl) gX12_readPart_0.2.1 ⟨Nat.le_refl _, Nat.le_refl _⟩) hB.2.1 (fun v1 H1 locs hp hz hS => ?_)
  obtain ⟨x1, rfl, lx1, ux1, q1_0, q1_1, q1_2, rfl⟩ := hp
  have hB := th_B_s hB hS
  replace hF := hF.trans (dv_bn2 (q1_2))
  refine W.eq (g2 := F0 m 4 ls [.int x1]) rfl ?_
  refine tr_if_ne (tgt := 8) hx hb gX12_readPart_0.2.2.1 (by decide) (Eq.refl _) (fun c4 => ?_) (fun c4 => ?_)
  · specialize q1_0 (by omega); clear q1_1
    replace hF := hF.trans (if_pos c4)
    refine lv_aload_n hx hb gX12_readPart_0.2.2.2.2.1 rfl (lv_at hl 0 rfl) ?_
    refine th_getO (j := 15) (r2 := 55) hC cf_X12 hB.1 h0 ro_46 rfl rfl kf_X12_54 gX12_readPart_0.2.2.2.2.2.1 (fun b2 mb2 hb2 => ?_)
    refine lv_aload_n hx hb gX12_readPart_0.2.2.2.2.2.2.1 rfl (lv_at hl 0 rfl) ?_
    refine th_getI (j := 19) hC cf_X12 hB.1 h0 ro_46 rfl rfl kf_X12_196 gX12_readPart_0.2.2.2.2.2.2.2 (fun x3 mx3 lx3 ux3 => ?_)
    replace hF := hF.trans (dv_bn (dv_getI h0 ro_46 (j := 19) rfl mx3 (by decide)))
    have fg4 : mo_f G H0 a0 19 = x3.toInt := mo_fat mx3
    refine th_ialdF hC hB.1 hb2 ro_55 rfl (Eq.refl _) (by omega) (by omega) rfl gX12_readPart_1.1 (fun x5 mx5 lx5 ux5 => ?_)
    replace hF := hF.trans (dv_bn (dv_aldI hB.1 hU hb2 ow_55 (z := x3.toInt) mx5 (by omega)))
    have vgx5 : mo_v G H0 a0 15 x3.toInt = x5.toInt := by rw [show (x3.toInt : Int) = x3.toInt by omega]; exact mo_vat mb2 mx5 (by omega)
    have rc16 : cv t = x5.toInt := by have q9 := mo_rd_at k1 vgx5 (by omega) (by omega); rw [← q9]; congr 1; omega
    refine lv_istore_n (lv' := [(2, .int x5), (0, .ref a0), (1, .int p1)]) hx hb gX12_readPart_1.2.1 rfl hl (by decide) rfl (fun ls hl => ?_)
    refine lv_iload_n hx hb gX12_readPart_1.2.2.1 rfl (lv_at hl 0 rfl) ?_
    refine lv_bipush (v := 91) hx hb gX12_readPart_1.2.2.2.1 (by decide) ?_
    refine th_call (th_runS (As := [.int 91]) (rest := [.int x5]) hC mf_X12_sign km_X12_240 st_X12_sign (c_X12_sign l G Γ H0 hB.1 hU 91 (by decide) (by decide)) rfl rfl ⟨by dsimp only; omega, by dsimp only; omega⟩ rfl hl.1 rfl (Nat.le_of_ble_eq_true rfl) gX12_readPart_1.2.2.2.2.1 ⟨Nat.le_refl _, Nat.le_refl _⟩) hB.2.1 (fun v21 H21 locs hp hz hS => ?_)
    obtain ⟨x6, rfl, lx6, ux6, q21_0, q21_1, rfl⟩ := hp
    have hB := th_B_s hB hS
    have w21_0 := tk_91
    have zf21 := q21_1
    rw [tk_91] at zf21
    replace hF := hF.trans (dv_bn2 (zf21))
    refine W.eq (g2 := F0 m 24 ls [.int x6, .int x5]) rfl ?_
    refine tr_icmp_ne (tgt := 74) hx hb gX12_readPart_1.2.2.2.2.2.1 (by decide) (Eq.refl _) (Eq.refl _) (fun c24 => ?_) (fun c24 => ?_)
    · replace hF := hF.trans (if_pos c24)
      refine lv_iload_n hx hb gX12_readPart_4.2.2.2.2.2.2.2 rfl (lv_at hl 0 rfl) ?_
      refine lv_bipush (v := 50) hx hb gX12_readPart_5.1 (by decide) ?_
      have jn111 : ∀ (locs : List Loc) (ls : Array Slot) , th_B G Γ Γ [(46, 19), (46, 20), (46, 21)] H0 H0 locs → lv_has ls 3 [(2, .int x5), (0, .ref a0)] → F = f_X12_readPart_111 d (dv_pre (fun _ _ _ => dv_z) f_X12_readSum d) (dv G Γ H0) (x5.toInt) ((a0 : Int)) → x5.toInt = 50 ∨ (mo_f G H0 a0 8 ≤ x5.toInt ∧ x5.toInt ≤ mo_f G H0 a0 9) → W p l e ({ frames := 12 + 3 * d, cells := 0, slots := 0, locals := 400 + d * 80 } : Room) s m ([.ref a0, .int p1] : List Value).toArray below meth c H0 locs 0 0 (MQ below (th_Q (fun (v : Option Value) (H1 : Heap) => v = none ∧ th_I G Γ H1 ∧ th_F G Γ [(46, 19), (46, 20), (46, 21)] H0 H1 ∧ th_RC G Γ H1 ∧ (t ≤ mo_f G H1 a0 19 ∧ mo_f G H1 a0 19 ≤ mo_f G H0 a0 18) ∧ (mo_f G H1 a0 21 = -1 → mo_f G H0 a0 21 = -1 ∧ mo_part o cv d t (mo_f G H1 a0 19)) ∧ (f_X12_readPart d (dv G Γ H0) (a0 : Int) p1.toInt = (dv G Γ H1, 0))) G) ([.ref a0, .int p1] : List Value).toArray s 0 0 (fun q => G.1.2.2 ≤ q)) (F0 m 111 ls []) := by
        intro locs ls hB hl hF g111_0
        replace hF := hF.trans (f_X12_readPart_111.eq_1 d (dv_pre (fun _ _ _ => dv_z) f_X12_readSum d) (dv G Γ H0) (x5.toInt) ((a0 : Int)))
        refine lv_aload_n hx hb gX12_readPart_7.2.1 rfl (lv_at hl 1 rfl) ?_
        refine th_call (th_runV (As := []) (rest := []) hC mf_X12_leaf km_X12_256 im_X12_leaf se_X12_leaf (c_X12_leaf l G Γ H0 hB.1 hR hU a0 h0 cv t k1 ⟨by omega, by omega, by omega⟩ (by omega)) rfl rfl ⟨by dsimp only; omega, by dsimp only; omega⟩ hB.1 h0 ro_46 rfl rfl hl.1 rfl (Nat.le_of_ble_eq_true rfl) gX12_readPart_7.2.2.1 ⟨Nat.le_refl _, Nat.le_refl _⟩) hB.2.1 (fun v112 H112 locs hp hz hS => ?_)
        obtain ⟨rfl, hI1, hf, hR, z112_0, z112_1, z112_2⟩ := hp
        have hB := th_B_c hB hI1 hS hf (by decide)
        have fv_H112_8 : mo_f G H112 a0 8 = mo_f G H0 a0 8 := mo_f_F hf h0 (by decide) (by decide)
        have fv_H112_9 : mo_f G H112 a0 9 = mo_f G H0 a0 9 := mo_f_F hf h0 (by decide) (by decide)
        have fv_H112_10 : mo_f G H112 a0 10 = mo_f G H0 a0 10 := mo_f_F hf h0 (by decide) (by decide)
        have fv_H112_18 : mo_f G H112 a0 18 = mo_f G H0 a0 18 := mo_f_F hf h0 (by decide) (by decide)
        have vv_H112_15 : mo_v G H112 a0 15 = mo_v G H0 a0 15 := mo_v_F (r := 55) hB.1 hf h0 rfl ro_55 (by decide) (by decide)
        have wd_H112 := mo_wd_F hB.2.2 h0 (by decide) k3
        have cr_H112 : mo_rd G H112 a0 cv := mo_rd_F hB.1 hB.2.2 h0 (by decide) k1
        replace hF := hF.trans (dv_bn2 (z112_2))
        refine W.eq (g2 := F0 m 115 ls []) rfl ?_
        refine lv_aload_n hx hb gX12_readPart_7.2.2.2.1 rfl (lv_at hl 1 rfl) ?_
        refine th_getI (j := 10) hC cf_X12 hB.1 h0 ro_46 rfl rfl kf_X12_224 gX12_readPart_7.2.2.2.2.1 (fun x7 mx7 lx7 ux7 => ?_)
        replace hF := hF.trans (dv_bn (dv_getI h0 ro_46 (j := 10) rfl mx7 (by decide)))
        have fg8 : mo_f G H112 a0 10 = x7.toInt := mo_fat mx7
        refine tr_if_eq (tgt := 148) hx hb gX12_readPart_7.2.2.2.2.2.1 (by decide) (Eq.refl _) (fun c119 => ?_) (fun c119 => ?_)
        · replace hF := hF.trans (if_pos c119)
          exact th_vret hC hH hr hlocks hB.2.1 ⟨rfl, hB.1, hB.2.2, hR, ⟨by omega, by omega⟩, fun h9 => by obtain ⟨q4, q5⟩ := z112_1 h9; exact ⟨by omega, mo_part_l (by unfold mo_leaf; omega)⟩, (hF0.symm.trans hF)⟩ gX12_readPart_9.2.2.2
        · replace hF := hF.trans (if_neg c119)
          refine lv_iload_n hx hb gX12_readPart_7.2.2.2.2.2.2.1 rfl (lv_at hl 0 rfl) ?_
          refine lv_bipush (v := 14) hx hb gX12_readPart_7.2.2.2.2.2.2.2 (by decide) ?_
          have jn134 : ∀ (locs : List Loc) (ls : Array Slot) , th_B G Γ Γ [(46, 19), (46, 20), (46, 21)] H0 H112 locs → lv_has ls 3 [(0, .ref a0)] → F = f_X12_readPart_134 d (dv_pre (fun _ _ _ => dv_z) f_X12_readSum d) (dv G Γ H112) ((a0 : Int)) → cv t = 14 ∨ cv t = 20 → W p l e ({ frames := 12 + 3 * d, cells := 0, slots := 0, locals := 400 + d * 80 } : Room) s m ([.ref a0, .int p1] : List Value).toArray below meth c H112 locs 0 0 (MQ below (th_Q (fun (v : Option Value) (H1 : Heap) => v = none ∧ th_I G Γ H1 ∧ th_F G Γ [(46, 19), (46, 20), (46, 21)] H0 H1 ∧ th_RC G Γ H1 ∧ (t ≤ mo_f G H1 a0 19 ∧ mo_f G H1 a0 19 ≤ mo_f G H0 a0 18) ∧ (mo_f G H1 a0 21 = -1 → mo_f G H0 a0 21 = -1 ∧ mo_part o cv d t (mo_f G H1 a0 19)) ∧ (f_X12_readPart d (dv G Γ H0) (a0 : Int) p1.toInt = (dv G Γ H1, 0))) G) ([.ref a0, .int p1] : List Value).toArray s 0 0 (fun q => G.1.2.2 ≤ q)) (F0 m 134 ls []) := by
            intro locs ls hB hl hF g134_0
            replace hF := hF.trans (f_X12_readPart_134.eq_1 d (dv_pre (fun _ _ _ => dv_z) f_X12_readSum d) (dv G Γ H112) ((a0 : Int)))
            refine lv_aload_n hx hb gX12_readPart_8.2.2.2.2.1 rfl (lv_at hl 0 rfl) ?_
            refine lv_iconst (v := 0) hx hb gX12_readPart_8.2.2.2.2.2.1 (by decide) ?_
            refine lv_bipush (v := 8) hx hb gX12_readPart_8.2.2.2.2.2.2.1 (by decide) ?_
            refine th_call (th_runV (As := [.int 0, .int 8]) (rest := []) hC mf_X12_mustNumber km_X12_220 im_X12_mustNumber se_X12_mustNumber (c_X12_mustNumber l G Γ H112 hB.1 hR hU a0 h0 0 8 cv (mo_f G H112 a0 19) cr_H112 ⟨by omega, by omega, by omega⟩) rfl rfl ⟨by dsimp only; omega, by dsimp only; omega⟩ hB.1 h0 ro_46 rfl rfl hl.1 rfl (Nat.le_of_ble_eq_true rfl) gX12_readPart_8.2.2.2.2.2.2.2 ⟨Nat.le_refl _, Nat.le_refl _⟩) hB.2.1 (fun v138 H138 locs hp hz hS => ?_)
            obtain ⟨rfl, hI1, hf, hR, z138_0, z138_1, z138_2⟩ := hp
            have hB := th_B_c hB hI1 hS hf (by decide)
            have fv_H138_8 : mo_f G H138 a0 8 = mo_f G H112 a0 8 := mo_f_F hf h0 (by decide) (by decide)
            have fv_H138_9 : mo_f G H138 a0 9 = mo_f G H112 a0 9 := mo_f_F hf h0 (by decide) (by decide)
            have fv_H138_10 : mo_f G H138 a0 10 = mo_f G H112 a0 10 := mo_f_F hf h0 (by decide) (by decide)
            have fv_H138_18 : mo_f G H138 a0 18 = mo_f G H112 a0 18 := mo_f_F hf h0 (by decide) (by decide)
            have vv_H138_15 : mo_v G H138 a0 15 = mo_v G H112 a0 15 := mo_v_F (r := 55) hB.1 hf h0 rfl ro_55 (by decide) (by decide)
            have wd_H138 := mo_wd_F hB.2.2 h0 (by decide) k3
            have cr_H138 : mo_rd G H138 a0 cv := mo_rd_F hB.1 hB.2.2 h0 (by decide) k1
            have zf138 := z138_2
            rw [tk_0, tk_8] at zf138
            replace hF := hF.trans (dv_bn2 (zf138))
            refine W.eq (g2 := F0 m 141 ls []) rfl ?_
            refine lv_goto (tgt := 148) hx hb gX12_readPart_9.1 (by decide) ?_
            exact th_vret hC hH hr hlocks hB.2.1 ⟨rfl, hB.1, hB.2.2, hR, ⟨by omega, by omega⟩, fun h9 => by obtain ⟨q1, q2, q3⟩ := z138_1 h9; obtain ⟨q4, q5⟩ := z112_1 q1; rw [q5] at q2; exact ⟨by omega, mo_part_l (by unfold mo_leaf; omega)⟩, (hF0.symm.trans hF)⟩ gX12_readPart_9.2.2.2
          refine tr_icmp_eq (tgt := 134) hx hb gX12_readPart_8.1 (by decide) (Eq.refl _) tk_14 (fun c125 => ?_) (fun c125 => ?_)
          · replace hF := hF.trans (if_pos c125)
            exact jn134 locs ls hB (lv_sub hl [1] rfl) hF (by omega)
          · replace hF := hF.trans (if_neg c125)
            refine lv_iload_n hx hb gX12_readPart_8.2.1 rfl (lv_at hl 0 rfl) ?_
            refine lv_bipush (v := 20) hx hb gX12_readPart_8.2.2.1 (by decide) ?_
            refine tr_icmp_ne (tgt := 148) hx hb gX12_readPart_8.2.2.2.1 (by decide) (Eq.refl _) tk_20 (fun c131 => ?_) (fun c131 => ?_)
            · replace hF := hF.trans (if_pos c131)
              exact th_vret hC hH hr hlocks hB.2.1 ⟨rfl, hB.1, hB.2.2, hR, ⟨by omega, by omega⟩, fun h9 => by obtain ⟨q4, q5⟩ := z112_1 h9; exact ⟨by omega, mo_part_l (by unfold mo_leaf; omega)⟩, (hF0.symm.trans hF)⟩ gX12_readPart_9.2.2.2
            · replace hF := hF.trans (if_neg (not_not_intro c131))
              exact jn134 locs ls hB (lv_sub hl [1] rfl) hF (by omega)
      have jn95 : ∀ (locs : List Loc) (ls : Array Slot) , th_B G Γ Γ [(46, 19), (46, 20), (46, 21)] H0 H0 locs → lv_has ls 3 [(2, .int x5), (0, .ref a0)] → F = f_X12_readPart_95 d (dv_pre (fun _ _ _ => dv_z) f_X12_readSum d) (dv G Γ H0) (x5.toInt) ((a0 : Int)) → W p l e ({ frames := 12 + 3 * d, cells := 0, slots := 0, locals := 400 + d * 80 } : Room) s m ([.ref a0, .int p1] : List Value).toArray below meth c H0 locs 0 0 (MQ below (th_Q (fun (v : Option Value) (H1 : Heap) => v = none ∧ th_I G Γ H1 ∧ th_F G Γ [(46, 19), (46, 20), (46, 21)] H0 H1 ∧ th_RC G Γ H1 ∧ (t ≤ mo_f G H1 a0 19 ∧ mo_f G H1 a0 19 ≤ mo_f G H0 a0 18) ∧ (mo_f G H1 a0 21 = -1 → mo_f G H0 a0 21 = -1 ∧ mo_part o cv d t (mo_f G H1 a0 19)) ∧ (f_X12_readPart d (dv G Γ H0) (a0 : Int) p1.toInt = (dv G Γ H1, 0))) G) ([.ref a0, .int p1] : List Value).toArray s 0 0 (fun q => G.1.2.2 ≤ q)) (F0 m 95 ls []) := by
        intro locs ls hB hl hF
        replace hF := hF.trans (f_X12_readPart_95.eq_1 d (dv_pre (fun _ _ _ => dv_z) f_X12_readSum d) (dv G Γ H0) (x5.toInt) ((a0 : Int)))
        refine lv_iload_n hx hb gX12_readPart_6.2.1 rfl (lv_at hl 0 rfl) ?_
        refine lv_aload_n hx hb gX12_readPart_6.2.2.1 rfl (lv_at hl 1 rfl) ?_
        refine th_getI (j := 8) hC cf_X12 hB.1 h0 ro_46 rfl rfl kf_X12_250 gX12_readPart_6.2.2.2.1 (fun x9 mx9 lx9 ux9 => ?_)
        replace hF := hF.trans (dv_bn (dv_getI h0 ro_46 (j := 8) rfl mx9 (by decide)))
        have fg10 : mo_f G H0 a0 8 = x9.toInt := mo_fat mx9
        have jn144 : ∀ (locs : List Loc) (ls : Array Slot) , th_B G Γ Γ [(46, 19), (46, 20), (46, 21)] H0 H0 locs → lv_has ls 3 [(0, .ref a0)] → F = f_X12_readPart_144 d (dv_pre (fun _ _ _ => dv_z) f_X12_readSum d) (dv G Γ H0) ((a0 : Int)) → W p l e ({ frames := 12 + 3 * d, cells := 0, slots := 0, locals := 400 + d * 80 } : Room) s m ([.ref a0, .int p1] : List Value).toArray below meth c H0 locs 0 0 (MQ below (th_Q (fun (v : Option Value) (H1 : Heap) => v = none ∧ th_I G Γ H1 ∧ th_F G Γ [(46, 19), (46, 20), (46, 21)] H0 H1 ∧ th_RC G Γ H1 ∧ (t ≤ mo_f G H1 a0 19 ∧ mo_f G H1 a0 19 ≤ mo_f G H0 a0 18) ∧ (mo_f G H1 a0 21 = -1 → mo_f G H0 a0 21 = -1 ∧ mo_part o cv d t (mo_f G H1 a0 19)) ∧ (f_X12_readPart d (dv G Γ H0) (a0 : Int) p1.toInt = (dv G Γ H1, 0))) G) ([.ref a0, .int p1] : List Value).toArray s 0 0 (fun q => G.1.2.2 ≤ q)) (F0 m 144 ls []) := by
          intro locs ls hB hl hF
          replace hF := hF.trans (f_X12_readPart_144.eq_1 d (dv_pre (fun _ _ _ => dv_z) f_X12_readSum d) (dv G Γ H0) ((a0 : Int)))
          refine lv_aload_n hx hb gX12_readPart_9.2.1 rfl (lv_at hl 0 rfl) ?_
          refine th_call (th_runV (As := []) (rest := []) hC mf_X12_faults km_X12_202 im_X12_faults se_X12_faults (c_X12_faults l G Γ H0 hB.1 hR hU a0 h0) rfl rfl ⟨by dsimp only; omega, by dsimp only; omega⟩ hB.1 h0 ro_46 rfl rfl hl.1 rfl (Nat.le_of_ble_eq_true rfl) gX12_readPart_9.2.2.1 ⟨Nat.le_refl _, Nat.le_refl _⟩) hB.2.1 (fun v145 H145 locs hp hz hS => ?_)
          obtain ⟨rfl, hI1, hf, hR, z145_0, z145_1⟩ := hp
          have hB := th_B_c hB hI1 hS hf (by decide)
          have mm11 := (th_F_o hf h0 ro_46 (j := 19) (by decide) (by decide)).trans mx3
          have fv_H145_8 : mo_f G H145 a0 8 = mo_f G H0 a0 8 := mo_f_F hf h0 (by decide) (by decide)
          have fv_H145_9 : mo_f G H145 a0 9 = mo_f G H0 a0 9 := mo_f_F hf h0 (by decide) (by decide)
          have fv_H145_10 : mo_f G H145 a0 10 = mo_f G H0 a0 10 := mo_f_F hf h0 (by decide) (by decide)
          have fv_H145_18 : mo_f G H145 a0 18 = mo_f G H0 a0 18 := mo_f_F hf h0 (by decide) (by decide)
          have fv_H145_19 : mo_f G H145 a0 19 = mo_f G H0 a0 19 := mo_f_F hf h0 (by decide) (by decide)
          have vv_H145_15 : mo_v G H145 a0 15 = mo_v G H0 a0 15 := mo_v_F (r := 55) hB.1 hf h0 rfl ro_55 (by decide) (by decide)
          have wd_H145 := mo_wd_F hB.2.2 h0 (by decide) k3
          have cr_H145 : mo_rd G H145 a0 cv := mo_rd_F hB.1 hB.2.2 h0 (by decide) k1
          replace hF := hF.trans (dv_bn2 (z145_1))
          refine W.eq (g2 := F0 m 148 ls []) rfl ?_
          exact th_vret hC hH hr hlocks hB.2.1 ⟨rfl, hB.1, hB.2.2, hR, ⟨by omega, by omega⟩, fun h9 => absurd h9 z145_0, (hF0.symm.trans hF)⟩ gX12_readPart_9.2.2.2
        refine tr_icmp_lt (tgt := 144) hx hb gX12_readPart_6.2.2.2.2.1 (by decide) (Eq.refl _) (Eq.refl _) (fun c100 => ?_) (fun c100 => ?_)
        · replace hF := hF.trans (if_pos c100)
          exact jn144 locs ls hB (lv_sub hl [1] rfl) hF
        · replace hF := hF.trans (if_neg (Int.not_lt.mpr c100))
          refine lv_iload_n hx hb gX12_readPart_6.2.2.2.2.2.1 rfl (lv_at hl 0 rfl) ?_
          refine lv_aload_n hx hb gX12_readPart_6.2.2.2.2.2.2.1 rfl (lv_at hl 1 rfl) ?_
          refine th_getI (j := 9) hC cf_X12 hB.1 h0 ro_46 rfl rfl kf_X12_253 gX12_readPart_6.2.2.2.2.2.2.2 (fun x12 mx12 lx12 ux12 => ?_)
          replace hF := hF.trans (dv_bn (dv_getI h0 ro_46 (j := 9) rfl mx12 (by decide)))
          have fg13 : mo_f G H0 a0 9 = x12.toInt := mo_fat mx12
          refine tr_icmp_gt (tgt := 144) hx hb gX12_readPart_7.1 (by decide) (Eq.refl _) (Eq.refl _) (fun c108 => ?_) (fun c108 => ?_)
          · replace hF := hF.trans (if_pos c108)
            exact jn144 locs ls hB (lv_sub hl [1] rfl) hF
          · replace hF := hF.trans (if_neg (Int.not_lt.mpr c108))
            exact jn111 locs ls hB (lv_sub hl [0, 1] rfl) hF (by omega)
      refine tr_icmp_ne (tgt := 95) hx hb gX12_readPart_5.2.1 (by decide) (Eq.refl _) tk_50 (fun c77 => ?_) (fun c77 => ?_)
      · replace hF := hF.trans (if_pos c77)
        exact jn95 locs ls hB (lv_sub hl [0, 1] rfl) hF
      · replace hF := hF.trans (if_neg (not_not_intro c77))
        refine lv_aload_n hx hb gX12_readPart_5.2.2.1 rfl (lv_at hl 1 rfl) ?_
        refine th_getO (j := 16) (r2 := 56) hC cf_X12 hB.1 h0 ro_46 rfl rfl kf_X12_57 gX12_readPart_5.2.2.2.1 (fun b14 mb14 hb14 => ?_)
        refine lv_aload_n hx hb gX12_readPart_5.2.2.2.2.1 rfl (lv_at hl 1 rfl) ?_
        refine th_getK hC cf_X12 hB.1 h0 ro_46 rfl (j := 19) (by decide) mx3 kf_X12_196 gX12_readPart_5.2.2.2.2.2.1 ?_
        replace hF := hF.trans (dv_bn (dv_getI h0 ro_46 (j := 19) rfl mx3 (by decide)))
        have fg15 : mo_f G H0 a0 19 = x3.toInt := mo_fat mx3
        refine th_ialdF hC hB.1 hb14 ro_56 rfl (Eq.refl _) (by omega) (by omega) rfl gX12_readPart_5.2.2.2.2.2.2.1 (fun x16 mx16 lx16 ux16 => ?_)
        replace hF := hF.trans (dv_bn (dv_aldI hB.1 hU hb14 ow_56 (z := x3.toInt) mx16 (by omega)))
        refine lv_sipush (v := 1000) hx hb gX12_readPart_5.2.2.2.2.2.2.2 (by decide) ?_
        refine tr_icmp_le (tgt := 111) hx hb gX12_readPart_6.1 (by decide) (Eq.refl _) tk_1000 (fun c92 => ?_) (fun c92 => ?_)
        · replace hF := hF.trans (if_pos c92)
          exact jn111 locs ls hB (lv_sub hl [0, 1] rfl) hF (by omega)
        · replace hF := hF.trans (if_neg (Int.not_le.mpr c92))
          exact jn95 locs ls hB (lv_sub hl [0, 1] rfl) hF
    · replace hF := hF.trans (if_neg (not_not_intro c24))
      refine lv_iload_n hx hb gX12_readPart_1.2.2.2.2.2.2.1 rfl (lv_at hl 2 rfl) ?_
      refine lv_bipush (v := 8) hx hb gX12_readPart_1.2.2.2.2.2.2.2 (by decide) ?_
      have jn37 : ∀ (H37 : Heap) (locs : List Loc) (ls : Array Slot) , th_B G Γ Γ [(46, 19), (46, 20), (46, 21)] H0 H37 locs → th_RC G Γ H37 → lv_has ls 3 [(0, .ref a0), (1, .int p1)] → F = f_X12_readPart_37 d (dv_pre (fun _ _ _ => dv_z) f_X12_readSum d) (dv G Γ H37) ((a0 : Int)) (p1.toInt) → mo_f G H37 a0 19 = t → (mo_f G H37 a0 21 = -1 → p1.toInt ≠ 8) → th_sl H37 a0 (G.1.1.2 12 19) = .int x3 → W p l e ({ frames := 12 + 3 * d, cells := 0, slots := 0, locals := 400 + d * 80 } : Room) s m ([.ref a0, .int p1] : List Value).toArray below meth c H37 locs 0 0 (MQ below (th_Q (fun (v : Option Value) (H1 : Heap) => v = none ∧ th_I G Γ H1 ∧ th_F G Γ [(46, 19), (46, 20), (46, 21)] H0 H1 ∧ th_RC G Γ H1 ∧ (t ≤ mo_f G H1 a0 19 ∧ mo_f G H1 a0 19 ≤ mo_f G H0 a0 18) ∧ (mo_f G H1 a0 21 = -1 → mo_f G H0 a0 21 = -1 ∧ mo_part o cv d t (mo_f G H1 a0 19)) ∧ (f_X12_readPart d (dv G Γ H0) (a0 : Int) p1.toInt = (dv G Γ H1, 0))) G) ([.ref a0, .int p1] : List Value).toArray s 0 0 (fun q => G.1.2.2 ≤ q)) (F0 m 37 ls []) := by
        intro H37 locs ls hB hR hl hF g37_0 g37_1 g37_2
        have wd_H37 := mo_wd_F hB.2.2 h0 (by decide) k3
        have cr_H37 : mo_rd G H37 a0 cv := mo_rd_F hB.1 hB.2.2 h0 (by decide) k1
        have fv17_8 : mo_f G H37 a0 8 = mo_f G H0 a0 8 := mo_f_F hB.2.2 h0 (by decide) (by decide)
        have fv18_9 : mo_f G H37 a0 9 = mo_f G H0 a0 9 := mo_f_F hB.2.2 h0 (by decide) (by decide)
        have fv19_10 : mo_f G H37 a0 10 = mo_f G H0 a0 10 := mo_f_F hB.2.2 h0 (by decide) (by decide)
        have fv20_18 : mo_f G H37 a0 18 = mo_f G H0 a0 18 := mo_f_F hB.2.2 h0 (by decide) (by decide)
        have vw_H37_15 : mo_v G H37 a0 15 = mo_v G H0 a0 15 := mo_v_F (r := 55) hB.1 hB.2.2 h0 rfl ro_55 (by decide) (by decide)
        replace hF := hF.trans (f_X12_readPart_37.eq_1 d (dv_pre (fun _ _ _ => dv_z) f_X12_readSum d) (dv G Γ H37) ((a0 : Int)) (p1.toInt))
        refine lv_aload_n hx hb gX12_readPart_2.2.2.2.1 rfl (lv_at hl 0 rfl) ?_
        refine th_call (th_runV (As := []) (rest := []) hC mf_X12_fine km_X12_192 im_X12_fine se_X12_fine (c_X12_fine l G Γ H37 hB.1 hU a0 h0) rfl rfl ⟨by dsimp only; omega, by dsimp only; omega⟩ hB.1 h0 ro_46 rfl rfl hl.1 rfl (Nat.le_of_ble_eq_true rfl) gX12_readPart_2.2.2.2.2.1 ⟨Nat.le_refl _, Nat.le_refl _⟩) hB.2.1 (fun v38 H38 locs hp hz hS => ?_)
        obtain ⟨x21, rfl, lx21, ux21, q38_0, q38_1, q38_2, rfl⟩ := hp
        have hB := th_B_s hB hS
        replace hF := hF.trans (dv_bn2 (q38_2))
        refine W.eq (g2 := F0 m 41 ls [.int x21]) rfl ?_
        refine tr_if_ne (tgt := 45) hx hb gX12_readPart_2.2.2.2.2.2.1 (by decide) (Eq.refl _) (fun c41 => ?_) (fun c41 => ?_)
        · specialize q38_0 (by omega); clear q38_1
          replace hF := hF.trans (if_pos c41)
          refine lv_aload_n hx hb gX12_readPart_2.2.2.2.2.2.2.2 rfl (lv_at hl 0 rfl) ?_
          refine lv_dup hx hb gX12_readPart_3.1 rfl ?_
          refine th_getK hC cf_X12 hB.1 h0 ro_46 rfl (j := 19) (by decide) g37_2 kf_X12_196 gX12_readPart_3.2.1 ?_
          replace hF := hF.trans (dv_bn (dv_getI h0 ro_46 (j := 19) rfl g37_2 (by decide)))
          have fg22 : mo_f G H37 a0 19 = x3.toInt := mo_fat g37_2
          have nz47 := mo_rd_nz k1 (show cv t ≠ 0 by omega)
          have t18 := mo_f_rg hI h0 (j := 18) rfl
          refine lv_iconst (v := 1) hx hb gX12_readPart_3.2.2.1 (by decide) ?_
          refine tr_iadd hx hb gX12_readPart_3.2.2.2.1 (Eq.refl _) tk_1 (by omega) (by omega) (fun x23 ex23 => ?_)
          replace hF := hF.trans (dv_bn (ex23.symm))
          refine th_put hC cf_X12 hB h0 (Or.inl h0) ro_46 rfl (j := 19) rfl (th_sI (by omega) (by omega)) (by decide) rfl rfl rfl kf_X12_196 gX12_readPart_3.2.2.2.2.1 (fun H52 locs hB hf hst52 => ?_)
          have hR := th_RC_F hB.1 hR hf (th_T_s h0 ro_46 hst52) (by decide)
          have fv_H52_8 : mo_f G H52 a0 8 = mo_f G H37 a0 8 := mo_f_F hf h0 (by decide) (by decide)
          have fv_H52_9 : mo_f G H52 a0 9 = mo_f G H37 a0 9 := mo_f_F hf h0 (by decide) (by decide)
          have fv_H52_10 : mo_f G H52 a0 10 = mo_f G H37 a0 10 := mo_f_F hf h0 (by decide) (by decide)
          have fv_H52_18 : mo_f G H52 a0 18 = mo_f G H37 a0 18 := mo_f_F hf h0 (by decide) (by decide)
          have fv_H52_21 : mo_f G H52 a0 21 = mo_f G H37 a0 21 := mo_f_F hf h0 (by decide) (by decide)
          have vv_H52_15 : mo_v G H52 a0 15 = mo_v G H37 a0 15 := mo_v_F (r := 55) hB.1 hf h0 rfl ro_55 (by decide) (by decide)
          have wd_H52 := mo_wd_F hB.2.2 h0 (by decide) k3
          have cr_H52 : mo_rd G H52 a0 cv := mo_rd_F hB.1 hB.2.2 h0 (by decide) k1
          replace hF := hF.trans (dv_bn (dv_putI hB.1 h0 ro_46 (j := 19) rfl (th_apart hC cf_X12) hst52 (Eq.refl _) (by decide)))
          have fp52 : mo_f G H52 a0 19 = x23.toInt := mo_f_St hst52
          refine lv_aload_n hx hb gX12_readPart_3.2.2.2.2.2.1 rfl (lv_at hl 0 rfl) ?_
          refine lv_iload_n hx hb gX12_readPart_3.2.2.2.2.2.2.1 rfl (lv_at hl 1 rfl) ?_
          obtain ⟨d', hd'⟩ : ∃ d', d = d' + 1 := ⟨d - 1, by omega⟩
          refine lv_iconst (v := 1) hx hb gX12_readPart_3.2.2.2.2.2.2.2 (by decide) ?_
          refine tr_iadd hx hb gX12_readPart_4.1 (Eq.refl _) tk_1 (by omega) (by omega) (fun x24 ex24 => ?_)
          replace hF := hF.trans (dv_bn (ex24.symm))
          refine th_call (th_runV (As := [.int x24]) (rest := []) hC mf_X12_readSum km_X12_208 im_X12_readSum se_X12_readSum (ihd d' hd' l G Γ H52 hB.1 hR hU a0 h0 x24 (by omega) (by omega) o cv (t + 1) cr_H52 ⟨by omega, by omega, by omega⟩ wd_H52 (by omega)) rfl rfl ⟨by dsimp only; omega, by dsimp only; omega⟩ hB.1 h0 ro_46 rfl rfl hl.1 rfl (Nat.le_of_ble_eq_true rfl) gX12_readPart_4.2.1 ⟨Nat.le_refl _, Nat.le_refl _⟩) hB.2.1 (fun v59 H59 locs hp hz hS => ?_)
          obtain ⟨rfl, hI1, hf, hR, z59_0, z59_1, z59_2⟩ := hp
          have hB := th_B_c hB hI1 hS hf (by decide)
          have fv_H59_8 : mo_f G H59 a0 8 = mo_f G H52 a0 8 := mo_f_F hf h0 (by decide) (by decide)
          have fv_H59_9 : mo_f G H59 a0 9 = mo_f G H52 a0 9 := mo_f_F hf h0 (by decide) (by decide)
          have fv_H59_10 : mo_f G H59 a0 10 = mo_f G H52 a0 10 := mo_f_F hf h0 (by decide) (by decide)
          have fv_H59_18 : mo_f G H59 a0 18 = mo_f G H52 a0 18 := mo_f_F hf h0 (by decide) (by decide)
          have vv_H59_15 : mo_v G H59 a0 15 = mo_v G H52 a0 15 := mo_v_F (r := 55) hB.1 hf h0 rfl ro_55 (by decide) (by decide)
          have wd_H59 := mo_wd_F hB.2.2 h0 (by decide) k3
          have cr_H59 : mo_rd G H59 a0 cv := mo_rd_F hB.1 hB.2.2 h0 (by decide) k1
          have zf59 := z59_2
          rw [← dv_pre_s (z := (fun _ _ _ => dv_z)) (f := f_X12_readSum) hd'] at zf59
          replace hF := hF.trans (dv_bn2 (zf59))
          refine W.eq (g2 := F0 m 62 ls []) rfl ?_
          refine lv_aload_n hx hb gX12_readPart_4.2.2.1 rfl (lv_at hl 0 rfl) ?_
          refine lv_bipush (v := 93) hx hb gX12_readPart_4.2.2.2.1 (by decide) ?_
          refine th_call (th_runS (As := [.int 93]) (rest := [.ref a0]) hC mf_X12_sign km_X12_240 st_X12_sign (c_X12_sign l G Γ H59 hB.1 hU 93 (by decide) (by decide)) rfl rfl ⟨by dsimp only; omega, by dsimp only; omega⟩ rfl hl.1 rfl (Nat.le_of_ble_eq_true rfl) gX12_readPart_4.2.2.2.2.1 ⟨Nat.le_refl _, Nat.le_refl _⟩) hB.2.1 (fun v65 H65 locs hp hz hS => ?_)
          obtain ⟨x25, rfl, lx25, ux25, q65_0, q65_1, rfl⟩ := hp
          have hB := th_B_s hB hS
          have w65_0 := tk_93
          have zf65 := q65_1
          rw [tk_93] at zf65
          replace hF := hF.trans (dv_bn2 (zf65))
          refine W.eq (g2 := F0 m 68 ls [.int x25, .ref a0]) rfl ?_
          refine th_call (th_runV (As := [.int x25]) (rest := []) hC mf_X12_must km_X12_211 im_X12_must se_X12_must (c_X12_must l G Γ H59 hB.1 hR hU a0 h0 x25 (by omega) cv (mo_f G H59 a0 19) cr_H59 ⟨by omega, by omega, by omega⟩) rfl rfl ⟨by dsimp only; omega, by dsimp only; omega⟩ hB.1 h0 ro_46 rfl rfl hl.1 rfl (Nat.le_of_ble_eq_true rfl) gX12_readPart_4.2.2.2.2.2.1 ⟨Nat.le_refl _, Nat.le_refl _⟩) hB.2.1 (fun v68 H68 locs hp hz hS => ?_)
          obtain ⟨rfl, hI1, hf, hR, z68_0, z68_1, z68_2⟩ := hp
          have hB := th_B_c hB hI1 hS hf (by decide)
          have fv_H68_8 : mo_f G H68 a0 8 = mo_f G H59 a0 8 := mo_f_F hf h0 (by decide) (by decide)
          have fv_H68_9 : mo_f G H68 a0 9 = mo_f G H59 a0 9 := mo_f_F hf h0 (by decide) (by decide)
          have fv_H68_10 : mo_f G H68 a0 10 = mo_f G H59 a0 10 := mo_f_F hf h0 (by decide) (by decide)
          have fv_H68_18 : mo_f G H68 a0 18 = mo_f G H59 a0 18 := mo_f_F hf h0 (by decide) (by decide)
          have vv_H68_15 : mo_v G H68 a0 15 = mo_v G H59 a0 15 := mo_v_F (r := 55) hB.1 hf h0 rfl ro_55 (by decide) (by decide)
          have wd_H68 := mo_wd_F hB.2.2 h0 (by decide) k3
          have cr_H68 : mo_rd G H68 a0 cv := mo_rd_F hB.1 hB.2.2 h0 (by decide) k1
          replace hF := hF.trans (dv_bn2 (z68_2))
          refine W.eq (g2 := F0 m 71 ls []) rfl ?_
          refine lv_goto (tgt := 148) hx hb gX12_readPart_4.2.2.2.2.2.2.1 (by decide) ?_
          exact th_vret hC hH hr hlocks hB.2.1 ⟨rfl, hB.1, hB.2.2, hR, ⟨by omega, by omega⟩, fun h9 => by obtain ⟨q1, q2, q3⟩ := z68_1 h9; obtain ⟨q4, q5⟩ := z59_1 q1; exact ⟨by omega, by rw [hd', q3]; exact mo_part_b (by omega) q5 (by omega)⟩, (hF0.symm.trans hF)⟩ gX12_readPart_9.2.2.2
        · specialize q38_1 (by omega); clear q38_0
          replace hF := hF.trans (if_neg (not_not_intro c41))
          exact th_vret hC hH hr hlocks hB.2.1 ⟨rfl, hB.1, hB.2.2, hR, ⟨by omega, by omega⟩, fun h9 => absurd h9 (by omega), (hF0.symm.trans hF)⟩ gX12_readPart_2.2.2.2.2.2.2.1
      refine tr_icmp_ne (tgt := 37) hx hb gX12_readPart_2.1 (by decide) (Eq.refl _) tk_8 (fun c30 => ?_) (fun c30 => ?_)
      · replace hF := hF.trans (if_pos c30)
        exact jn37 H0 locs ls hB hR (lv_sub hl [1, 2] rfl) hF (by omega) (by omega) mx3
      · replace hF := hF.trans (if_neg (not_not_intro c30))
        refine lv_aload_n hx hb gX12_readPart_2.2.1 rfl (lv_at hl 1 rfl) ?_
        refine th_call (th_runV (As := []) (rest := []) hC mf_X12_faults km_X12_202 im_X12_faults se_X12_faults (c_X12_faults l G Γ H0 hB.1 hR hU a0 h0) rfl rfl ⟨by dsimp only; omega, by dsimp only; omega⟩ hB.1 h0 ro_46 rfl rfl hl.1 rfl (Nat.le_of_ble_eq_true rfl) gX12_readPart_2.2.2.1 ⟨Nat.le_refl _, Nat.le_refl _⟩) hB.2.1 (fun v34 H34 locs hp hz hS => ?_)
        obtain ⟨rfl, hI1, hf, hR, z34_0, z34_1⟩ := hp
        have hB := th_B_c hB hI1 hS hf (by decide)
        have mm26 := (th_F_o hf h0 ro_46 (j := 19) (by decide) (by decide)).trans mx3
        have fv_H34_8 : mo_f G H34 a0 8 = mo_f G H0 a0 8 := mo_f_F hf h0 (by decide) (by decide)
        have fv_H34_9 : mo_f G H34 a0 9 = mo_f G H0 a0 9 := mo_f_F hf h0 (by decide) (by decide)
        have fv_H34_10 : mo_f G H34 a0 10 = mo_f G H0 a0 10 := mo_f_F hf h0 (by decide) (by decide)
        have fv_H34_18 : mo_f G H34 a0 18 = mo_f G H0 a0 18 := mo_f_F hf h0 (by decide) (by decide)
        have fv_H34_19 : mo_f G H34 a0 19 = mo_f G H0 a0 19 := mo_f_F hf h0 (by decide) (by decide)
        have vv_H34_15 : mo_v G H34 a0 15 = mo_v G H0 a0 15 := mo_v_F (r := 55) hB.1 hf h0 rfl ro_55 (by decide) (by decide)
        have wd_H34 := mo_wd_F hB.2.2 h0 (by decide) k3
        have cr_H34 : mo_rd G H34 a0 cv := mo_rd_F hB.1 hB.2.2 h0 (by decide) k1
        replace hF := hF.trans (dv_bn2 (z34_1))
        refine W.eq (g2 := F0 m 37 ls []) rfl ?_
        exact jn37 H34 locs ls hB hR (lv_sub hl [1, 2] rfl) hF (by omega) (by omega) mm26
  · specialize q1_1 (by omega); clear q1_0
    replace hF := hF.trans (if_neg (not_not_intro c4))
    exact th_vret hC hH hr hlocks hB.2.1 ⟨rfl, hB.1, hB.2.2, hR, ⟨by omega, by omega⟩, fun h9 => absurd h9 (by omega), (hF0.symm.trans hF)⟩ gX12_readPart_0.2.2.2.1

set_option maxHeartbeats 4000000 in
set_option maxRecDepth 100000 in
theorem c_X12_readTerm_s (d : Nat) (ihp : s_X12_readPart d) : s_X12_readTerm d := by
  intro l G Γ H0 hI hR hU a0 h0 p1 f1 g1 o cv t k1 k2 k3 k4
  refine th_met RX12 (by decide) rfl (Nat.le_of_ble_eq_true rfl) ?_
  intro p e s m below meth c hC hH hr hlocks hnm ls hl
  have hx := hC.1
  have hb := hC.2.1
  have hB : th_B G Γ Γ [(46, 19), (46, 20), (46, 21)] H0 H0 [] := ⟨hI, va_S.rf, th_F_rf⟩
  have hl : lv_has ls 2 [(0, .ref a0), (1, .int p1)] := hl
  have lp1 := ti_lo p1; have up1 := ti_hi p1
  obtain ⟨F, hF0⟩ : ∃ F, F = f_X12_readTerm d (dv G Γ H0) ((a0 : Int)) (p1.toInt) := ⟨_, rfl⟩
  have hF := hF0.trans ((f_X12_readTerm_d d (dv G Γ H0) ((a0 : Int)) (p1.toInt)).trans (f_X12_readTerm_B.eq_1 d (f_X12_readPart d) (dv G Γ H0) ((a0 : Int)) (p1.toInt)))
  refine lv_aload_n hx hb gX12_readTerm_0.1 rfl (lv_at hl 0 rfl) ?_
  refine lv_iload_n hx hb gX12_readTerm_0.2.1 rfl (lv_at hl 1 rfl) ?_
  refine th_call (th_runV (As := [.int p1]) (rest := []) hC mf_X12_readPart km_X12_247 im_X12_readPart se_X12_readPart (ihp l G Γ H0 hB.1 hR hU a0 h0 p1 (by omega) (by omega) o cv t k1 ⟨by omega, by omega, by omega⟩ k3 (by omega)) rfl rfl ⟨by dsimp only; omega, by dsimp only; omega⟩ hB.1 h0 ro_46 rfl rfl hl.1 rfl (Nat.le_of_ble_eq_true rfl) gX12_readTerm_0.2.2.1 ⟨Nat.le_refl _, Nat.le_refl _⟩) hB.2.1 (fun v2 H2 locs hp hz hS => ?_)
  obtain ⟨rfl, hI1, hf, hR, z2_0, z2_1, z2_2⟩ := hp
  have hB := th_B_c hB hI1 hS hf (by decide)
  have fv_H2_18 : mo_f G H2 a0 18 = mo_f G H0 a0 18 := mo_f_F hf h0 (by decide) (by decide)
  have vv_H2_15 : mo_v G H2 a0 15 = mo_v G H0 a0 15 := mo_v_F (r := 55) hB.1 hf h0 rfl ro_55 (by decide) (by decide)
  have wd_H2 := mo_wd_F hB.2.2 h0 (by decide) k3
  have cr_H2 : mo_rd G H2 a0 cv := mo_rd_F hB.1 hB.2.2 h0 (by decide) k1
  replace hF := hF.trans (dv_bn2 (z2_2))
  refine W.eq (g2 := F0 m 5 ls []) rfl ?_
  have lp5 : ∀ (n5 : Nat) (H5 : Heap) (locs : List Loc) (ls : Array Slot) , th_B G Γ Γ [(46, 19), (46, 20), (46, 21)] H0 H5 locs → th_RC G Γ H5 → lv_has ls 2 [(0, .ref a0), (1, .int p1)] → F = dv_lp (f_X12_readTerm_5b d (f_X12_readPart d)) (dv G Γ H5, (a0 : Int), p1.toInt) → (∃ m : Int, mo_f G H5 a0 19 = m ∧ t ≤ m ∧ m ≤ mo_f G H0 a0 18 ∧ (mo_f G H5 a0 21 = -1 → mo_f G H0 a0 21 = -1 ∧ mo_pre cv (mo_part o cv d) mo_mul t m)) → mo_f G H0 a0 18 - mo_f G H5 a0 19 + 1 ≤ (n5 : Int) → W p l e ({ frames := 13 + 3 * d, cells := 0, slots := 0, locals := 422 + d * 80 } : Room) s m ([.ref a0, .int p1] : List Value).toArray below meth c H5 locs 0 0 (MQ below (th_Q (fun (v : Option Value) (H1 : Heap) => v = none ∧ th_I G Γ H1 ∧ th_F G Γ [(46, 19), (46, 20), (46, 21)] H0 H1 ∧ th_RC G Γ H1 ∧ (t ≤ mo_f G H1 a0 19 ∧ mo_f G H1 a0 19 ≤ mo_f G H0 a0 18) ∧ (mo_f G H1 a0 21 = -1 → mo_f G H0 a0 21 = -1 ∧ mo_term o cv d t (mo_f G H1 a0 19)) ∧ (f_X12_readTerm d (dv G Γ H0) (a0 : Int) p1.toInt = (dv G Γ H1, 0))) G) ([.ref a0, .int p1] : List Value).toArray s 0 0 (fun q => G.1.2.2 ≤ q)) (F0 m 5 ls []) := by
    intro n5
    induction n5 with
    | zero => intro H5 locs ls hB hR hl hF g5_0 hm5; exact absurd hm5 (by have := mo_lpr g5_0; omega)
    | succ n5 ih5 =>
      intro H5 locs ls hB hR hl hF g5_0 hm5
      have wd_H5 := mo_wd_F hB.2.2 h0 (by decide) k3
      have cr_H5 : mo_rd G H5 a0 cv := mo_rd_F hB.1 hB.2.2 h0 (by decide) k1
      have fv1_18 : mo_f G H5 a0 18 = mo_f G H0 a0 18 := mo_f_F hB.2.2 h0 (by decide) (by decide)
      have vw_H5_15 : mo_v G H5 a0 15 = mo_v G H0 a0 15 := mo_v_F (r := 55) hB.1 hB.2.2 h0 rfl ro_55 (by decide) (by decide)
      have hm5 : mo_f G H0 a0 18 - mo_f G H5 a0 19 + 1 ≤ (n5 : Int) + 1 := by omega
      replace hF := hF.trans (dv_lp_eq)
      replace hF := hF.trans (congrArg (dv_k (f_X12_readTerm_5b d (f_X12_readPart d))) (f_X12_readTerm_5c.eq_1 d (f_X12_readPart d) (dv G Γ H5) ((a0 : Int)) (p1.toInt)))
      refine lv_aload_n hx hb gX12_readTerm_0.2.2.2.1 rfl (lv_at hl 0 rfl) ?_
      obtain ⟨m5, a5, b5, c5, e5⟩ := g5_0
      refine lv_bipush (v := 42) hx hb gX12_readTerm_0.2.2.2.2.1 (by decide) ?_
      refine th_call (th_runS (As := [.int 42]) (rest := [.ref a0]) hC mf_X12_sign km_X12_240 st_X12_sign (c_X12_sign l G Γ H5 hB.1 hU 42 (by decide) (by decide)) rfl rfl ⟨by dsimp only; omega, by dsimp only; omega⟩ rfl hl.1 rfl (Nat.le_of_ble_eq_true rfl) gX12_readTerm_0.2.2.2.2.2.1 ⟨Nat.le_refl _, Nat.le_refl _⟩) hB.2.1 (fun v8 H8 locs hp hz hS => ?_)
      obtain ⟨x2, rfl, lx2, ux2, q8_0, q8_1, rfl⟩ := hp
      have hB := th_B_s hB hS
      have w8_0 := tk_42
      have zf8 := q8_1
      rw [tk_42] at zf8
      replace hF := hF.trans (congrArg (dv_k (f_X12_readTerm_5b d (f_X12_readPart d))) (dv_bn2 (zf8)))
      refine W.eq (g2 := F0 m 11 ls [.int x2, .ref a0]) rfl ?_
      refine th_call (th_runV (As := [.int x2]) (rest := []) hC mf_X12_takes0 km_X12_199 im_X12_takes0 se_X12_takes0 (c_X12_takes0 l G Γ H5 hB.1 hR hU a0 h0 x2 (by omega) cv m5 cr_H5 ⟨by omega, by omega, by omega⟩) rfl rfl ⟨by dsimp only; omega, by dsimp only; omega⟩ hB.1 h0 ro_46 rfl rfl hl.1 rfl (Nat.le_of_ble_eq_true rfl) gX12_readTerm_0.2.2.2.2.2.2.1 ⟨Nat.le_refl _, Nat.le_refl _⟩) hB.2.1 (fun v11 H11 locs hp hz hS => ?_)
      obtain ⟨x3, rfl, lx3, ux3, hI1, hf, hR, z11_0, z11_1, z11_2, z11_3⟩ := hp
      have hB := th_B_c hB hI1 hS hf (by decide)
      have fv_H11_18 : mo_f G H11 a0 18 = mo_f G H5 a0 18 := mo_f_F hf h0 (by decide) (by decide)
      have fv_H11_21 : mo_f G H11 a0 21 = mo_f G H5 a0 21 := mo_f_F hf h0 (by decide) (by decide)
      have vv_H11_15 : mo_v G H11 a0 15 = mo_v G H5 a0 15 := mo_v_F (r := 55) hB.1 hf h0 rfl ro_55 (by decide) (by decide)
      have wd_H11 := mo_wd_F hB.2.2 h0 (by decide) k3
      have cr_H11 : mo_rd G H11 a0 cv := mo_rd_F hB.1 hB.2.2 h0 (by decide) k1
      replace hF := hF.trans (congrArg (dv_k (f_X12_readTerm_5b d (f_X12_readPart d))) (dv_bn2 (z11_3)))
      refine W.eq (g2 := F0 m 14 ls [.int x3]) rfl ?_
      refine tr_if_ne (tgt := 41) hx hb gX12_readTerm_0.2.2.2.2.2.2.2 (by decide) (Eq.refl _) (fun c14 => ?_) (fun c14 => ?_)
      · specialize z11_0 (by omega); clear z11_1
        replace hF := hF.trans (congrArg (dv_k (f_X12_readTerm_5b d (f_X12_readPart d))) (if_pos c14))
        refine lv_aload_n hx hb gX12_readTerm_2.2.2.1 rfl (lv_at hl 0 rfl) ?_
        refine lv_iload_n hx hb gX12_readTerm_2.2.2.2.1 rfl (lv_at hl 1 rfl) ?_
        refine th_call (th_runV (As := [.int p1]) (rest := []) hC mf_X12_readPart km_X12_247 im_X12_readPart se_X12_readPart (ihp l G Γ H11 hB.1 hR hU a0 h0 p1 (by omega) (by omega) o cv (m5 + 1) cr_H11 ⟨by omega, by omega, by omega⟩ wd_H11 (by omega)) rfl rfl ⟨by dsimp only; omega, by dsimp only; omega⟩ hB.1 h0 ro_46 rfl rfl hl.1 rfl (Nat.le_of_ble_eq_true rfl) gX12_readTerm_2.2.2.2.2.1 ⟨Nat.le_refl _, Nat.le_refl _⟩) hB.2.1 (fun v43 H43 locs hp hz hS => ?_)
        obtain ⟨rfl, hI1, hf, hR, z43_0, z43_1, z43_2⟩ := hp
        have hB := th_B_c hB hI1 hS hf (by decide)
        have fv_H43_18 : mo_f G H43 a0 18 = mo_f G H11 a0 18 := mo_f_F hf h0 (by decide) (by decide)
        have vv_H43_15 : mo_v G H43 a0 15 = mo_v G H11 a0 15 := mo_v_F (r := 55) hB.1 hf h0 rfl ro_55 (by decide) (by decide)
        have wd_H43 := mo_wd_F hB.2.2 h0 (by decide) k3
        have cr_H43 : mo_rd G H43 a0 cv := mo_rd_F hB.1 hB.2.2 h0 (by decide) k1
        replace hF := hF.trans (congrArg (dv_k (f_X12_readTerm_5b d (f_X12_readPart d))) (dv_bn2 (z43_2)))
        refine W.eq (g2 := F0 m 46 ls []) rfl ?_
        refine lv_goto (tgt := 5) hx hb gX12_readTerm_2.2.2.2.2.2.1 (by decide) ?_
        replace hF := hF.trans (dv_kl)
        exact ih5 H43 locs ls hB hR (lv_sub hl [0, 1] rfl) hF ⟨_, rfl, by omega, by omega, fun h9 => by obtain ⟨q3, q4⟩ := z43_1 h9; obtain ⟨q1, q2⟩ := e5 (by omega); exact ⟨q1, mo_pre_s q2 (show cv m5 = 142 ∨ cv m5 = 147 ∨ cv m5 = 137 by omega) q4⟩⟩ (by omega)
      · specialize z11_1 (by omega); clear z11_0
        replace hF := hF.trans (congrArg (dv_k (f_X12_readTerm_5b d (f_X12_readPart d))) (if_neg (not_not_intro c14)))
        refine lv_aload_n hx hb gX12_readTerm_1.1 rfl (lv_at hl 0 rfl) ?_
        refine lv_bipush (v := 47) hx hb gX12_readTerm_1.2.1 (by decide) ?_
        refine th_call (th_runS (As := [.int 47]) (rest := [.ref a0]) hC mf_X12_sign km_X12_240 st_X12_sign (c_X12_sign l G Γ H11 hB.1 hU 47 (by decide) (by decide)) rfl rfl ⟨by dsimp only; omega, by dsimp only; omega⟩ rfl hl.1 rfl (Nat.le_of_ble_eq_true rfl) gX12_readTerm_1.2.2.1 ⟨Nat.le_refl _, Nat.le_refl _⟩) hB.2.1 (fun v20 H20 locs hp hz hS => ?_)
        obtain ⟨x4, rfl, lx4, ux4, q20_0, q20_1, rfl⟩ := hp
        have hB := th_B_s hB hS
        have w20_0 := tk_47
        have zf20 := q20_1
        rw [tk_47] at zf20
        replace hF := hF.trans (congrArg (dv_k (f_X12_readTerm_5b d (f_X12_readPart d))) (dv_bn2 (zf20)))
        refine W.eq (g2 := F0 m 23 ls [.int x4, .ref a0]) rfl ?_
        refine th_call (th_runV (As := [.int x4]) (rest := []) hC mf_X12_takes0 km_X12_199 im_X12_takes0 se_X12_takes0 (c_X12_takes0 l G Γ H11 hB.1 hR hU a0 h0 x4 (by omega) cv m5 cr_H11 ⟨by omega, by omega, by omega⟩) rfl rfl ⟨by dsimp only; omega, by dsimp only; omega⟩ hB.1 h0 ro_46 rfl rfl hl.1 rfl (Nat.le_of_ble_eq_true rfl) gX12_readTerm_1.2.2.2.1 ⟨Nat.le_refl _, Nat.le_refl _⟩) hB.2.1 (fun v23 H23 locs hp hz hS => ?_)
        obtain ⟨x5, rfl, lx5, ux5, hI1, hf, hR, z23_0, z23_1, z23_2, z23_3⟩ := hp
        have hB := th_B_c hB hI1 hS hf (by decide)
        have fv_H23_18 : mo_f G H23 a0 18 = mo_f G H11 a0 18 := mo_f_F hf h0 (by decide) (by decide)
        have fv_H23_21 : mo_f G H23 a0 21 = mo_f G H11 a0 21 := mo_f_F hf h0 (by decide) (by decide)
        have vv_H23_15 : mo_v G H23 a0 15 = mo_v G H11 a0 15 := mo_v_F (r := 55) hB.1 hf h0 rfl ro_55 (by decide) (by decide)
        have wd_H23 := mo_wd_F hB.2.2 h0 (by decide) k3
        have cr_H23 : mo_rd G H23 a0 cv := mo_rd_F hB.1 hB.2.2 h0 (by decide) k1
        replace hF := hF.trans (congrArg (dv_k (f_X12_readTerm_5b d (f_X12_readPart d))) (dv_bn2 (z23_3)))
        refine W.eq (g2 := F0 m 26 ls [.int x5]) rfl ?_
        refine tr_if_ne (tgt := 41) hx hb gX12_readTerm_1.2.2.2.2.1 (by decide) (Eq.refl _) (fun c26 => ?_) (fun c26 => ?_)
        · specialize z23_0 (by omega); clear z23_1
          replace hF := hF.trans (congrArg (dv_k (f_X12_readTerm_5b d (f_X12_readPart d))) (if_pos c26))
          refine lv_aload_n hx hb gX12_readTerm_2.2.2.1 rfl (lv_at hl 0 rfl) ?_
          refine lv_iload_n hx hb gX12_readTerm_2.2.2.2.1 rfl (lv_at hl 1 rfl) ?_
          refine th_call (th_runV (As := [.int p1]) (rest := []) hC mf_X12_readPart km_X12_247 im_X12_readPart se_X12_readPart (ihp l G Γ H23 hB.1 hR hU a0 h0 p1 (by omega) (by omega) o cv (m5 + 1) cr_H23 ⟨by omega, by omega, by omega⟩ wd_H23 (by omega)) rfl rfl ⟨by dsimp only; omega, by dsimp only; omega⟩ hB.1 h0 ro_46 rfl rfl hl.1 rfl (Nat.le_of_ble_eq_true rfl) gX12_readTerm_2.2.2.2.2.1 ⟨Nat.le_refl _, Nat.le_refl _⟩) hB.2.1 (fun v43 H43 locs hp hz hS => ?_)
          obtain ⟨rfl, hI1, hf, hR, z43_0, z43_1, z43_2⟩ := hp
          have hB := th_B_c hB hI1 hS hf (by decide)
          have fv_H43_18 : mo_f G H43 a0 18 = mo_f G H23 a0 18 := mo_f_F hf h0 (by decide) (by decide)
          have vv_H43_15 : mo_v G H43 a0 15 = mo_v G H23 a0 15 := mo_v_F (r := 55) hB.1 hf h0 rfl ro_55 (by decide) (by decide)
          have wd_H43 := mo_wd_F hB.2.2 h0 (by decide) k3
          have cr_H43 : mo_rd G H43 a0 cv := mo_rd_F hB.1 hB.2.2 h0 (by decide) k1
          replace hF := hF.trans (congrArg (dv_k (f_X12_readTerm_5b d (f_X12_readPart d))) (dv_bn2 (z43_2)))
          refine W.eq (g2 := F0 m 46 ls []) rfl ?_
          refine lv_goto (tgt := 5) hx hb gX12_readTerm_2.2.2.2.2.2.1 (by decide) ?_
          replace hF := hF.trans (dv_kl)
          exact ih5 H43 locs ls hB hR (lv_sub hl [0, 1] rfl) hF ⟨_, rfl, by omega, by omega, fun h9 => by obtain ⟨q3, q4⟩ := z43_1 h9; obtain ⟨q1, q2⟩ := e5 (by omega); exact ⟨q1, mo_pre_s q2 (show cv m5 = 142 ∨ cv m5 = 147 ∨ cv m5 = 137 by omega) q4⟩⟩ (by omega)
        · specialize z23_1 (by omega); clear z23_0
          replace hF := hF.trans (congrArg (dv_k (f_X12_readTerm_5b d (f_X12_readPart d))) (if_neg (not_not_intro c26)))
          refine lv_aload_n hx hb gX12_readTerm_1.2.2.2.2.2.1 rfl (lv_at hl 0 rfl) ?_
          refine lv_bipush (v := 37) hx hb gX12_readTerm_1.2.2.2.2.2.2.1 (by decide) ?_
          refine th_call (th_runS (As := [.int 37]) (rest := [.ref a0]) hC mf_X12_sign km_X12_240 st_X12_sign (c_X12_sign l G Γ H23 hB.1 hU 37 (by decide) (by decide)) rfl rfl ⟨by dsimp only; omega, by dsimp only; omega⟩ rfl hl.1 rfl (Nat.le_of_ble_eq_true rfl) gX12_readTerm_1.2.2.2.2.2.2.2 ⟨Nat.le_refl _, Nat.le_refl _⟩) hB.2.1 (fun v32 H32 locs hp hz hS => ?_)
          obtain ⟨x6, rfl, lx6, ux6, q32_0, q32_1, rfl⟩ := hp
          have hB := th_B_s hB hS
          have w32_0 := tk_37
          have zf32 := q32_1
          rw [tk_37] at zf32
          replace hF := hF.trans (congrArg (dv_k (f_X12_readTerm_5b d (f_X12_readPart d))) (dv_bn2 (zf32)))
          refine W.eq (g2 := F0 m 35 ls [.int x6, .ref a0]) rfl ?_
          refine th_call (th_runV (As := [.int x6]) (rest := []) hC mf_X12_takes0 km_X12_199 im_X12_takes0 se_X12_takes0 (c_X12_takes0 l G Γ H23 hB.1 hR hU a0 h0 x6 (by omega) cv m5 cr_H23 ⟨by omega, by omega, by omega⟩) rfl rfl ⟨by dsimp only; omega, by dsimp only; omega⟩ hB.1 h0 ro_46 rfl rfl hl.1 rfl (Nat.le_of_ble_eq_true rfl) gX12_readTerm_2.1 ⟨Nat.le_refl _, Nat.le_refl _⟩) hB.2.1 (fun v35 H35 locs hp hz hS => ?_)
          obtain ⟨x7, rfl, lx7, ux7, hI1, hf, hR, z35_0, z35_1, z35_2, z35_3⟩ := hp
          have hB := th_B_c hB hI1 hS hf (by decide)
          have fv_H35_18 : mo_f G H35 a0 18 = mo_f G H23 a0 18 := mo_f_F hf h0 (by decide) (by decide)
          have fv_H35_21 : mo_f G H35 a0 21 = mo_f G H23 a0 21 := mo_f_F hf h0 (by decide) (by decide)
          have vv_H35_15 : mo_v G H35 a0 15 = mo_v G H23 a0 15 := mo_v_F (r := 55) hB.1 hf h0 rfl ro_55 (by decide) (by decide)
          have wd_H35 := mo_wd_F hB.2.2 h0 (by decide) k3
          have cr_H35 : mo_rd G H35 a0 cv := mo_rd_F hB.1 hB.2.2 h0 (by decide) k1
          replace hF := hF.trans (congrArg (dv_k (f_X12_readTerm_5b d (f_X12_readPart d))) (dv_bn2 (z35_3)))
          refine W.eq (g2 := F0 m 38 ls [.int x7]) rfl ?_
          refine tr_if_eq (tgt := 49) hx hb gX12_readTerm_2.2.1 (by decide) (Eq.refl _) (fun c38 => ?_) (fun c38 => ?_)
          · specialize z35_1 (by omega); clear z35_0
            replace hF := hF.trans (congrArg (dv_k (f_X12_readTerm_5b d (f_X12_readPart d))) (if_pos c38))
            replace hF := hF.trans (dv_kr)
            exact th_vret hC hH hr hlocks hB.2.1 ⟨rfl, hB.1, hB.2.2, hR, ⟨by omega, by omega⟩, fun h9 => by obtain ⟨q1, q2⟩ := e5 (by omega); exact ⟨q1, by rw [show mo_f G H35 a0 19 = m5 by omega]; exact mo_pre_e q2 (show ¬ (cv m5 = 142 ∨ cv m5 = 147 ∨ cv m5 = 137) by omega)⟩, (hF0.symm.trans hF)⟩ gX12_readTerm_2.2.2.2.2.2.2
          · specialize z35_0 (by omega); clear z35_1
            replace hF := hF.trans (congrArg (dv_k (f_X12_readTerm_5b d (f_X12_readPart d))) (if_neg c38))
            refine lv_aload_n hx hb gX12_readTerm_2.2.2.1 rfl (lv_at hl 0 rfl) ?_
            refine lv_iload_n hx hb gX12_readTerm_2.2.2.2.1 rfl (lv_at hl 1 rfl) ?_
            refine th_call (th_runV (As := [.int p1]) (rest := []) hC mf_X12_readPart km_X12_247 im_X12_readPart se_X12_readPart (ihp l G Γ H35 hB.1 hR hU a0 h0 p1 (by omega) (by omega) o cv (m5 + 1) cr_H35 ⟨by omega, by omega, by omega⟩ wd_H35 (by omega)) rfl rfl ⟨by dsimp only; omega, by dsimp only; omega⟩ hB.1 h0 ro_46 rfl rfl hl.1 rfl (Nat.le_of_ble_eq_true rfl) gX12_readTerm_2.2.2.2.2.1 ⟨Nat.le_refl _, Nat.le_refl _⟩) hB.2.1 (fun v43 H43 locs hp hz hS => ?_)
            obtain ⟨rfl, hI1, hf, hR, z43_0, z43_1, z43_2⟩ := hp
            have hB := th_B_c hB hI1 hS hf (by decide)
            have fv_H43_18 : mo_f G H43 a0 18 = mo_f G H35 a0 18 := mo_f_F hf h0 (by decide) (by decide)
            have vv_H43_15 : mo_v G H43 a0 15 = mo_v G H35 a0 15 := mo_v_F (r := 55) hB.1 hf h0 rfl ro_55 (by decide) (by decide)
            have wd_H43 := mo_wd_F hB.2.2 h0 (by decide) k3
            have cr_H43 : mo_rd G H43 a0 cv := mo_rd_F hB.1 hB.2.2 h0 (by decide) k1
            replace hF := hF.trans (congrArg (dv_k (f_X12_readTerm_5b d (f_X12_readPart d))) (dv_bn2 (z43_2)))
            refine W.eq (g2 := F0 m 46 ls []) rfl ?_
            refine lv_goto (tgt := 5) hx hb gX12_readTerm_2.2.2.2.2.2.1 (by decide) ?_
            replace hF := hF.trans (dv_kl)
            exact ih5 H43 locs ls hB hR (lv_sub hl [0, 1] rfl) hF ⟨_, rfl, by omega, by omega, fun h9 => by obtain ⟨q3, q4⟩ := z43_1 h9; obtain ⟨q1, q2⟩ := e5 (by omega); exact ⟨q1, mo_pre_s q2 (show cv m5 = 142 ∨ cv m5 = 147 ∨ cv m5 = 137 by omega) q4⟩⟩ (by omega)
  exact lp5 (mo_f G H0 a0 18 - mo_f G H2 a0 19 + 1).toNat H2 locs ls hB hR (lv_sub hl [0, 1] rfl) hF ⟨_, rfl, by omega, by omega, fun h9 => ⟨(z2_1 h9).1, mo_pre_0 (z2_1 h9).2⟩⟩ (by omega)

set_option maxHeartbeats 4000000 in
set_option maxRecDepth 100000 in
theorem c_X12_readSum_s (d : Nat) (ihp : s_X12_readTerm d) : s_X12_readSum d := by
  intro l G Γ H0 hI hR hU a0 h0 p1 f1 g1 o cv t k1 k2 k3 k4
  refine th_met RX12 (by decide) rfl (Nat.le_of_ble_eq_true rfl) ?_
  intro p e s m below meth c hC hH hr hlocks hnm ls hl
  have hx := hC.1
  have hb := hC.2.1
  have hB : th_B G Γ Γ [(46, 19), (46, 20), (46, 21)] H0 H0 [] := ⟨hI, va_S.rf, th_F_rf⟩
  have hl : lv_has ls 2 [(0, .ref a0), (1, .int p1)] := hl
  have lp1 := ti_lo p1; have up1 := ti_hi p1
  obtain ⟨F, hF0⟩ : ∃ F, F = f_X12_readSum d (dv G Γ H0) ((a0 : Int)) (p1.toInt) := ⟨_, rfl⟩
  have hF := hF0.trans ((f_X12_readSum_d d (dv G Γ H0) ((a0 : Int)) (p1.toInt)).trans (f_X12_readSum_B.eq_1 d (f_X12_readTerm d) (dv G Γ H0) ((a0 : Int)) (p1.toInt)))
  refine lv_aload_n hx hb gX12_readSum_0.1 rfl (lv_at hl 0 rfl) ?_
  refine lv_iload_n hx hb gX12_readSum_0.2.1 rfl (lv_at hl 1 rfl) ?_
  refine th_call (th_runV (As := [.int p1]) (rest := []) hC mf_X12_readTerm km_X12_244 im_X12_readTerm se_X12_readTerm (ihp l G Γ H0 hB.1 hR hU a0 h0 p1 (by omega) (by omega) o cv t k1 ⟨by omega, by omega, by omega⟩ k3 (by omega)) rfl rfl ⟨by dsimp only; omega, by dsimp only; omega⟩ hB.1 h0 ro_46 rfl rfl hl.1 rfl (Nat.le_of_ble_eq_true rfl) gX12_readSum_0.2.2.1 ⟨Nat.le_refl _, Nat.le_refl _⟩) hB.2.1 (fun v2 H2 locs hp hz hS => ?_)
  obtain ⟨rfl, hI1, hf, hR, z2_0, z2_1, z2_2⟩ := hp
  have hB := th_B_c hB hI1 hS hf (by decide)
  have fv_H2_18 : mo_f G H2 a0 18 = mo_f G H0 a0 18 := mo_f_F hf h0 (by decide) (by decide)
  have vv_H2_15 : mo_v G H2 a0 15 = mo_v G H0 a0 15 := mo_v_F (r := 55) hB.1 hf h0 rfl ro_55 (by decide) (by decide)
  have wd_H2 := mo_wd_F hB.2.2 h0 (by decide) k3
  have cr_H2 : mo_rd G H2 a0 cv := mo_rd_F hB.1 hB.2.2 h0 (by decide) k1
  replace hF := hF.trans (dv_bn2 (z2_2))
  refine W.eq (g2 := F0 m 5 ls []) rfl ?_
  have lp5 : ∀ (n5 : Nat) (H5 : Heap) (locs : List Loc) (ls : Array Slot) , th_B G Γ Γ [(46, 19), (46, 20), (46, 21)] H0 H5 locs → th_RC G Γ H5 → lv_has ls 2 [(0, .ref a0), (1, .int p1)] → F = dv_lp (f_X12_readSum_5b d (f_X12_readTerm d)) (dv G Γ H5, (a0 : Int), p1.toInt) → (∃ m : Int, mo_f G H5 a0 19 = m ∧ t ≤ m ∧ m ≤ mo_f G H0 a0 18 ∧ (mo_f G H5 a0 21 = -1 → mo_f G H0 a0 21 = -1 ∧ mo_pre cv (mo_term o cv d) mo_add t m)) → mo_f G H0 a0 18 - mo_f G H5 a0 19 + 1 ≤ (n5 : Int) → W p l e ({ frames := 14 + 3 * d, cells := 0, slots := 0, locals := 443 + d * 80 } : Room) s m ([.ref a0, .int p1] : List Value).toArray below meth c H5 locs 0 0 (MQ below (th_Q (fun (v : Option Value) (H1 : Heap) => v = none ∧ th_I G Γ H1 ∧ th_F G Γ [(46, 19), (46, 20), (46, 21)] H0 H1 ∧ th_RC G Γ H1 ∧ (t ≤ mo_f G H1 a0 19 ∧ mo_f G H1 a0 19 ≤ mo_f G H0 a0 18) ∧ (mo_f G H1 a0 21 = -1 → mo_f G H0 a0 21 = -1 ∧ mo_sum o cv d t (mo_f G H1 a0 19)) ∧ (f_X12_readSum d (dv G Γ H0) (a0 : Int) p1.toInt = (dv G Γ H1, 0))) G) ([.ref a0, .int p1] : List Value).toArray s 0 0 (fun q => G.1.2.2 ≤ q)) (F0 m 5 ls []) := by
    intro n5
    induction n5 with
    | zero => intro H5 locs ls hB hR hl hF g5_0 hm5; exact absurd hm5 (by have := mo_lpr g5_0; omega)
    | succ n5 ih5 =>
      intro H5 locs ls hB hR hl hF g5_0 hm5
      have wd_H5 := mo_wd_F hB.2.2 h0 (by decide) k3
      have cr_H5 : mo_rd G H5 a0 cv := mo_rd_F hB.1 hB.2.2 h0 (by decide) k1
      have fv1_18 : mo_f G H5 a0 18 = mo_f G H0 a0 18 := mo_f_F hB.2.2 h0 (by decide) (by decide)
      have vw_H5_15 : mo_v G H5 a0 15 = mo_v G H0 a0 15 := mo_v_F (r := 55) hB.1 hB.2.2 h0 rfl ro_55 (by decide) (by decide)
      have hm5 : mo_f G H0 a0 18 - mo_f G H5 a0 19 + 1 ≤ (n5 : Int) + 1 := by omega
      replace hF := hF.trans (dv_lp_eq)
      replace hF := hF.trans (congrArg (dv_k (f_X12_readSum_5b d (f_X12_readTerm d))) (f_X12_readSum_5c.eq_1 d (f_X12_readTerm d) (dv G Γ H5) ((a0 : Int)) (p1.toInt)))
      refine lv_aload_n hx hb gX12_readSum_0.2.2.2.1 rfl (lv_at hl 0 rfl) ?_
      obtain ⟨m5, a5, b5, c5, e5⟩ := g5_0
      refine lv_bipush (v := 43) hx hb gX12_readSum_0.2.2.2.2.1 (by decide) ?_
      refine th_call (th_runS (As := [.int 43]) (rest := [.ref a0]) hC mf_X12_sign km_X12_240 st_X12_sign (c_X12_sign l G Γ H5 hB.1 hU 43 (by decide) (by decide)) rfl rfl ⟨by dsimp only; omega, by dsimp only; omega⟩ rfl hl.1 rfl (Nat.le_of_ble_eq_true rfl) gX12_readSum_0.2.2.2.2.2.1 ⟨Nat.le_refl _, Nat.le_refl _⟩) hB.2.1 (fun v8 H8 locs hp hz hS => ?_)
      obtain ⟨x2, rfl, lx2, ux2, q8_0, q8_1, rfl⟩ := hp
      have hB := th_B_s hB hS
      have w8_0 := tk_43
      have zf8 := q8_1
      rw [tk_43] at zf8
      replace hF := hF.trans (congrArg (dv_k (f_X12_readSum_5b d (f_X12_readTerm d))) (dv_bn2 (zf8)))
      refine W.eq (g2 := F0 m 11 ls [.int x2, .ref a0]) rfl ?_
      refine th_call (th_runV (As := [.int x2]) (rest := []) hC mf_X12_takes0 km_X12_199 im_X12_takes0 se_X12_takes0 (c_X12_takes0 l G Γ H5 hB.1 hR hU a0 h0 x2 (by omega) cv m5 cr_H5 ⟨by omega, by omega, by omega⟩) rfl rfl ⟨by dsimp only; omega, by dsimp only; omega⟩ hB.1 h0 ro_46 rfl rfl hl.1 rfl (Nat.le_of_ble_eq_true rfl) gX12_readSum_0.2.2.2.2.2.2.1 ⟨Nat.le_refl _, Nat.le_refl _⟩) hB.2.1 (fun v11 H11 locs hp hz hS => ?_)
      obtain ⟨x3, rfl, lx3, ux3, hI1, hf, hR, z11_0, z11_1, z11_2, z11_3⟩ := hp
      have hB := th_B_c hB hI1 hS hf (by decide)
      have fv_H11_18 : mo_f G H11 a0 18 = mo_f G H5 a0 18 := mo_f_F hf h0 (by decide) (by decide)
      have fv_H11_21 : mo_f G H11 a0 21 = mo_f G H5 a0 21 := mo_f_F hf h0 (by decide) (by decide)
      have vv_H11_15 : mo_v G H11 a0 15 = mo_v G H5 a0 15 := mo_v_F (r := 55) hB.1 hf h0 rfl ro_55 (by decide) (by decide)
      have wd_H11 := mo_wd_F hB.2.2 h0 (by decide) k3
      have cr_H11 : mo_rd G H11 a0 cv := mo_rd_F hB.1 hB.2.2 h0 (by decide) k1
      replace hF := hF.trans (congrArg (dv_k (f_X12_readSum_5b d (f_X12_readTerm d))) (dv_bn2 (z11_3)))
      refine W.eq (g2 := F0 m 14 ls [.int x3]) rfl ?_
      refine tr_if_ne (tgt := 29) hx hb gX12_readSum_0.2.2.2.2.2.2.2 (by decide) (Eq.refl _) (fun c14 => ?_) (fun c14 => ?_)
      · specialize z11_0 (by omega); clear z11_1
        replace hF := hF.trans (congrArg (dv_k (f_X12_readSum_5b d (f_X12_readTerm d))) (if_pos c14))
        refine lv_aload_n hx hb gX12_readSum_1.2.2.2.2.2.1 rfl (lv_at hl 0 rfl) ?_
        refine lv_iload_n hx hb gX12_readSum_1.2.2.2.2.2.2.1 rfl (lv_at hl 1 rfl) ?_
        refine th_call (th_runV (As := [.int p1]) (rest := []) hC mf_X12_readTerm km_X12_244 im_X12_readTerm se_X12_readTerm (ihp l G Γ H11 hB.1 hR hU a0 h0 p1 (by omega) (by omega) o cv (m5 + 1) cr_H11 ⟨by omega, by omega, by omega⟩ wd_H11 (by omega)) rfl rfl ⟨by dsimp only; omega, by dsimp only; omega⟩ hB.1 h0 ro_46 rfl rfl hl.1 rfl (Nat.le_of_ble_eq_true rfl) gX12_readSum_1.2.2.2.2.2.2.2 ⟨Nat.le_refl _, Nat.le_refl _⟩) hB.2.1 (fun v31 H31 locs hp hz hS => ?_)
        obtain ⟨rfl, hI1, hf, hR, z31_0, z31_1, z31_2⟩ := hp
        have hB := th_B_c hB hI1 hS hf (by decide)
        have fv_H31_18 : mo_f G H31 a0 18 = mo_f G H11 a0 18 := mo_f_F hf h0 (by decide) (by decide)
        have vv_H31_15 : mo_v G H31 a0 15 = mo_v G H11 a0 15 := mo_v_F (r := 55) hB.1 hf h0 rfl ro_55 (by decide) (by decide)
        have wd_H31 := mo_wd_F hB.2.2 h0 (by decide) k3
        have cr_H31 : mo_rd G H31 a0 cv := mo_rd_F hB.1 hB.2.2 h0 (by decide) k1
        replace hF := hF.trans (congrArg (dv_k (f_X12_readSum_5b d (f_X12_readTerm d))) (dv_bn2 (z31_2)))
        refine W.eq (g2 := F0 m 34 ls []) rfl ?_
        refine lv_goto (tgt := 5) hx hb gX12_readSum_2.1 (by decide) ?_
        replace hF := hF.trans (dv_kl)
        exact ih5 H31 locs ls hB hR (lv_sub hl [0, 1] rfl) hF ⟨_, rfl, by omega, by omega, fun h9 => by obtain ⟨q3, q4⟩ := z31_1 h9; obtain ⟨q1, q2⟩ := e5 (by omega); exact ⟨q1, mo_pre_s q2 (show cv m5 = 143 ∨ cv m5 = 145 by omega) q4⟩⟩ (by omega)
      · specialize z11_1 (by omega); clear z11_0
        replace hF := hF.trans (congrArg (dv_k (f_X12_readSum_5b d (f_X12_readTerm d))) (if_neg (not_not_intro c14)))
        refine lv_aload_n hx hb gX12_readSum_1.1 rfl (lv_at hl 0 rfl) ?_
        refine lv_bipush (v := 45) hx hb gX12_readSum_1.2.1 (by decide) ?_
        refine th_call (th_runS (As := [.int 45]) (rest := [.ref a0]) hC mf_X12_sign km_X12_240 st_X12_sign (c_X12_sign l G Γ H11 hB.1 hU 45 (by decide) (by decide)) rfl rfl ⟨by dsimp only; omega, by dsimp only; omega⟩ rfl hl.1 rfl (Nat.le_of_ble_eq_true rfl) gX12_readSum_1.2.2.1 ⟨Nat.le_refl _, Nat.le_refl _⟩) hB.2.1 (fun v20 H20 locs hp hz hS => ?_)
        obtain ⟨x4, rfl, lx4, ux4, q20_0, q20_1, rfl⟩ := hp
        have hB := th_B_s hB hS
        have w20_0 := tk_45
        have zf20 := q20_1
        rw [tk_45] at zf20
        replace hF := hF.trans (congrArg (dv_k (f_X12_readSum_5b d (f_X12_readTerm d))) (dv_bn2 (zf20)))
        refine W.eq (g2 := F0 m 23 ls [.int x4, .ref a0]) rfl ?_
        refine th_call (th_runV (As := [.int x4]) (rest := []) hC mf_X12_takes0 km_X12_199 im_X12_takes0 se_X12_takes0 (c_X12_takes0 l G Γ H11 hB.1 hR hU a0 h0 x4 (by omega) cv m5 cr_H11 ⟨by omega, by omega, by omega⟩) rfl rfl ⟨by dsimp only; omega, by dsimp only; omega⟩ hB.1 h0 ro_46 rfl rfl hl.1 rfl (Nat.le_of_ble_eq_true rfl) gX12_readSum_1.2.2.2.1 ⟨Nat.le_refl _, Nat.le_refl _⟩) hB.2.1 (fun v23 H23 locs hp hz hS => ?_)
        obtain ⟨x5, rfl, lx5, ux5, hI1, hf, hR, z23_0, z23_1, z23_2, z23_3⟩ := hp
        have hB := th_B_c hB hI1 hS hf (by decide)
        have fv_H23_18 : mo_f G H23 a0 18 = mo_f G H11 a0 18 := mo_f_F hf h0 (by decide) (by decide)
        have fv_H23_21 : mo_f G H23 a0 21 = mo_f G H11 a0 21 := mo_f_F hf h0 (by decide) (by decide)
        have vv_H23_15 : mo_v G H23 a0 15 = mo_v G H11 a0 15 := mo_v_F (r := 55) hB.1 hf h0 rfl ro_55 (by decide) (by decide)
        have wd_H23 := mo_wd_F hB.2.2 h0 (by decide) k3
        have cr_H23 : mo_rd G H23 a0 cv := mo_rd_F hB.1 hB.2.2 h0 (by decide) k1
        replace hF := hF.trans (congrArg (dv_k (f_X12_readSum_5b d (f_X12_readTerm d))) (dv_bn2 (z23_3)))
        refine W.eq (g2 := F0 m 26 ls [.int x5]) rfl ?_
        refine tr_if_eq (tgt := 37) hx hb gX12_readSum_1.2.2.2.2.1 (by decide) (Eq.refl _) (fun c26 => ?_) (fun c26 => ?_)
        · specialize z23_1 (by omega); clear z23_0
          replace hF := hF.trans (congrArg (dv_k (f_X12_readSum_5b d (f_X12_readTerm d))) (if_pos c26))
          replace hF := hF.trans (dv_kr)
          exact th_vret hC hH hr hlocks hB.2.1 ⟨rfl, hB.1, hB.2.2, hR, ⟨by omega, by omega⟩, fun h9 => by obtain ⟨q1, q2⟩ := e5 (by omega); exact ⟨q1, by rw [show mo_f G H23 a0 19 = m5 by omega]; exact mo_pre_e q2 (show ¬ (cv m5 = 143 ∨ cv m5 = 145) by omega)⟩, (hF0.symm.trans hF)⟩ gX12_readSum_2.2
        · specialize z23_0 (by omega); clear z23_1
          replace hF := hF.trans (congrArg (dv_k (f_X12_readSum_5b d (f_X12_readTerm d))) (if_neg c26))
          refine lv_aload_n hx hb gX12_readSum_1.2.2.2.2.2.1 rfl (lv_at hl 0 rfl) ?_
          refine lv_iload_n hx hb gX12_readSum_1.2.2.2.2.2.2.1 rfl (lv_at hl 1 rfl) ?_
          refine th_call (th_runV (As := [.int p1]) (rest := []) hC mf_X12_readTerm km_X12_244 im_X12_readTerm se_X12_readTerm (ihp l G Γ H23 hB.1 hR hU a0 h0 p1 (by omega) (by omega) o cv (m5 + 1) cr_H23 ⟨by omega, by omega, by omega⟩ wd_H23 (by omega)) rfl rfl ⟨by dsimp only; omega, by dsimp only; omega⟩ hB.1 h0 ro_46 rfl rfl hl.1 rfl (Nat.le_of_ble_eq_true rfl) gX12_readSum_1.2.2.2.2.2.2.2 ⟨Nat.le_refl _, Nat.le_refl _⟩) hB.2.1 (fun v31 H31 locs hp hz hS => ?_)
          obtain ⟨rfl, hI1, hf, hR, z31_0, z31_1, z31_2⟩ := hp
          have hB := th_B_c hB hI1 hS hf (by decide)
          have fv_H31_18 : mo_f G H31 a0 18 = mo_f G H23 a0 18 := mo_f_F hf h0 (by decide) (by decide)
          have vv_H31_15 : mo_v G H31 a0 15 = mo_v G H23 a0 15 := mo_v_F (r := 55) hB.1 hf h0 rfl ro_55 (by decide) (by decide)
          have wd_H31 := mo_wd_F hB.2.2 h0 (by decide) k3
          have cr_H31 : mo_rd G H31 a0 cv := mo_rd_F hB.1 hB.2.2 h0 (by decide) k1
          replace hF := hF.trans (congrArg (dv_k (f_X12_readSum_5b d (f_X12_readTerm d))) (dv_bn2 (z31_2)))
          refine W.eq (g2 := F0 m 34 ls []) rfl ?_
          refine lv_goto (tgt := 5) hx hb gX12_readSum_2.1 (by decide) ?_
          replace hF := hF.trans (dv_kl)
          exact ih5 H31 locs ls hB hR (lv_sub hl [0, 1] rfl) hF ⟨_, rfl, by omega, by omega, fun h9 => by obtain ⟨q3, q4⟩ := z31_1 h9; obtain ⟨q1, q2⟩ := e5 (by omega); exact ⟨q1, mo_pre_s q2 (show cv m5 = 143 ∨ cv m5 = 145 by omega) q4⟩⟩ (by omega)
  exact lp5 (mo_f G H0 a0 18 - mo_f G H2 a0 19 + 1).toNat H2 locs ls hB hR (lv_sub hl [0, 1] rfl) hF ⟨_, rfl, by omega, by omega, fun h9 => ⟨(z2_1 h9).1, mo_pre_0 (z2_1 h9).2⟩⟩ (by omega)

theorem c_X12_readSum_d (d : Nat) : s_X12_readSum d := by
  induction d with
  | zero => exact (c_X12_readSum_s 0 (c_X12_readTerm_s 0 (c_X12_readPart_s 0 (fun d' h => absurd h (by omega)))))
  | succ d ih => exact (c_X12_readSum_s (d + 1) (c_X12_readTerm_s (d + 1) (c_X12_readPart_s (d + 1) (fun d' h => by cases h; exact ih))))
theorem c_X12_readPart_d (d : Nat) : s_X12_readPart d := c_X12_readPart_s d (fun d' _ => c_X12_readSum_d d')
theorem c_X12_readTerm_d (d : Nat) : s_X12_readTerm d := c_X12_readTerm_s d (c_X12_readPart_d d)
end
section
def s_X12_readPlain (d : Nat) : Prop := ∀ (l : Launch) (G : th_G) (Γ : th_Ga) (H0 : Heap) (hI : th_I G Γ H0) (hR : th_RC G Γ H0) (hU : dv_U Γ) (a0 : Nat) (h0 : Γ a0 = (46, 0)) (p1 : Int32) (f1 : 0 ≤ p1.toInt) (g1 : p1.toInt ≤ 8) (o : Int) (cv : Int → Int) (t : Int) (k1 : mo_rd G H0 a0 cv) (k2 : mo_f G H0 a0 19 = t ∧ 0 ≤ t ∧ t ≤ mo_f G H0 a0 18) (k3 : mo_wd G H0 a0 o) (k4 : p1.toInt + (d : Int) = 8), Met l yX12_readPlain (.code yX12_readPlain cX12_readPlain 4 (none) :: th_tb) ({ frames := 44 + 3 * d, cells := 0, slots := 0, locals := 1300 + d * 100 } : Room) (th_P [.ref a0, .int p1] G H0) (th_Q (fun (v : Option Value) (H1 : Heap) => v = none ∧ th_I G Γ H1 ∧ th_F G Γ [(46, 19), (46, 20), (46, 21)] H0 H1 ∧ th_RC G Γ H1 ∧ (t ≤ mo_f G H1 a0 19 ∧ mo_f G H1 a0 19 ≤ mo_f G H0 a0 18) ∧ (mo_f G H1 a0 21 = -1 → mo_f G H0 a0 21 = -1 ∧ mo_plain o cv d t (mo_f G H1 a0 19)) ∧ (f_X12_readPlain d (dv G Γ H0) (a0 : Int) p1.toInt = (dv G Γ H1, 0))) G) 0 0 (fun q => G.1.2.2 ≤ q)

def s_X12_readBoth (d : Nat) : Prop := ∀ (l : Launch) (G : th_G) (Γ : th_Ga) (H0 : Heap) (hI : th_I G Γ H0) (hR : th_RC G Γ H0) (hU : dv_U Γ) (a0 : Nat) (h0 : Γ a0 = (46, 0)) (p1 : Int32) (f1 : 0 ≤ p1.toInt) (g1 : p1.toInt ≤ 8) (o : Int) (cv : Int → Int) (t : Int) (k1 : mo_rd G H0 a0 cv) (k2 : mo_f G H0 a0 19 = t ∧ 0 ≤ t ∧ t ≤ mo_f G H0 a0 18) (k3 : mo_wd G H0 a0 o) (k4 : p1.toInt + (d : Int) = 8), Met l yX12_readBoth (.code yX12_readBoth cX12_readBoth 2 (none) :: th_tb) ({ frames := 45 + 3 * d, cells := 0, slots := 0, locals := 1323 + d * 100 } : Room) (th_P [.ref a0, .int p1] G H0) (th_Q (fun (v : Option Value) (H1 : Heap) => v = none ∧ th_I G Γ H1 ∧ th_F G Γ [(46, 19), (46, 20), (46, 21)] H0 H1 ∧ th_RC G Γ H1 ∧ (t ≤ mo_f G H1 a0 19 ∧ mo_f G H1 a0 19 ≤ mo_f G H0 a0 18) ∧ (mo_f G H1 a0 21 = -1 → mo_f G H0 a0 21 = -1 ∧ mo_both o cv d t (mo_f G H1 a0 19)) ∧ (f_X12_readBoth d (dv G Γ H0) (a0 : Int) p1.toInt = (dv G Γ H1, 0))) G) 0 0 (fun q => G.1.2.2 ≤ q)

def s_X12_readTest (d : Nat) : Prop := ∀ (l : Launch) (G : th_G) (Γ : th_Ga) (H0 : Heap) (hI : th_I G Γ H0) (hR : th_RC G Γ H0) (hU : dv_U Γ) (a0 : Nat) (h0 : Γ a0 = (46, 0)) (p1 : Int32) (f1 : 0 ≤ p1.toInt) (g1 : p1.toInt ≤ 8) (o : Int) (cv : Int → Int) (t : Int) (k1 : mo_rd G H0 a0 cv) (k2 : mo_f G H0 a0 19 = t ∧ 0 ≤ t ∧ t ≤ mo_f G H0 a0 18) (k3 : mo_wd G H0 a0 o) (k4 : p1.toInt + (d : Int) = 8), Met l yX12_readTest (.code yX12_readTest cX12_readTest 2 (none) :: th_tb) ({ frames := 46 + 3 * d, cells := 0, slots := 0, locals := 1344 + d * 100 } : Room) (th_P [.ref a0, .int p1] G H0) (th_Q (fun (v : Option Value) (H1 : Heap) => v = none ∧ th_I G Γ H1 ∧ th_F G Γ [(46, 19), (46, 20), (46, 21)] H0 H1 ∧ th_RC G Γ H1 ∧ (t ≤ mo_f G H1 a0 19 ∧ mo_f G H1 a0 19 ≤ mo_f G H0 a0 18) ∧ (mo_f G H1 a0 21 = -1 → mo_f G H0 a0 21 = -1 ∧ mo_test o cv d t (mo_f G H1 a0 19)) ∧ (f_X12_readTest d (dv G Γ H0) (a0 : Int) p1.toInt = (dv G Γ H1, 0))) G) 0 0 (fun q => G.1.2.2 ≤ q)

set_option maxHeartbeats 4000000 in
set_option maxRecDepth 100000 in
theorem c_X12_readPlain_s (d : Nat) (ihd : ∀ d', d = d' + 1 → s_X12_readTest d') : s_X12_readPlain d := by
  intro l G Γ H0 hI hR hU a0 h0 p1 f1 g1 o cv t k1 k2 k3 k4
  refine th_met RX12 (by decide) rfl (Nat.le_of_ble_eq_true rfl) ?_
  intro p e s m below meth c hC hH hr hlocks hnm ls hl
  have hx := hC.1
  have hb := hC.2.1
  have hB : th_B G Γ Γ [(46, 19), (46, 20), (46, 21)] H0 H0 [] := ⟨hI, va_S.rf, th_F_rf⟩
  have hl : lv_has ls 4 [(0, .ref a0), (1, .int p1)] := hl
  have lp1 := ti_lo p1; have up1 := ti_hi p1
  obtain ⟨F, hF0⟩ : ∃ F, F = f_X12_readPlain d (dv G Γ H0) ((a0 : Int)) (p1.toInt) := ⟨_, rfl⟩
  have hF := hF0.trans ((f_X12_readPlain_d d (dv G Γ H0) ((a0 : Int)) (p1.toInt)).trans (f_X12_readPlain_B.eq_1 d (dv_pre (fun _ _ _ => dv_z) f_X12_readTest d) (dv G Γ H0) ((a0 : Int)) (p1.toInt)))
  refine lv_iconst (v := 1) hx hb gX12_readPlain_0.1 (by decide) ?_
  refine lv_istore_n (lv' := [(2, .int 1), (0, .ref a0), (1, .int p1)]) hx hb gX12_readPlain_0.2.1 rfl hl (by decide) rfl (fun ls hl => ?_)
  have lp2 : ∀ (n2 : Nat) (H2 : Heap) (locs : List Loc) (ls : Array Slot) (j2_2 : Int32), th_B G Γ Γ [(46, 19), (46, 20), (46, 21)] H0 H2 locs → th_RC G Γ H2 → lv_has ls 4 [(0, .ref a0), (1, .int p1), (2, .int j2_2)] → F = dv_lp (f_X12_readPlain_2b d (dv_pre (fun _ _ _ => dv_z) f_X12_readTest d)) (dv G Γ H2, (a0 : Int), p1.toInt, j2_2.toInt) → 0 ≤ j2_2.toInt → j2_2.toInt ≤ 1 → (∃ m : Int, mo_f G H2 a0 19 = m ∧ t ≤ m ∧ m ≤ mo_f G H0 a0 18 ∧ mo_npre cv (mo_pos o cv d) t m ∧ (j2_2.toInt = 0 → mo_f G H0 a0 21 = -1 → cv m ≠ 7)) → mo_f G H2 a0 21 = mo_f G H0 a0 21 → 2 * (mo_f G H0 a0 18 - mo_f G H2 a0 19) + j2_2.toInt + 1 ≤ (n2 : Int) → W p l e ({ frames := 44 + 3 * d, cells := 0, slots := 0, locals := 1300 + d * 100 } : Room) s m ([.ref a0, .int p1] : List Value).toArray below meth c H2 locs 0 0 (MQ below (th_Q (fun (v : Option Value) (H1 : Heap) => v = none ∧ th_I G Γ H1 ∧ th_F G Γ [(46, 19), (46, 20), (46, 21)] H0 H1 ∧ th_RC G Γ H1 ∧ (t ≤ mo_f G H1 a0 19 ∧ mo_f G H1 a0 19 ≤ mo_f G H0 a0 18) ∧ (mo_f G H1 a0 21 = -1 → mo_f G H0 a0 21 = -1 ∧ mo_plain o cv d t (mo_f G H1 a0 19)) ∧ (f_X12_readPlain d (dv G Γ H0) (a0 : Int) p1.toInt = (dv G Γ H1, 0))) G) ([.ref a0, .int p1] : List Value).toArray s 0 0 (fun q => G.1.2.2 ≤ q)) (F0 m 2 ls []) := by
    intro n2
    induction n2 with
    | zero => intro H2 locs ls j2_2 hB hR hl hF g2_0 g2_1 g2_2 g2_3 hm2; exact absurd hm2 (by have := mo_lpr g2_2; omega)
    | succ n2 ih2 =>
      intro H2 locs ls j2_2 hB hR hl hF g2_0 g2_1 g2_2 g2_3 hm2
      have lj2_2 := ti_lo j2_2; have uj2_2 := ti_hi j2_2
      have wd_H2 := mo_wd_F hB.2.2 h0 (by decide) k3
      have cr_H2 : mo_rd G H2 a0 cv := mo_rd_F hB.1 hB.2.2 h0 (by decide) k1
      have fv1_18 : mo_f G H2 a0 18 = mo_f G H0 a0 18 := mo_f_F hB.2.2 h0 (by decide) (by decide)
      have vw_H2_15 : mo_v G H2 a0 15 = mo_v G H0 a0 15 := mo_v_F (r := 55) hB.1 hB.2.2 h0 rfl ro_55 (by decide) (by decide)
      have hm2 : 2 * (mo_f G H0 a0 18 - mo_f G H2 a0 19) + j2_2.toInt + 1 ≤ (n2 : Int) + 1 := by omega
      replace hF := hF.trans (dv_lp_eq)
      replace hF := hF.trans (congrArg (dv_k (f_X12_readPlain_2b d (dv_pre (fun _ _ _ => dv_z) f_X12_readTest d))) (f_X12_readPlain_2c.eq_1 d (dv_pre (fun _ _ _ => dv_z) f_X12_readTest d) (dv G Γ H2) ((a0 : Int)) (p1.toInt) (j2_2.toInt)))
      refine lv_iload_n hx hb gX12_readPlain_0.2.2.1 rfl (lv_at hl 2 rfl) ?_
      obtain ⟨m2, a2, b2, c2, n2, e2⟩ := g2_2
      refine tr_if_eq (tgt := 16) hx hb gX12_readPlain_0.2.2.2.1 (by decide) (Eq.refl _) (fun c3 => ?_) (fun c3 => ?_)
      · replace hF := hF.trans (congrArg (dv_k (f_X12_readPlain_2b d (dv_pre (fun _ _ _ => dv_z) f_X12_readTest d))) (if_pos c3))
        refine lv_aload_n hx hb gX12_readPlain_1.2.1 rfl (lv_at hl 0 rfl) ?_
        refine th_call (th_runV (As := []) (rest := []) hC mf_X12_fine km_X12_192 im_X12_fine se_X12_fine (c_X12_fine l G Γ H2 hB.1 hU a0 h0) rfl rfl ⟨by dsimp only; omega, by dsimp only; omega⟩ hB.1 h0 ro_46 rfl rfl hl.1 rfl (Nat.le_of_ble_eq_true rfl) gX12_readPlain_1.2.2.1 ⟨Nat.le_refl _, Nat.le_refl _⟩) hB.2.1 (fun v17 H17 locs hp hz hS => ?_)
        obtain ⟨x2, rfl, lx2, ux2, q17_0, q17_1, q17_2, rfl⟩ := hp
        have hB := th_B_s hB hS
        replace hF := hF.trans (congrArg (dv_k (f_X12_readPlain_2b d (dv_pre (fun _ _ _ => dv_z) f_X12_readTest d))) (dv_bn2 (q17_2)))
        refine W.eq (g2 := F0 m 20 ls [.int x2]) rfl ?_
        refine tr_if_ne (tgt := 24) hx hb gX12_readPlain_1.2.2.2.1 (by decide) (Eq.refl _) (fun c20 => ?_) (fun c20 => ?_)
        · specialize q17_0 (by omega); clear q17_1
          replace hF := hF.trans (congrArg (dv_k (f_X12_readPlain_2b d (dv_pre (fun _ _ _ => dv_z) f_X12_readTest d))) (if_pos c20))
          refine lv_aload_n hx hb gX12_readPlain_1.2.2.2.2.2.1 rfl (lv_at hl 0 rfl) ?_
          refine th_getO (j := 15) (r2 := 55) hC cf_X12 hB.1 h0 ro_46 rfl rfl kf_X12_54 gX12_readPlain_1.2.2.2.2.2.2.1 (fun b3 mb3 hb3 => ?_)
          refine lv_aload_n hx hb gX12_readPlain_1.2.2.2.2.2.2.2 rfl (lv_at hl 0 rfl) ?_
          refine th_getI (j := 19) hC cf_X12 hB.1 h0 ro_46 rfl rfl kf_X12_196 gX12_readPlain_2.1 (fun x4 mx4 lx4 ux4 => ?_)
          replace hF := hF.trans (congrArg (dv_k (f_X12_readPlain_2b d (dv_pre (fun _ _ _ => dv_z) f_X12_readTest d))) (dv_bn (dv_getI h0 ro_46 (j := 19) rfl mx4 (by decide))))
          have fg5 : mo_f G H2 a0 19 = x4.toInt := mo_fat mx4
          refine th_ialdF hC hB.1 hb3 ro_55 rfl (Eq.refl _) (by omega) (by omega) rfl gX12_readPlain_2.2.1 (fun x6 mx6 lx6 ux6 => ?_)
          replace hF := hF.trans (congrArg (dv_k (f_X12_readPlain_2b d (dv_pre (fun _ _ _ => dv_z) f_X12_readTest d))) (dv_bn (dv_aldI hB.1 hU hb3 ow_55 (z := x4.toInt) mx6 (by omega))))
          have vgx6 : mo_v G H0 a0 15 x4.toInt = x6.toInt := by rw [← (mo_v_F (r := 55) hB.1 hB.2.2 h0 rfl ro_55 (by decide) (by decide) : mo_v G H2 a0 15 = _)]; rw [show (x4.toInt : Int) = x4.toInt by omega]; exact mo_vat mb3 mx6 (by omega)
          have rc32 : cv m2 = x6.toInt := by have q9 := mo_rd_at k1 vgx6 (by omega) (by omega); rw [← q9]; congr 1; omega
          refine lv_istore_n (lv' := [(3, .int x6), (0, .ref a0), (1, .int p1), (2, .int j2_2)]) hx hb gX12_readPlain_2.2.2.1 rfl hl (by decide) rfl (fun ls hl => ?_)
          refine lv_iload_n hx hb gX12_readPlain_2.2.2.2.1 rfl (lv_at hl 0 rfl) ?_
          refine lv_bipush (v := 40) hx hb gX12_readPlain_2.2.2.2.2.1 (by decide) ?_
          refine th_call (th_runS (As := [.int 40]) (rest := [.int x6]) hC mf_X12_sign km_X12_240 st_X12_sign (c_X12_sign l G Γ H2 hB.1 hU 40 (by decide) (by decide)) rfl rfl ⟨by dsimp only; omega, by dsimp only; omega⟩ rfl hl.1 rfl (Nat.le_of_ble_eq_true rfl) gX12_readPlain_2.2.2.2.2.2.1 ⟨Nat.le_refl _, Nat.le_refl _⟩) hB.2.1 (fun v37 H37 locs hp hz hS => ?_)
          obtain ⟨x7, rfl, lx7, ux7, q37_0, q37_1, rfl⟩ := hp
          have hB := th_B_s hB hS
          have w37_0 := tk_40
          have zf37 := q37_1
          rw [tk_40] at zf37
          replace hF := hF.trans (congrArg (dv_k (f_X12_readPlain_2b d (dv_pre (fun _ _ _ => dv_z) f_X12_readTest d))) (dv_bn2 (zf37)))
          refine W.eq (g2 := F0 m 40 ls [.int x7, .int x6]) rfl ?_
          refine tr_icmp_ne (tgt := 90) hx hb gX12_readPlain_2.2.2.2.2.2.2.1 (by decide) (Eq.refl _) (Eq.refl _) (fun c40 => ?_) (fun c40 => ?_)
          · replace hF := hF.trans (congrArg (dv_k (f_X12_readPlain_2b d (dv_pre (fun _ _ _ => dv_z) f_X12_readTest d))) (if_pos c40))
            refine lv_aload_n hx hb gX12_readPlain_6.1 rfl (lv_at hl 1 rfl) ?_
            refine lv_iload_n hx hb gX12_readPlain_6.2.1 rfl (lv_at hl 2 rfl) ?_
            refine th_call (th_runV (As := [.int p1]) (rest := []) hC mf_X12_readSum km_X12_208 im_X12_readSum se_X12_readSum (c_X12_readSum_d d l G Γ H2 hB.1 hR hU a0 h0 p1 (by omega) (by omega) o cv m2 cr_H2 ⟨by omega, by omega, by omega⟩ wd_H2 (by omega)) rfl rfl ⟨by dsimp only; omega, by dsimp only; omega⟩ hB.1 h0 ro_46 rfl rfl hl.1 rfl (Nat.le_of_ble_eq_true rfl) gX12_readPlain_6.2.2.1 ⟨Nat.le_refl _, Nat.le_refl _⟩) hB.2.1 (fun v92 H92 locs hp hz hS => ?_)
            obtain ⟨rfl, hI1, hf, hR, z92_0, z92_1, z92_2⟩ := hp
            have hB := th_B_c hB hI1 hS hf (by decide)
            have fv_H92_18 : mo_f G H92 a0 18 = mo_f G H2 a0 18 := mo_f_F hf h0 (by decide) (by decide)
            have vv_H92_15 : mo_v G H92 a0 15 = mo_v G H2 a0 15 := mo_v_F (r := 55) hB.1 hf h0 rfl ro_55 (by decide) (by decide)
            have wd_H92 := mo_wd_F hB.2.2 h0 (by decide) k3
            have cr_H92 : mo_rd G H92 a0 cv := mo_rd_F hB.1 hB.2.2 h0 (by decide) k1
            replace hF := hF.trans (congrArg (dv_k (f_X12_readPlain_2b d (dv_pre (fun _ _ _ => dv_z) f_X12_readTest d))) (dv_bn2 (z92_2)))
            refine W.eq (g2 := F0 m 95 ls []) rfl ?_
            refine lv_aload_n hx hb gX12_readPlain_6.2.2.2.1 rfl (lv_at hl 1 rfl) ?_
            refine lv_bipush (v := 60) hx hb gX12_readPlain_6.2.2.2.2.1 (by decide) ?_
            refine th_call (th_runS (As := [.int 60]) (rest := [.ref a0]) hC mf_X12_sign km_X12_240 st_X12_sign (c_X12_sign l G Γ H92 hB.1 hU 60 (by decide) (by decide)) rfl rfl ⟨by dsimp only; omega, by dsimp only; omega⟩ rfl hl.1 rfl (Nat.le_of_ble_eq_true rfl) gX12_readPlain_6.2.2.2.2.2.1 ⟨Nat.le_refl _, Nat.le_refl _⟩) hB.2.1 (fun v98 H98 locs hp hz hS => ?_)
            obtain ⟨x8, rfl, lx8, ux8, q98_0, q98_1, rfl⟩ := hp
            have hB := th_B_s hB hS
            have w98_0 := tk_60
            have zf98 := q98_1
            rw [tk_60] at zf98
            replace hF := hF.trans (congrArg (dv_k (f_X12_readPlain_2b d (dv_pre (fun _ _ _ => dv_z) f_X12_readTest d))) (dv_bn2 (zf98)))
            refine W.eq (g2 := F0 m 101 ls [.int x8, .ref a0]) rfl ?_
            refine th_call (th_runV (As := [.int x8]) (rest := []) hC mf_X12_takes0 km_X12_199 im_X12_takes0 se_X12_takes0 (c_X12_takes0 l G Γ H92 hB.1 hR hU a0 h0 x8 (by omega) cv (mo_f G H92 a0 19) cr_H92 ⟨by omega, by omega, by omega⟩) rfl rfl ⟨by dsimp only; omega, by dsimp only; omega⟩ hB.1 h0 ro_46 rfl rfl hl.1 rfl (Nat.le_of_ble_eq_true rfl) gX12_readPlain_6.2.2.2.2.2.2.1 ⟨Nat.le_refl _, Nat.le_refl _⟩) hB.2.1 (fun v101 H101 locs hp hz hS => ?_)
            obtain ⟨x9, rfl, lx9, ux9, hI1, hf, hR, z101_0, z101_1, z101_2, z101_3⟩ := hp
            have hB := th_B_c hB hI1 hS hf (by decide)
            have fv_H101_18 : mo_f G H101 a0 18 = mo_f G H92 a0 18 := mo_f_F hf h0 (by decide) (by decide)
            have fv_H101_21 : mo_f G H101 a0 21 = mo_f G H92 a0 21 := mo_f_F hf h0 (by decide) (by decide)
            have vv_H101_15 : mo_v G H101 a0 15 = mo_v G H92 a0 15 := mo_v_F (r := 55) hB.1 hf h0 rfl ro_55 (by decide) (by decide)
            have wd_H101 := mo_wd_F hB.2.2 h0 (by decide) k3
            have cr_H101 : mo_rd G H101 a0 cv := mo_rd_F hB.1 hB.2.2 h0 (by decide) k1
            replace hF := hF.trans (congrArg (dv_k (f_X12_readPlain_2b d (dv_pre (fun _ _ _ => dv_z) f_X12_readTest d))) (dv_bn2 (z101_3)))
            refine W.eq (g2 := F0 m 104 ls [.int x9]) rfl ?_
            refine tr_if_ne (tgt := 128) hx hb gX12_readPlain_6.2.2.2.2.2.2.2 (by decide) (Eq.refl _) (fun c104 => ?_) (fun c104 => ?_)
            · specialize z101_0 (by omega); clear z101_1
              replace hF := hF.trans (congrArg (dv_k (f_X12_readPlain_2b d (dv_pre (fun _ _ _ => dv_z) f_X12_readTest d))) (if_pos c104))
              refine lv_aload_n hx hb gX12_readPlain_8.2.1 rfl (lv_at hl 1 rfl) ?_
              refine lv_iload_n hx hb gX12_readPlain_8.2.2.1 rfl (lv_at hl 2 rfl) ?_
              refine th_call (th_runV (As := [.int p1]) (rest := []) hC mf_X12_readSum km_X12_208 im_X12_readSum se_X12_readSum (c_X12_readSum_d d l G Γ H101 hB.1 hR hU a0 h0 p1 (by omega) (by omega) o cv (mo_f G H101 a0 19) cr_H101 ⟨by omega, by omega, by omega⟩ wd_H101 (by omega)) rfl rfl ⟨by dsimp only; omega, by dsimp only; omega⟩ hB.1 h0 ro_46 rfl rfl hl.1 rfl (Nat.le_of_ble_eq_true rfl) gX12_readPlain_8.2.2.2.1 ⟨Nat.le_refl _, Nat.le_refl _⟩) hB.2.1 (fun v130 H130 locs hp hz hS => ?_)
              obtain ⟨rfl, hI1, hf, hR, z130_0, z130_1, z130_2⟩ := hp
              have hB := th_B_c hB hI1 hS hf (by decide)
              have fv_H130_18 : mo_f G H130 a0 18 = mo_f G H101 a0 18 := mo_f_F hf h0 (by decide) (by decide)
              have vv_H130_15 : mo_v G H130 a0 15 = mo_v G H101 a0 15 := mo_v_F (r := 55) hB.1 hf h0 rfl ro_55 (by decide) (by decide)
              have wd_H130 := mo_wd_F hB.2.2 h0 (by decide) k3
              have cr_H130 : mo_rd G H130 a0 cv := mo_rd_F hB.1 hB.2.2 h0 (by decide) k1
              replace hF := hF.trans (congrArg (dv_k (f_X12_readPlain_2b d (dv_pre (fun _ _ _ => dv_z) f_X12_readTest d))) (dv_bn2 (z130_2)))
              refine W.eq (g2 := F0 m 133 ls []) rfl ?_
              replace hF := hF.trans (dv_kr)
              exact th_vret hC hH hr hlocks hB.2.1 ⟨rfl, hB.1, hB.2.2, hR, ⟨by omega, by omega⟩, fun h9 => by obtain ⟨q1, q2⟩ := z130_1 h9; obtain ⟨q6, q7, q8⟩ := z101_0; obtain ⟨q4, q5⟩ := z92_1 (by omega); rw [q8] at q2; exact ⟨by omega, n2 _ (mo_nots_0 (by omega) (mo_pos_c ⟨_, q5, by omega, q2⟩))⟩, (hF0.symm.trans hF)⟩ gX12_readPlain_8.2.2.2.2
            · specialize z101_1 (by omega); clear z101_0
              replace hF := hF.trans (congrArg (dv_k (f_X12_readPlain_2b d (dv_pre (fun _ _ _ => dv_z) f_X12_readTest d))) (if_neg (not_not_intro c104)))
              refine lv_aload_n hx hb gX12_readPlain_7.1 rfl (lv_at hl 1 rfl) ?_
              refine lv_bipush (v := 62) hx hb gX12_readPlain_7.2.1 (by decide) ?_
              refine th_call (th_runS (As := [.int 62]) (rest := [.ref a0]) hC mf_X12_sign km_X12_240 st_X12_sign (c_X12_sign l G Γ H101 hB.1 hU 62 (by decide) (by decide)) rfl rfl ⟨by dsimp only; omega, by dsimp only; omega⟩ rfl hl.1 rfl (Nat.le_of_ble_eq_true rfl) gX12_readPlain_7.2.2.1 ⟨Nat.le_refl _, Nat.le_refl _⟩) hB.2.1 (fun v110 H110 locs hp hz hS => ?_)
              obtain ⟨x10, rfl, lx10, ux10, q110_0, q110_1, rfl⟩ := hp
              have hB := th_B_s hB hS
              have w110_0 := tk_62
              have zf110 := q110_1
              rw [tk_62] at zf110
              replace hF := hF.trans (congrArg (dv_k (f_X12_readPlain_2b d (dv_pre (fun _ _ _ => dv_z) f_X12_readTest d))) (dv_bn2 (zf110)))
              refine W.eq (g2 := F0 m 113 ls [.int x10, .ref a0]) rfl ?_
              refine th_call (th_runV (As := [.int x10]) (rest := []) hC mf_X12_takes0 km_X12_199 im_X12_takes0 se_X12_takes0 (c_X12_takes0 l G Γ H101 hB.1 hR hU a0 h0 x10 (by omega) cv (mo_f G H92 a0 19) cr_H101 ⟨by omega, by omega, by omega⟩) rfl rfl ⟨by dsimp only; omega, by dsimp only; omega⟩ hB.1 h0 ro_46 rfl rfl hl.1 rfl (Nat.le_of_ble_eq_true rfl) gX12_readPlain_7.2.2.2.1 ⟨Nat.le_refl _, Nat.le_refl _⟩) hB.2.1 (fun v113 H113 locs hp hz hS => ?_)
              obtain ⟨x11, rfl, lx11, ux11, hI1, hf, hR, z113_0, z113_1, z113_2, z113_3⟩ := hp
              have hB := th_B_c hB hI1 hS hf (by decide)
              have fv_H113_18 : mo_f G H113 a0 18 = mo_f G H101 a0 18 := mo_f_F hf h0 (by decide) (by decide)
              have fv_H113_21 : mo_f G H113 a0 21 = mo_f G H101 a0 21 := mo_f_F hf h0 (by decide) (by decide)
              have vv_H113_15 : mo_v G H113 a0 15 = mo_v G H101 a0 15 := mo_v_F (r := 55) hB.1 hf h0 rfl ro_55 (by decide) (by decide)
              have wd_H113 := mo_wd_F hB.2.2 h0 (by decide) k3
              have cr_H113 : mo_rd G H113 a0 cv := mo_rd_F hB.1 hB.2.2 h0 (by decide) k1
              replace hF := hF.trans (congrArg (dv_k (f_X12_readPlain_2b d (dv_pre (fun _ _ _ => dv_z) f_X12_readTest d))) (dv_bn2 (z113_3)))
              refine W.eq (g2 := F0 m 116 ls [.int x11]) rfl ?_
              refine tr_if_ne (tgt := 128) hx hb gX12_readPlain_7.2.2.2.2.1 (by decide) (Eq.refl _) (fun c116 => ?_) (fun c116 => ?_)
              · specialize z113_0 (by omega); clear z113_1
                replace hF := hF.trans (congrArg (dv_k (f_X12_readPlain_2b d (dv_pre (fun _ _ _ => dv_z) f_X12_readTest d))) (if_pos c116))
                refine lv_aload_n hx hb gX12_readPlain_8.2.1 rfl (lv_at hl 1 rfl) ?_
                refine lv_iload_n hx hb gX12_readPlain_8.2.2.1 rfl (lv_at hl 2 rfl) ?_
                refine th_call (th_runV (As := [.int p1]) (rest := []) hC mf_X12_readSum km_X12_208 im_X12_readSum se_X12_readSum (c_X12_readSum_d d l G Γ H113 hB.1 hR hU a0 h0 p1 (by omega) (by omega) o cv (mo_f G H113 a0 19) cr_H113 ⟨by omega, by omega, by omega⟩ wd_H113 (by omega)) rfl rfl ⟨by dsimp only; omega, by dsimp only; omega⟩ hB.1 h0 ro_46 rfl rfl hl.1 rfl (Nat.le_of_ble_eq_true rfl) gX12_readPlain_8.2.2.2.1 ⟨Nat.le_refl _, Nat.le_refl _⟩) hB.2.1 (fun v130 H130 locs hp hz hS => ?_)
                obtain ⟨rfl, hI1, hf, hR, z130_0, z130_1, z130_2⟩ := hp
                have hB := th_B_c hB hI1 hS hf (by decide)
                have fv_H130_18 : mo_f G H130 a0 18 = mo_f G H113 a0 18 := mo_f_F hf h0 (by decide) (by decide)
                have vv_H130_15 : mo_v G H130 a0 15 = mo_v G H113 a0 15 := mo_v_F (r := 55) hB.1 hf h0 rfl ro_55 (by decide) (by decide)
                have wd_H130 := mo_wd_F hB.2.2 h0 (by decide) k3
                have cr_H130 : mo_rd G H130 a0 cv := mo_rd_F hB.1 hB.2.2 h0 (by decide) k1
                replace hF := hF.trans (congrArg (dv_k (f_X12_readPlain_2b d (dv_pre (fun _ _ _ => dv_z) f_X12_readTest d))) (dv_bn2 (z130_2)))
                refine W.eq (g2 := F0 m 133 ls []) rfl ?_
                replace hF := hF.trans (dv_kr)
                exact th_vret hC hH hr hlocks hB.2.1 ⟨rfl, hB.1, hB.2.2, hR, ⟨by omega, by omega⟩, fun h9 => by obtain ⟨q1, q2⟩ := z130_1 h9; obtain ⟨q6, q7, q8⟩ := z113_0; obtain ⟨q4, q5⟩ := z92_1 (by omega); rw [q8] at q2; exact ⟨by omega, n2 _ (mo_nots_0 (by omega) (mo_pos_c ⟨_, q5, by omega, q2⟩))⟩, (hF0.symm.trans hF)⟩ gX12_readPlain_8.2.2.2.2
              · specialize z113_1 (by omega); clear z113_0
                replace hF := hF.trans (congrArg (dv_k (f_X12_readPlain_2b d (dv_pre (fun _ _ _ => dv_z) f_X12_readTest d))) (if_neg (not_not_intro c116)))
                refine lv_aload_n hx hb gX12_readPlain_7.2.2.2.2.2.1 rfl (lv_at hl 1 rfl) ?_
                refine lv_bipush (v := 61) hx hb gX12_readPlain_7.2.2.2.2.2.2.1 (by decide) ?_
                refine th_call (th_runS (As := [.int 61]) (rest := [.ref a0]) hC mf_X12_sign km_X12_240 st_X12_sign (c_X12_sign l G Γ H113 hB.1 hU 61 (by decide) (by decide)) rfl rfl ⟨by dsimp only; omega, by dsimp only; omega⟩ rfl hl.1 rfl (Nat.le_of_ble_eq_true rfl) gX12_readPlain_7.2.2.2.2.2.2.2 ⟨Nat.le_refl _, Nat.le_refl _⟩) hB.2.1 (fun v122 H122 locs hp hz hS => ?_)
                obtain ⟨x12, rfl, lx12, ux12, q122_0, q122_1, rfl⟩ := hp
                have hB := th_B_s hB hS
                have w122_0 := tk_61
                have zf122 := q122_1
                rw [tk_61] at zf122
                replace hF := hF.trans (congrArg (dv_k (f_X12_readPlain_2b d (dv_pre (fun _ _ _ => dv_z) f_X12_readTest d))) (dv_bn2 (zf122)))
                refine W.eq (g2 := F0 m 125 ls [.int x12, .ref a0]) rfl ?_
                refine th_call (th_runV (As := [.int x12]) (rest := []) hC mf_X12_must km_X12_211 im_X12_must se_X12_must (c_X12_must l G Γ H113 hB.1 hR hU a0 h0 x12 (by omega) cv (mo_f G H92 a0 19) cr_H113 ⟨by omega, by omega, by omega⟩) rfl rfl ⟨by dsimp only; omega, by dsimp only; omega⟩ hB.1 h0 ro_46 rfl rfl hl.1 rfl (Nat.le_of_ble_eq_true rfl) gX12_readPlain_8.1 ⟨Nat.le_refl _, Nat.le_refl _⟩) hB.2.1 (fun v125 H125 locs hp hz hS => ?_)
                obtain ⟨rfl, hI1, hf, hR, z125_0, z125_1, z125_2⟩ := hp
                have hB := th_B_c hB hI1 hS hf (by decide)
                have fv_H125_18 : mo_f G H125 a0 18 = mo_f G H113 a0 18 := mo_f_F hf h0 (by decide) (by decide)
                have vv_H125_15 : mo_v G H125 a0 15 = mo_v G H113 a0 15 := mo_v_F (r := 55) hB.1 hf h0 rfl ro_55 (by decide) (by decide)
                have wd_H125 := mo_wd_F hB.2.2 h0 (by decide) k3
                have cr_H125 : mo_rd G H125 a0 cv := mo_rd_F hB.1 hB.2.2 h0 (by decide) k1
                replace hF := hF.trans (congrArg (dv_k (f_X12_readPlain_2b d (dv_pre (fun _ _ _ => dv_z) f_X12_readTest d))) (dv_bn2 (z125_2)))
                refine W.eq (g2 := F0 m 128 ls []) rfl ?_
                refine lv_aload_n hx hb gX12_readPlain_8.2.1 rfl (lv_at hl 1 rfl) ?_
                refine lv_iload_n hx hb gX12_readPlain_8.2.2.1 rfl (lv_at hl 2 rfl) ?_
                refine th_call (th_runV (As := [.int p1]) (rest := []) hC mf_X12_readSum km_X12_208 im_X12_readSum se_X12_readSum (c_X12_readSum_d d l G Γ H125 hB.1 hR hU a0 h0 p1 (by omega) (by omega) o cv (mo_f G H125 a0 19) cr_H125 ⟨by omega, by omega, by omega⟩ wd_H125 (by omega)) rfl rfl ⟨by dsimp only; omega, by dsimp only; omega⟩ hB.1 h0 ro_46 rfl rfl hl.1 rfl (Nat.le_of_ble_eq_true rfl) gX12_readPlain_8.2.2.2.1 ⟨Nat.le_refl _, Nat.le_refl _⟩) hB.2.1 (fun v130 H130 locs hp hz hS => ?_)
                obtain ⟨rfl, hI1, hf, hR, z130_0, z130_1, z130_2⟩ := hp
                have hB := th_B_c hB hI1 hS hf (by decide)
                have fv_H130_18 : mo_f G H130 a0 18 = mo_f G H125 a0 18 := mo_f_F hf h0 (by decide) (by decide)
                have vv_H130_15 : mo_v G H130 a0 15 = mo_v G H125 a0 15 := mo_v_F (r := 55) hB.1 hf h0 rfl ro_55 (by decide) (by decide)
                have wd_H130 := mo_wd_F hB.2.2 h0 (by decide) k3
                have cr_H130 : mo_rd G H130 a0 cv := mo_rd_F hB.1 hB.2.2 h0 (by decide) k1
                replace hF := hF.trans (congrArg (dv_k (f_X12_readPlain_2b d (dv_pre (fun _ _ _ => dv_z) f_X12_readTest d))) (dv_bn2 (z130_2)))
                refine W.eq (g2 := F0 m 133 ls []) rfl ?_
                replace hF := hF.trans (dv_kr)
                exact th_vret hC hH hr hlocks hB.2.1 ⟨rfl, hB.1, hB.2.2, hR, ⟨by omega, by omega⟩, fun h9 => by obtain ⟨q1, q2⟩ := z130_1 h9; obtain ⟨q6, q7, q8⟩ := z125_1 q1; obtain ⟨q4, q5⟩ := z92_1 (by omega); rw [q8] at q2; exact ⟨by omega, n2 _ (mo_nots_0 (by omega) (mo_pos_c ⟨_, q5, by omega, q2⟩))⟩, (hF0.symm.trans hF)⟩ gX12_readPlain_8.2.2.2.2
          · replace hF := hF.trans (congrArg (dv_k (f_X12_readPlain_2b d (dv_pre (fun _ _ _ => dv_z) f_X12_readTest d))) (if_neg (not_not_intro c40)))
            refine lv_iload_n hx hb gX12_readPlain_2.2.2.2.2.2.2.2 rfl (lv_at hl 2 rfl) ?_
            refine lv_bipush (v := 8) hx hb gX12_readPlain_3.1 (by decide) ?_
            have jn53 : ∀ (H53 : Heap) (locs : List Loc) (ls : Array Slot) , th_B G Γ Γ [(46, 19), (46, 20), (46, 21)] H0 H53 locs → th_RC G Γ H53 → lv_has ls 4 [(0, .ref a0), (1, .int p1)] → F = dv_k (f_X12_readPlain_2b d (dv_pre (fun _ _ _ => dv_z) f_X12_readTest d)) (f_X12_readPlain_53 d (dv_pre (fun _ _ _ => dv_z) f_X12_readTest d) (dv G Γ H53) ((a0 : Int)) (p1.toInt)) → mo_f G H53 a0 19 = m2 → (mo_f G H53 a0 21 = -1 → p1.toInt ≠ 8) → th_sl H53 a0 (G.1.1.2 12 19) = .int x4 → W p l e ({ frames := 44 + 3 * d, cells := 0, slots := 0, locals := 1300 + d * 100 } : Room) s m ([.ref a0, .int p1] : List Value).toArray below meth c H53 locs 0 0 (MQ below (th_Q (fun (v : Option Value) (H1 : Heap) => v = none ∧ th_I G Γ H1 ∧ th_F G Γ [(46, 19), (46, 20), (46, 21)] H0 H1 ∧ th_RC G Γ H1 ∧ (t ≤ mo_f G H1 a0 19 ∧ mo_f G H1 a0 19 ≤ mo_f G H0 a0 18) ∧ (mo_f G H1 a0 21 = -1 → mo_f G H0 a0 21 = -1 ∧ mo_plain o cv d t (mo_f G H1 a0 19)) ∧ (f_X12_readPlain d (dv G Γ H0) (a0 : Int) p1.toInt = (dv G Γ H1, 0))) G) ([.ref a0, .int p1] : List Value).toArray s 0 0 (fun q => G.1.2.2 ≤ q)) (F0 m 53 ls []) := by
              intro H53 locs ls hB hR hl hF g53_0 g53_1 g53_2
              have wd_H53 := mo_wd_F hB.2.2 h0 (by decide) k3
              have cr_H53 : mo_rd G H53 a0 cv := mo_rd_F hB.1 hB.2.2 h0 (by decide) k1
              have fv13_18 : mo_f G H53 a0 18 = mo_f G H0 a0 18 := mo_f_F hB.2.2 h0 (by decide) (by decide)
              have vw_H53_15 : mo_v G H53 a0 15 = mo_v G H0 a0 15 := mo_v_F (r := 55) hB.1 hB.2.2 h0 rfl ro_55 (by decide) (by decide)
              replace hF := hF.trans (congrArg (dv_k (f_X12_readPlain_2b d (dv_pre (fun _ _ _ => dv_z) f_X12_readTest d))) (f_X12_readPlain_53.eq_1 d (dv_pre (fun _ _ _ => dv_z) f_X12_readTest d) (dv G Γ H53) ((a0 : Int)) (p1.toInt)))
              refine lv_aload_n hx hb gX12_readPlain_3.2.2.2.2.1 rfl (lv_at hl 0 rfl) ?_
              refine th_call (th_runV (As := []) (rest := []) hC mf_X12_fine km_X12_192 im_X12_fine se_X12_fine (c_X12_fine l G Γ H53 hB.1 hU a0 h0) rfl rfl ⟨by dsimp only; omega, by dsimp only; omega⟩ hB.1 h0 ro_46 rfl rfl hl.1 rfl (Nat.le_of_ble_eq_true rfl) gX12_readPlain_3.2.2.2.2.2.1 ⟨Nat.le_refl _, Nat.le_refl _⟩) hB.2.1 (fun v54 H54 locs hp hz hS => ?_)
              obtain ⟨x14, rfl, lx14, ux14, q54_0, q54_1, q54_2, rfl⟩ := hp
              have hB := th_B_s hB hS
              replace hF := hF.trans (congrArg (dv_k (f_X12_readPlain_2b d (dv_pre (fun _ _ _ => dv_z) f_X12_readTest d))) (dv_bn2 (q54_2)))
              refine W.eq (g2 := F0 m 57 ls [.int x14]) rfl ?_
              refine tr_if_ne (tgt := 61) hx hb gX12_readPlain_3.2.2.2.2.2.2.1 (by decide) (Eq.refl _) (fun c57 => ?_) (fun c57 => ?_)
              · specialize q54_0 (by omega); clear q54_1
                replace hF := hF.trans (congrArg (dv_k (f_X12_readPlain_2b d (dv_pre (fun _ _ _ => dv_z) f_X12_readTest d))) (if_pos c57))
                refine lv_aload_n hx hb gX12_readPlain_4.1 rfl (lv_at hl 0 rfl) ?_
                refine lv_dup hx hb gX12_readPlain_4.2.1 rfl ?_
                refine th_getK hC cf_X12 hB.1 h0 ro_46 rfl (j := 19) (by decide) g53_2 kf_X12_196 gX12_readPlain_4.2.2.1 ?_
                replace hF := hF.trans (congrArg (dv_k (f_X12_readPlain_2b d (dv_pre (fun _ _ _ => dv_z) f_X12_readTest d))) (dv_bn (dv_getI h0 ro_46 (j := 19) rfl g53_2 (by decide))))
                have fg15 : mo_f G H53 a0 19 = x4.toInt := mo_fat g53_2
                have nz63 := mo_rd_nz k1 (show cv m2 ≠ 0 by omega)
                have t18 := mo_f_rg hI h0 (j := 18) rfl
                refine lv_iconst (v := 1) hx hb gX12_readPlain_4.2.2.2.1 (by decide) ?_
                refine tr_iadd hx hb gX12_readPlain_4.2.2.2.2.1 (Eq.refl _) tk_1 (by omega) (by omega) (fun x16 ex16 => ?_)
                replace hF := hF.trans (congrArg (dv_k (f_X12_readPlain_2b d (dv_pre (fun _ _ _ => dv_z) f_X12_readTest d))) (dv_bn (ex16.symm)))
                refine th_put hC cf_X12 hB h0 (Or.inl h0) ro_46 rfl (j := 19) rfl (th_sI (by omega) (by omega)) (by decide) rfl rfl rfl kf_X12_196 gX12_readPlain_4.2.2.2.2.2.1 (fun H68 locs hB hf hst68 => ?_)
                have hR := th_RC_F hB.1 hR hf (th_T_s h0 ro_46 hst68) (by decide)
                have fv_H68_18 : mo_f G H68 a0 18 = mo_f G H53 a0 18 := mo_f_F hf h0 (by decide) (by decide)
                have fv_H68_21 : mo_f G H68 a0 21 = mo_f G H53 a0 21 := mo_f_F hf h0 (by decide) (by decide)
                have vv_H68_15 : mo_v G H68 a0 15 = mo_v G H53 a0 15 := mo_v_F (r := 55) hB.1 hf h0 rfl ro_55 (by decide) (by decide)
                have wd_H68 := mo_wd_F hB.2.2 h0 (by decide) k3
                have cr_H68 : mo_rd G H68 a0 cv := mo_rd_F hB.1 hB.2.2 h0 (by decide) k1
                replace hF := hF.trans (congrArg (dv_k (f_X12_readPlain_2b d (dv_pre (fun _ _ _ => dv_z) f_X12_readTest d))) (dv_bn (dv_putI hB.1 h0 ro_46 (j := 19) rfl (th_apart hC cf_X12) hst68 (Eq.refl _) (by decide))))
                have fp68 : mo_f G H68 a0 19 = x16.toInt := mo_f_St hst68
                refine lv_aload_n hx hb gX12_readPlain_4.2.2.2.2.2.2.1 rfl (lv_at hl 0 rfl) ?_
                refine lv_iload_n hx hb gX12_readPlain_4.2.2.2.2.2.2.2 rfl (lv_at hl 1 rfl) ?_
                obtain ⟨d', hd'⟩ : ∃ d', d = d' + 1 := ⟨d - 1, by omega⟩
                refine lv_iconst (v := 1) hx hb gX12_readPlain_5.1 (by decide) ?_
                refine tr_iadd hx hb gX12_readPlain_5.2.1 (Eq.refl _) tk_1 (by omega) (by omega) (fun x17 ex17 => ?_)
                replace hF := hF.trans (congrArg (dv_k (f_X12_readPlain_2b d (dv_pre (fun _ _ _ => dv_z) f_X12_readTest d))) (dv_bn (ex17.symm)))
                refine th_call (th_runV (As := [.int x17]) (rest := []) hC mf_X12_readTest km_X12_214 im_X12_readTest se_X12_readTest (ihd d' hd' l G Γ H68 hB.1 hR hU a0 h0 x17 (by omega) (by omega) o cv (m2 + 1) cr_H68 ⟨by omega, by omega, by omega⟩ wd_H68 (by omega)) rfl rfl ⟨by dsimp only; omega, by dsimp only; omega⟩ hB.1 h0 ro_46 rfl rfl hl.1 rfl (Nat.le_of_ble_eq_true rfl) gX12_readPlain_5.2.2.1 ⟨Nat.le_refl _, Nat.le_refl _⟩) hB.2.1 (fun v75 H75 locs hp hz hS => ?_)
                obtain ⟨rfl, hI1, hf, hR, z75_0, z75_1, z75_2⟩ := hp
                have hB := th_B_c hB hI1 hS hf (by decide)
                have fv_H75_18 : mo_f G H75 a0 18 = mo_f G H68 a0 18 := mo_f_F hf h0 (by decide) (by decide)
                have vv_H75_15 : mo_v G H75 a0 15 = mo_v G H68 a0 15 := mo_v_F (r := 55) hB.1 hf h0 rfl ro_55 (by decide) (by decide)
                have wd_H75 := mo_wd_F hB.2.2 h0 (by decide) k3
                have cr_H75 : mo_rd G H75 a0 cv := mo_rd_F hB.1 hB.2.2 h0 (by decide) k1
                have zf75 := z75_2
                rw [← dv_pre_s (z := (fun _ _ _ => dv_z)) (f := f_X12_readTest) hd'] at zf75
                replace hF := hF.trans (congrArg (dv_k (f_X12_readPlain_2b d (dv_pre (fun _ _ _ => dv_z) f_X12_readTest d))) (dv_bn2 (zf75)))
                refine W.eq (g2 := F0 m 78 ls []) rfl ?_
                refine lv_aload_n hx hb gX12_readPlain_5.2.2.2.1 rfl (lv_at hl 0 rfl) ?_
                refine lv_bipush (v := 41) hx hb gX12_readPlain_5.2.2.2.2.1 (by decide) ?_
                refine th_call (th_runS (As := [.int 41]) (rest := [.ref a0]) hC mf_X12_sign km_X12_240 st_X12_sign (c_X12_sign l G Γ H75 hB.1 hU 41 (by decide) (by decide)) rfl rfl ⟨by dsimp only; omega, by dsimp only; omega⟩ rfl hl.1 rfl (Nat.le_of_ble_eq_true rfl) gX12_readPlain_5.2.2.2.2.2.1 ⟨Nat.le_refl _, Nat.le_refl _⟩) hB.2.1 (fun v81 H81 locs hp hz hS => ?_)
                obtain ⟨x18, rfl, lx18, ux18, q81_0, q81_1, rfl⟩ := hp
                have hB := th_B_s hB hS
                have w81_0 := tk_41
                have zf81 := q81_1
                rw [tk_41] at zf81
                replace hF := hF.trans (congrArg (dv_k (f_X12_readPlain_2b d (dv_pre (fun _ _ _ => dv_z) f_X12_readTest d))) (dv_bn2 (zf81)))
                refine W.eq (g2 := F0 m 84 ls [.int x18, .ref a0]) rfl ?_
                refine th_call (th_runV (As := [.int x18]) (rest := []) hC mf_X12_must km_X12_211 im_X12_must se_X12_must (c_X12_must l G Γ H75 hB.1 hR hU a0 h0 x18 (by omega) cv (mo_f G H75 a0 19) cr_H75 ⟨by omega, by omega, by omega⟩) rfl rfl ⟨by dsimp only; omega, by dsimp only; omega⟩ hB.1 h0 ro_46 rfl rfl hl.1 rfl (Nat.le_of_ble_eq_true rfl) gX12_readPlain_5.2.2.2.2.2.2.1 ⟨Nat.le_refl _, Nat.le_refl _⟩) hB.2.1 (fun v84 H84 locs hp hz hS => ?_)
                obtain ⟨rfl, hI1, hf, hR, z84_0, z84_1, z84_2⟩ := hp
                have hB := th_B_c hB hI1 hS hf (by decide)
                have fv_H84_18 : mo_f G H84 a0 18 = mo_f G H75 a0 18 := mo_f_F hf h0 (by decide) (by decide)
                have vv_H84_15 : mo_v G H84 a0 15 = mo_v G H75 a0 15 := mo_v_F (r := 55) hB.1 hf h0 rfl ro_55 (by decide) (by decide)
                have wd_H84 := mo_wd_F hB.2.2 h0 (by decide) k3
                have cr_H84 : mo_rd G H84 a0 cv := mo_rd_F hB.1 hB.2.2 h0 (by decide) k1
                replace hF := hF.trans (congrArg (dv_k (f_X12_readPlain_2b d (dv_pre (fun _ _ _ => dv_z) f_X12_readTest d))) (dv_bn2 (z84_2)))
                refine W.eq (g2 := F0 m 87 ls []) rfl ?_
                refine lv_goto (tgt := 133) hx hb gX12_readPlain_5.2.2.2.2.2.2.2 (by decide) ?_
                replace hF := hF.trans (dv_kr)
                exact th_vret hC hH hr hlocks hB.2.1 ⟨rfl, hB.1, hB.2.2, hR, ⟨by omega, by omega⟩, fun h9 => by obtain ⟨q1, q2, q3⟩ := z84_1 h9; obtain ⟨q4, q5⟩ := z75_1 q1; exact ⟨by omega, n2 _ (mo_nots_0 (by omega) (by rw [hd', q3]; exact mo_pos_b (by omega) q5 (by omega)))⟩, (hF0.symm.trans hF)⟩ gX12_readPlain_8.2.2.2.2
              · specialize q54_1 (by omega); clear q54_0
                replace hF := hF.trans (congrArg (dv_k (f_X12_readPlain_2b d (dv_pre (fun _ _ _ => dv_z) f_X12_readTest d))) (if_neg (not_not_intro c57)))
                replace hF := hF.trans (dv_kr)
                exact th_vret hC hH hr hlocks hB.2.1 ⟨rfl, hB.1, hB.2.2, hR, ⟨by omega, by omega⟩, fun h9 => absurd h9 (by omega), (hF0.symm.trans hF)⟩ gX12_readPlain_3.2.2.2.2.2.2.2
            refine tr_icmp_ne (tgt := 53) hx hb gX12_readPlain_3.2.1 (by decide) (Eq.refl _) tk_8 (fun c46 => ?_) (fun c46 => ?_)
            · replace hF := hF.trans (congrArg (dv_k (f_X12_readPlain_2b d (dv_pre (fun _ _ _ => dv_z) f_X12_readTest d))) (if_pos c46))
              exact jn53 H2 locs ls hB hR (lv_sub hl [1, 2] rfl) hF (by omega) (by omega) mx4
            · replace hF := hF.trans (congrArg (dv_k (f_X12_readPlain_2b d (dv_pre (fun _ _ _ => dv_z) f_X12_readTest d))) (if_neg (not_not_intro c46)))
              refine lv_aload_n hx hb gX12_readPlain_3.2.2.1 rfl (lv_at hl 1 rfl) ?_
              refine th_call (th_runV (As := []) (rest := []) hC mf_X12_faults km_X12_202 im_X12_faults se_X12_faults (c_X12_faults l G Γ H2 hB.1 hR hU a0 h0) rfl rfl ⟨by dsimp only; omega, by dsimp only; omega⟩ hB.1 h0 ro_46 rfl rfl hl.1 rfl (Nat.le_of_ble_eq_true rfl) gX12_readPlain_3.2.2.2.1 ⟨Nat.le_refl _, Nat.le_refl _⟩) hB.2.1 (fun v50 H50 locs hp hz hS => ?_)
              obtain ⟨rfl, hI1, hf, hR, z50_0, z50_1⟩ := hp
              have hB := th_B_c hB hI1 hS hf (by decide)
              have mm19 := (th_F_o hf h0 ro_46 (j := 19) (by decide) (by decide)).trans mx4
              have fv_H50_18 : mo_f G H50 a0 18 = mo_f G H2 a0 18 := mo_f_F hf h0 (by decide) (by decide)
              have fv_H50_19 : mo_f G H50 a0 19 = mo_f G H2 a0 19 := mo_f_F hf h0 (by decide) (by decide)
              have vv_H50_15 : mo_v G H50 a0 15 = mo_v G H2 a0 15 := mo_v_F (r := 55) hB.1 hf h0 rfl ro_55 (by decide) (by decide)
              have wd_H50 := mo_wd_F hB.2.2 h0 (by decide) k3
              have cr_H50 : mo_rd G H50 a0 cv := mo_rd_F hB.1 hB.2.2 h0 (by decide) k1
              replace hF := hF.trans (congrArg (dv_k (f_X12_readPlain_2b d (dv_pre (fun _ _ _ => dv_z) f_X12_readTest d))) (dv_bn2 (z50_1)))
              refine W.eq (g2 := F0 m 53 ls []) rfl ?_
              exact jn53 H50 locs ls hB hR (lv_sub hl [1, 2] rfl) hF (by omega) (by omega) mm19
        · specialize q17_1 (by omega); clear q17_0
          replace hF := hF.trans (congrArg (dv_k (f_X12_readPlain_2b d (dv_pre (fun _ _ _ => dv_z) f_X12_readTest d))) (if_neg (not_not_intro c20)))
          replace hF := hF.trans (dv_kr)
          exact th_vret hC hH hr hlocks hB.2.1 ⟨rfl, hB.1, hB.2.2, hR, ⟨by omega, by omega⟩, fun h9 => absurd h9 (by omega), (hF0.symm.trans hF)⟩ gX12_readPlain_1.2.2.2.2.1
      · replace hF := hF.trans (congrArg (dv_k (f_X12_readPlain_2b d (dv_pre (fun _ _ _ => dv_z) f_X12_readTest d))) (if_neg c3))
        refine lv_aload_n hx hb gX12_readPlain_0.2.2.2.2.1 rfl (lv_at hl 0 rfl) ?_
        refine lv_bipush (v := 7) hx hb gX12_readPlain_0.2.2.2.2.2.1 (by decide) ?_
        refine th_call (th_runV (As := [.int 7]) (rest := []) hC mf_X12_takes0 km_X12_199 im_X12_takes0 se_X12_takes0 (c_X12_takes0 l G Γ H2 hB.1 hR hU a0 h0 7 (by decide) cv m2 cr_H2 ⟨by omega, by omega, by omega⟩) rfl rfl ⟨by dsimp only; omega, by dsimp only; omega⟩ hB.1 h0 ro_46 rfl rfl hl.1 rfl (Nat.le_of_ble_eq_true rfl) gX12_readPlain_0.2.2.2.2.2.2.1 ⟨Nat.le_refl _, Nat.le_refl _⟩) hB.2.1 (fun v9 H9 locs hp hz hS => ?_)
        obtain ⟨x20, rfl, lx20, ux20, hI1, hf, hR, z9_0, z9_1, z9_2, z9_3⟩ := hp
        have hB := th_B_c hB hI1 hS hf (by decide)
        have fv_H9_18 : mo_f G H9 a0 18 = mo_f G H2 a0 18 := mo_f_F hf h0 (by decide) (by decide)
        have fv_H9_21 : mo_f G H9 a0 21 = mo_f G H2 a0 21 := mo_f_F hf h0 (by decide) (by decide)
        have vv_H9_15 : mo_v G H9 a0 15 = mo_v G H2 a0 15 := mo_v_F (r := 55) hB.1 hf h0 rfl ro_55 (by decide) (by decide)
        have wd_H9 := mo_wd_F hB.2.2 h0 (by decide) k3
        have cr_H9 : mo_rd G H9 a0 cv := mo_rd_F hB.1 hB.2.2 h0 (by decide) k1
        have zf9 := z9_3
        rw [tk_7] at zf9
        replace hF := hF.trans (congrArg (dv_k (f_X12_readPlain_2b d (dv_pre (fun _ _ _ => dv_z) f_X12_readTest d))) (dv_bn2 (zf9)))
        refine W.eq (g2 := F0 m 12 ls [.int x20]) rfl ?_
        have tk7 := tk_7
        refine lv_istore_n (lv' := [(2, .int x20), (0, .ref a0), (1, .int p1)]) hx hb gX12_readPlain_0.2.2.2.2.2.2.2 rfl hl (by decide) rfl (fun ls hl => ?_)
        refine lv_goto (tgt := 2) hx hb gX12_readPlain_1.1 (by decide) ?_
        replace hF := hF.trans (dv_kl)
        exact ih2 H9 locs ls x20 hB hR (lv_sub hl [1, 2, 0] rfl) hF (by omega) (by omega) (by rcases (show x20.toInt = 1 ∨ x20.toInt = 0 by omega) with q9 | q9; exact ⟨m2 + 1, by omega, by omega, by omega, mo_npre_s n2 (by omega), fun h9 => absurd h9 (by omega)⟩; exact ⟨m2, by omega, by omega, by omega, n2, fun _ h8 => by omega⟩) (by omega) (by omega)
  exact lp2 (2 * (mo_f G H0 a0 18 - mo_f G H0 a0 19) + (1) + 1).toNat H0 [] ls 1 hB hR (lv_sub hl [1, 2, 0] rfl) (by rw [tk_1]; exact hF) (by decide) (by decide) ⟨t, by omega, by omega, by omega, mo_npre_0, fun h9 => absurd h9 (by decide)⟩ (by have w0 := tk_1; omega) (by have w0 := tk_1; omega)

set_option maxHeartbeats 4000000 in
set_option maxRecDepth 100000 in
theorem c_X12_readBoth_s (d : Nat) (ihp : s_X12_readPlain d) : s_X12_readBoth d := by
  intro l G Γ H0 hI hR hU a0 h0 p1 f1 g1 o cv t k1 k2 k3 k4
  refine th_met RX12 (by decide) rfl (Nat.le_of_ble_eq_true rfl) ?_
  intro p e s m below meth c hC hH hr hlocks hnm ls hl
  have hx := hC.1
  have hb := hC.2.1
  have hB : th_B G Γ Γ [(46, 19), (46, 20), (46, 21)] H0 H0 [] := ⟨hI, va_S.rf, th_F_rf⟩
  have hl : lv_has ls 2 [(0, .ref a0), (1, .int p1)] := hl
  have lp1 := ti_lo p1; have up1 := ti_hi p1
  obtain ⟨F, hF0⟩ : ∃ F, F = f_X12_readBoth d (dv G Γ H0) ((a0 : Int)) (p1.toInt) := ⟨_, rfl⟩
  have hF := hF0.trans ((f_X12_readBoth_d d (dv G Γ H0) ((a0 : Int)) (p1.toInt)).trans (f_X12_readBoth_B.eq_1 d (f_X12_readPlain d) (dv G Γ H0) ((a0 : Int)) (p1.toInt)))
  refine lv_aload_n hx hb gX12_readBoth_0.1 rfl (lv_at hl 0 rfl) ?_
  refine lv_iload_n hx hb gX12_readBoth_0.2.1 rfl (lv_at hl 1 rfl) ?_
  refine th_call (th_runV (As := [.int p1]) (rest := []) hC mf_X12_readPlain km_X12_237 im_X12_readPlain se_X12_readPlain (ihp l G Γ H0 hB.1 hR hU a0 h0 p1 (by omega) (by omega) o cv t k1 ⟨by omega, by omega, by omega⟩ k3 (by omega)) rfl rfl ⟨by dsimp only; omega, by dsimp only; omega⟩ hB.1 h0 ro_46 rfl rfl hl.1 rfl (Nat.le_of_ble_eq_true rfl) gX12_readBoth_0.2.2.1 ⟨Nat.le_refl _, Nat.le_refl _⟩) hB.2.1 (fun v2 H2 locs hp hz hS => ?_)
  obtain ⟨rfl, hI1, hf, hR, z2_0, z2_1, z2_2⟩ := hp
  have hB := th_B_c hB hI1 hS hf (by decide)
  have fv_H2_18 : mo_f G H2 a0 18 = mo_f G H0 a0 18 := mo_f_F hf h0 (by decide) (by decide)
  have vv_H2_15 : mo_v G H2 a0 15 = mo_v G H0 a0 15 := mo_v_F (r := 55) hB.1 hf h0 rfl ro_55 (by decide) (by decide)
  have wd_H2 := mo_wd_F hB.2.2 h0 (by decide) k3
  have cr_H2 : mo_rd G H2 a0 cv := mo_rd_F hB.1 hB.2.2 h0 (by decide) k1
  replace hF := hF.trans (dv_bn2 (z2_2))
  refine W.eq (g2 := F0 m 5 ls []) rfl ?_
  have lp5 : ∀ (n5 : Nat) (H5 : Heap) (locs : List Loc) (ls : Array Slot) , th_B G Γ Γ [(46, 19), (46, 20), (46, 21)] H0 H5 locs → th_RC G Γ H5 → lv_has ls 2 [(0, .ref a0), (1, .int p1)] → F = dv_lp (f_X12_readBoth_5b d (f_X12_readPlain d)) (dv G Γ H5, (a0 : Int), p1.toInt) → (∃ m : Int, mo_f G H5 a0 19 = m ∧ t ≤ m ∧ m ≤ mo_f G H0 a0 18 ∧ (mo_f G H5 a0 21 = -1 → mo_f G H0 a0 21 = -1 ∧ mo_pre cv (mo_plain o cv d) (mo_is 6) t m)) → mo_f G H0 a0 18 - mo_f G H5 a0 19 + 1 ≤ (n5 : Int) → W p l e ({ frames := 45 + 3 * d, cells := 0, slots := 0, locals := 1323 + d * 100 } : Room) s m ([.ref a0, .int p1] : List Value).toArray below meth c H5 locs 0 0 (MQ below (th_Q (fun (v : Option Value) (H1 : Heap) => v = none ∧ th_I G Γ H1 ∧ th_F G Γ [(46, 19), (46, 20), (46, 21)] H0 H1 ∧ th_RC G Γ H1 ∧ (t ≤ mo_f G H1 a0 19 ∧ mo_f G H1 a0 19 ≤ mo_f G H0 a0 18) ∧ (mo_f G H1 a0 21 = -1 → mo_f G H0 a0 21 = -1 ∧ mo_both o cv d t (mo_f G H1 a0 19)) ∧ (f_X12_readBoth d (dv G Γ H0) (a0 : Int) p1.toInt = (dv G Γ H1, 0))) G) ([.ref a0, .int p1] : List Value).toArray s 0 0 (fun q => G.1.2.2 ≤ q)) (F0 m 5 ls []) := by
    intro n5
    induction n5 with
    | zero => intro H5 locs ls hB hR hl hF g5_0 hm5; exact absurd hm5 (by have := mo_lpr g5_0; omega)
    | succ n5 ih5 =>
      intro H5 locs ls hB hR hl hF g5_0 hm5
      have wd_H5 := mo_wd_F hB.2.2 h0 (by decide) k3
      have cr_H5 : mo_rd G H5 a0 cv := mo_rd_F hB.1 hB.2.2 h0 (by decide) k1
      have fv1_18 : mo_f G H5 a0 18 = mo_f G H0 a0 18 := mo_f_F hB.2.2 h0 (by decide) (by decide)
      have vw_H5_15 : mo_v G H5 a0 15 = mo_v G H0 a0 15 := mo_v_F (r := 55) hB.1 hB.2.2 h0 rfl ro_55 (by decide) (by decide)
      have hm5 : mo_f G H0 a0 18 - mo_f G H5 a0 19 + 1 ≤ (n5 : Int) + 1 := by omega
      replace hF := hF.trans (dv_lp_eq)
      replace hF := hF.trans (congrArg (dv_k (f_X12_readBoth_5b d (f_X12_readPlain d))) (f_X12_readBoth_5c.eq_1 d (f_X12_readPlain d) (dv G Γ H5) ((a0 : Int)) (p1.toInt)))
      refine lv_aload_n hx hb gX12_readBoth_0.2.2.2.1 rfl (lv_at hl 0 rfl) ?_
      obtain ⟨m5, a5, b5, c5, e5⟩ := g5_0
      refine lv_bipush (v := 6) hx hb gX12_readBoth_0.2.2.2.2.1 (by decide) ?_
      refine th_call (th_runV (As := [.int 6]) (rest := []) hC mf_X12_takes0 km_X12_199 im_X12_takes0 se_X12_takes0 (c_X12_takes0 l G Γ H5 hB.1 hR hU a0 h0 6 (by decide) cv m5 cr_H5 ⟨by omega, by omega, by omega⟩) rfl rfl ⟨by dsimp only; omega, by dsimp only; omega⟩ hB.1 h0 ro_46 rfl rfl hl.1 rfl (Nat.le_of_ble_eq_true rfl) gX12_readBoth_0.2.2.2.2.2.1 ⟨Nat.le_refl _, Nat.le_refl _⟩) hB.2.1 (fun v8 H8 locs hp hz hS => ?_)
      obtain ⟨x2, rfl, lx2, ux2, hI1, hf, hR, z8_0, z8_1, z8_2, z8_3⟩ := hp
      have hB := th_B_c hB hI1 hS hf (by decide)
      have fv_H8_18 : mo_f G H8 a0 18 = mo_f G H5 a0 18 := mo_f_F hf h0 (by decide) (by decide)
      have fv_H8_21 : mo_f G H8 a0 21 = mo_f G H5 a0 21 := mo_f_F hf h0 (by decide) (by decide)
      have vv_H8_15 : mo_v G H8 a0 15 = mo_v G H5 a0 15 := mo_v_F (r := 55) hB.1 hf h0 rfl ro_55 (by decide) (by decide)
      have wd_H8 := mo_wd_F hB.2.2 h0 (by decide) k3
      have cr_H8 : mo_rd G H8 a0 cv := mo_rd_F hB.1 hB.2.2 h0 (by decide) k1
      have zf8 := z8_3
      rw [tk_6] at zf8
      replace hF := hF.trans (congrArg (dv_k (f_X12_readBoth_5b d (f_X12_readPlain d))) (dv_bn2 (zf8)))
      refine W.eq (g2 := F0 m 11 ls [.int x2]) rfl ?_
      have tkw := tk_6
      refine tr_if_eq (tgt := 22) hx hb gX12_readBoth_0.2.2.2.2.2.2.1 (by decide) (Eq.refl _) (fun c11 => ?_) (fun c11 => ?_)
      · specialize z8_1 (by omega); clear z8_0
        replace hF := hF.trans (congrArg (dv_k (f_X12_readBoth_5b d (f_X12_readPlain d))) (if_pos c11))
        replace hF := hF.trans (dv_kr)
        exact th_vret hC hH hr hlocks hB.2.1 ⟨rfl, hB.1, hB.2.2, hR, ⟨by omega, by omega⟩, fun h9 => by obtain ⟨q1, q2⟩ := e5 (by omega); exact ⟨q1, by rw [show mo_f G H8 a0 19 = m5 by omega]; exact mo_pre_e q2 (show ¬ (cv m5 = 6) by omega)⟩, (hF0.symm.trans hF)⟩ gX12_readBoth_1.2.2.2
      · specialize z8_0 (by omega); clear z8_1
        replace hF := hF.trans (congrArg (dv_k (f_X12_readBoth_5b d (f_X12_readPlain d))) (if_neg c11))
        refine lv_aload_n hx hb gX12_readBoth_0.2.2.2.2.2.2.2 rfl (lv_at hl 0 rfl) ?_
        refine lv_iload_n hx hb gX12_readBoth_1.1 rfl (lv_at hl 1 rfl) ?_
        refine th_call (th_runV (As := [.int p1]) (rest := []) hC mf_X12_readPlain km_X12_237 im_X12_readPlain se_X12_readPlain (ihp l G Γ H8 hB.1 hR hU a0 h0 p1 (by omega) (by omega) o cv (m5 + 1) cr_H8 ⟨by omega, by omega, by omega⟩ wd_H8 (by omega)) rfl rfl ⟨by dsimp only; omega, by dsimp only; omega⟩ hB.1 h0 ro_46 rfl rfl hl.1 rfl (Nat.le_of_ble_eq_true rfl) gX12_readBoth_1.2.1 ⟨Nat.le_refl _, Nat.le_refl _⟩) hB.2.1 (fun v16 H16 locs hp hz hS => ?_)
        obtain ⟨rfl, hI1, hf, hR, z16_0, z16_1, z16_2⟩ := hp
        have hB := th_B_c hB hI1 hS hf (by decide)
        have fv_H16_18 : mo_f G H16 a0 18 = mo_f G H8 a0 18 := mo_f_F hf h0 (by decide) (by decide)
        have vv_H16_15 : mo_v G H16 a0 15 = mo_v G H8 a0 15 := mo_v_F (r := 55) hB.1 hf h0 rfl ro_55 (by decide) (by decide)
        have wd_H16 := mo_wd_F hB.2.2 h0 (by decide) k3
        have cr_H16 : mo_rd G H16 a0 cv := mo_rd_F hB.1 hB.2.2 h0 (by decide) k1
        replace hF := hF.trans (congrArg (dv_k (f_X12_readBoth_5b d (f_X12_readPlain d))) (dv_bn2 (z16_2)))
        refine W.eq (g2 := F0 m 19 ls []) rfl ?_
        refine lv_goto (tgt := 5) hx hb gX12_readBoth_1.2.2.1 (by decide) ?_
        replace hF := hF.trans (dv_kl)
        exact ih5 H16 locs ls hB hR (lv_sub hl [0, 1] rfl) hF ⟨_, rfl, by omega, by omega, fun h9 => by obtain ⟨q3, q4⟩ := z16_1 h9; obtain ⟨q1, q2⟩ := e5 (by omega); exact ⟨q1, mo_pre_s q2 (show cv m5 = 6 by omega) q4⟩⟩ (by omega)
  exact lp5 (mo_f G H0 a0 18 - mo_f G H2 a0 19 + 1).toNat H2 locs ls hB hR (lv_sub hl [0, 1] rfl) hF ⟨_, rfl, by omega, by omega, fun h9 => ⟨(z2_1 h9).1, mo_pre_0 (z2_1 h9).2⟩⟩ (by omega)

set_option maxHeartbeats 4000000 in
set_option maxRecDepth 100000 in
theorem c_X12_readTest_s (d : Nat) (ihp : s_X12_readBoth d) : s_X12_readTest d := by
  intro l G Γ H0 hI hR hU a0 h0 p1 f1 g1 o cv t k1 k2 k3 k4
  refine th_met RX12 (by decide) rfl (Nat.le_of_ble_eq_true rfl) ?_
  intro p e s m below meth c hC hH hr hlocks hnm ls hl
  have hx := hC.1
  have hb := hC.2.1
  have hB : th_B G Γ Γ [(46, 19), (46, 20), (46, 21)] H0 H0 [] := ⟨hI, va_S.rf, th_F_rf⟩
  have hl : lv_has ls 2 [(0, .ref a0), (1, .int p1)] := hl
  have lp1 := ti_lo p1; have up1 := ti_hi p1
  obtain ⟨F, hF0⟩ : ∃ F, F = f_X12_readTest d (dv G Γ H0) ((a0 : Int)) (p1.toInt) := ⟨_, rfl⟩
  have hF := hF0.trans ((f_X12_readTest_d d (dv G Γ H0) ((a0 : Int)) (p1.toInt)).trans (f_X12_readTest_B.eq_1 d (f_X12_readBoth d) (dv G Γ H0) ((a0 : Int)) (p1.toInt)))
  refine lv_aload_n hx hb gX12_readTest_0.1 rfl (lv_at hl 0 rfl) ?_
  refine lv_iload_n hx hb gX12_readTest_0.2.1 rfl (lv_at hl 1 rfl) ?_
  refine th_call (th_runV (As := [.int p1]) (rest := []) hC mf_X12_readBoth km_X12_234 im_X12_readBoth se_X12_readBoth (ihp l G Γ H0 hB.1 hR hU a0 h0 p1 (by omega) (by omega) o cv t k1 ⟨by omega, by omega, by omega⟩ k3 (by omega)) rfl rfl ⟨by dsimp only; omega, by dsimp only; omega⟩ hB.1 h0 ro_46 rfl rfl hl.1 rfl (Nat.le_of_ble_eq_true rfl) gX12_readTest_0.2.2.1 ⟨Nat.le_refl _, Nat.le_refl _⟩) hB.2.1 (fun v2 H2 locs hp hz hS => ?_)
  obtain ⟨rfl, hI1, hf, hR, z2_0, z2_1, z2_2⟩ := hp
  have hB := th_B_c hB hI1 hS hf (by decide)
  have fv_H2_18 : mo_f G H2 a0 18 = mo_f G H0 a0 18 := mo_f_F hf h0 (by decide) (by decide)
  have vv_H2_15 : mo_v G H2 a0 15 = mo_v G H0 a0 15 := mo_v_F (r := 55) hB.1 hf h0 rfl ro_55 (by decide) (by decide)
  have wd_H2 := mo_wd_F hB.2.2 h0 (by decide) k3
  have cr_H2 : mo_rd G H2 a0 cv := mo_rd_F hB.1 hB.2.2 h0 (by decide) k1
  replace hF := hF.trans (dv_bn2 (z2_2))
  refine W.eq (g2 := F0 m 5 ls []) rfl ?_
  have lp5 : ∀ (n5 : Nat) (H5 : Heap) (locs : List Loc) (ls : Array Slot) , th_B G Γ Γ [(46, 19), (46, 20), (46, 21)] H0 H5 locs → th_RC G Γ H5 → lv_has ls 2 [(0, .ref a0), (1, .int p1)] → F = dv_lp (f_X12_readTest_5b d (f_X12_readBoth d)) (dv G Γ H5, (a0 : Int), p1.toInt) → (∃ m : Int, mo_f G H5 a0 19 = m ∧ t ≤ m ∧ m ≤ mo_f G H0 a0 18 ∧ (mo_f G H5 a0 21 = -1 → mo_f G H0 a0 21 = -1 ∧ mo_pre cv (mo_both o cv d) (mo_is 5) t m)) → mo_f G H0 a0 18 - mo_f G H5 a0 19 + 1 ≤ (n5 : Int) → W p l e ({ frames := 46 + 3 * d, cells := 0, slots := 0, locals := 1344 + d * 100 } : Room) s m ([.ref a0, .int p1] : List Value).toArray below meth c H5 locs 0 0 (MQ below (th_Q (fun (v : Option Value) (H1 : Heap) => v = none ∧ th_I G Γ H1 ∧ th_F G Γ [(46, 19), (46, 20), (46, 21)] H0 H1 ∧ th_RC G Γ H1 ∧ (t ≤ mo_f G H1 a0 19 ∧ mo_f G H1 a0 19 ≤ mo_f G H0 a0 18) ∧ (mo_f G H1 a0 21 = -1 → mo_f G H0 a0 21 = -1 ∧ mo_test o cv d t (mo_f G H1 a0 19)) ∧ (f_X12_readTest d (dv G Γ H0) (a0 : Int) p1.toInt = (dv G Γ H1, 0))) G) ([.ref a0, .int p1] : List Value).toArray s 0 0 (fun q => G.1.2.2 ≤ q)) (F0 m 5 ls []) := by
    intro n5
    induction n5 with
    | zero => intro H5 locs ls hB hR hl hF g5_0 hm5; exact absurd hm5 (by have := mo_lpr g5_0; omega)
    | succ n5 ih5 =>
      intro H5 locs ls hB hR hl hF g5_0 hm5
      have wd_H5 := mo_wd_F hB.2.2 h0 (by decide) k3
      have cr_H5 : mo_rd G H5 a0 cv := mo_rd_F hB.1 hB.2.2 h0 (by decide) k1
      have fv1_18 : mo_f G H5 a0 18 = mo_f G H0 a0 18 := mo_f_F hB.2.2 h0 (by decide) (by decide)
      have vw_H5_15 : mo_v G H5 a0 15 = mo_v G H0 a0 15 := mo_v_F (r := 55) hB.1 hB.2.2 h0 rfl ro_55 (by decide) (by decide)
      have hm5 : mo_f G H0 a0 18 - mo_f G H5 a0 19 + 1 ≤ (n5 : Int) + 1 := by omega
      replace hF := hF.trans (dv_lp_eq)
      replace hF := hF.trans (congrArg (dv_k (f_X12_readTest_5b d (f_X12_readBoth d))) (f_X12_readTest_5c.eq_1 d (f_X12_readBoth d) (dv G Γ H5) ((a0 : Int)) (p1.toInt)))
      refine lv_aload_n hx hb gX12_readTest_0.2.2.2.1 rfl (lv_at hl 0 rfl) ?_
      obtain ⟨m5, a5, b5, c5, e5⟩ := g5_0
      refine lv_iconst (v := 5) hx hb gX12_readTest_0.2.2.2.2.1 (by decide) ?_
      refine th_call (th_runV (As := [.int 5]) (rest := []) hC mf_X12_takes0 km_X12_199 im_X12_takes0 se_X12_takes0 (c_X12_takes0 l G Γ H5 hB.1 hR hU a0 h0 5 (by decide) cv m5 cr_H5 ⟨by omega, by omega, by omega⟩) rfl rfl ⟨by dsimp only; omega, by dsimp only; omega⟩ hB.1 h0 ro_46 rfl rfl hl.1 rfl (Nat.le_of_ble_eq_true rfl) gX12_readTest_0.2.2.2.2.2.1 ⟨Nat.le_refl _, Nat.le_refl _⟩) hB.2.1 (fun v7 H7 locs hp hz hS => ?_)
      obtain ⟨x2, rfl, lx2, ux2, hI1, hf, hR, z7_0, z7_1, z7_2, z7_3⟩ := hp
      have hB := th_B_c hB hI1 hS hf (by decide)
      have fv_H7_18 : mo_f G H7 a0 18 = mo_f G H5 a0 18 := mo_f_F hf h0 (by decide) (by decide)
      have fv_H7_21 : mo_f G H7 a0 21 = mo_f G H5 a0 21 := mo_f_F hf h0 (by decide) (by decide)
      have vv_H7_15 : mo_v G H7 a0 15 = mo_v G H5 a0 15 := mo_v_F (r := 55) hB.1 hf h0 rfl ro_55 (by decide) (by decide)
      have wd_H7 := mo_wd_F hB.2.2 h0 (by decide) k3
      have cr_H7 : mo_rd G H7 a0 cv := mo_rd_F hB.1 hB.2.2 h0 (by decide) k1
      have zf7 := z7_3
      rw [tk_5] at zf7
      replace hF := hF.trans (congrArg (dv_k (f_X12_readTest_5b d (f_X12_readBoth d))) (dv_bn2 (zf7)))
      refine W.eq (g2 := F0 m 10 ls [.int x2]) rfl ?_
      have tkw := tk_5
      refine tr_if_eq (tgt := 21) hx hb gX12_readTest_0.2.2.2.2.2.2.1 (by decide) (Eq.refl _) (fun c10 => ?_) (fun c10 => ?_)
      · specialize z7_1 (by omega); clear z7_0
        replace hF := hF.trans (congrArg (dv_k (f_X12_readTest_5b d (f_X12_readBoth d))) (if_pos c10))
        replace hF := hF.trans (dv_kr)
        exact th_vret hC hH hr hlocks hB.2.1 ⟨rfl, hB.1, hB.2.2, hR, ⟨by omega, by omega⟩, fun h9 => by obtain ⟨q1, q2⟩ := e5 (by omega); exact ⟨q1, by rw [show mo_f G H7 a0 19 = m5 by omega]; exact mo_pre_e q2 (show ¬ (cv m5 = 5) by omega)⟩, (hF0.symm.trans hF)⟩ gX12_readTest_1.2.2.2
      · specialize z7_0 (by omega); clear z7_1
        replace hF := hF.trans (congrArg (dv_k (f_X12_readTest_5b d (f_X12_readBoth d))) (if_neg c10))
        refine lv_aload_n hx hb gX12_readTest_0.2.2.2.2.2.2.2 rfl (lv_at hl 0 rfl) ?_
        refine lv_iload_n hx hb gX12_readTest_1.1 rfl (lv_at hl 1 rfl) ?_
        refine th_call (th_runV (As := [.int p1]) (rest := []) hC mf_X12_readBoth km_X12_234 im_X12_readBoth se_X12_readBoth (ihp l G Γ H7 hB.1 hR hU a0 h0 p1 (by omega) (by omega) o cv (m5 + 1) cr_H7 ⟨by omega, by omega, by omega⟩ wd_H7 (by omega)) rfl rfl ⟨by dsimp only; omega, by dsimp only; omega⟩ hB.1 h0 ro_46 rfl rfl hl.1 rfl (Nat.le_of_ble_eq_true rfl) gX12_readTest_1.2.1 ⟨Nat.le_refl _, Nat.le_refl _⟩) hB.2.1 (fun v15 H15 locs hp hz hS => ?_)
        obtain ⟨rfl, hI1, hf, hR, z15_0, z15_1, z15_2⟩ := hp
        have hB := th_B_c hB hI1 hS hf (by decide)
        have fv_H15_18 : mo_f G H15 a0 18 = mo_f G H7 a0 18 := mo_f_F hf h0 (by decide) (by decide)
        have vv_H15_15 : mo_v G H15 a0 15 = mo_v G H7 a0 15 := mo_v_F (r := 55) hB.1 hf h0 rfl ro_55 (by decide) (by decide)
        have wd_H15 := mo_wd_F hB.2.2 h0 (by decide) k3
        have cr_H15 : mo_rd G H15 a0 cv := mo_rd_F hB.1 hB.2.2 h0 (by decide) k1
        replace hF := hF.trans (congrArg (dv_k (f_X12_readTest_5b d (f_X12_readBoth d))) (dv_bn2 (z15_2)))
        refine W.eq (g2 := F0 m 18 ls []) rfl ?_
        refine lv_goto (tgt := 5) hx hb gX12_readTest_1.2.2.1 (by decide) ?_
        replace hF := hF.trans (dv_kl)
        exact ih5 H15 locs ls hB hR (lv_sub hl [0, 1] rfl) hF ⟨_, rfl, by omega, by omega, fun h9 => by obtain ⟨q3, q4⟩ := z15_1 h9; obtain ⟨q1, q2⟩ := e5 (by omega); exact ⟨q1, mo_pre_s q2 (show cv m5 = 5 by omega) q4⟩⟩ (by omega)
  exact lp5 (mo_f G H0 a0 18 - mo_f G H2 a0 19 + 1).toNat H2 locs ls hB hR (lv_sub hl [0, 1] rfl) hF ⟨_, rfl, by omega, by omega, fun h9 => ⟨(z2_1 h9).1, mo_pre_0 (z2_1 h9).2⟩⟩ (by omega)

theorem c_X12_readTest_d (d : Nat) : s_X12_readTest d := by
  induction d with
  | zero => exact (c_X12_readTest_s 0 (c_X12_readBoth_s 0 (c_X12_readPlain_s 0 (fun d' h => absurd h (by omega)))))
  | succ d ih => exact (c_X12_readTest_s (d + 1) (c_X12_readBoth_s (d + 1) (c_X12_readPlain_s (d + 1) (fun d' h => by cases h; exact ih))))
theorem c_X12_readPlain_d (d : Nat) : s_X12_readPlain d := c_X12_readPlain_s d (fun d' _ => c_X12_readTest_d d')
theorem c_X12_readBoth_d (d : Nat) : s_X12_readBoth d := c_X12_readBoth_s d (c_X12_readPlain_d d)
end
section
set_option maxHeartbeats 4000000 in
set_option maxRecDepth 100000 in
theorem c_X12_readClause (l : Launch) (G : th_G) (Γ : th_Ga) (H0 : Heap) (hI : th_I G Γ H0) (hR : th_RC G Γ H0) (hU : dv_U Γ) (a0 : Nat) (h0 : Γ a0 = (46, 0)) (cv : Int → Int) (t : Int) (k1 : mo_rd G H0 a0 cv) (k2 : mo_f G H0 a0 19 = t ∧ 0 ≤ t ∧ t ≤ mo_f G H0 a0 18) (k3 : mo_wd G H0 a0 0) : Met l yX12_readClause (.code yX12_readClause cX12_readClause 1 (none) :: th_tb) ({ frames := 71, cells := 0, slots := 0, locals := 2165 } : Room) (th_P [.ref a0] G H0) (th_Q (fun (v : Option Value) (H1 : Heap) => v = none ∧ th_I G Γ H1 ∧ th_F G Γ [(46, 19), (46, 20), (46, 21)] H0 H1 ∧ th_RC G Γ H1 ∧ (t ≤ mo_f G H1 a0 19 ∧ mo_f G H1 a0 19 ≤ mo_f G H0 a0 18) ∧ (mo_f G H1 a0 21 = -1 → mo_f G H0 a0 21 = -1 ∧ mo_cla cv t (mo_f G H1 a0 19)) ∧ (f_X12_readClause (dv G Γ H0) (a0 : Int) = (dv G Γ H1, 0))) G) 0 0 (fun q => G.1.2.2 ≤ q) := by
  refine th_met RX12 (by decide) rfl (Nat.le_of_ble_eq_true rfl) ?_
  intro p e s m below meth c hC hH hr hlocks hnm ls hl
  have hx := hC.1
  have hb := hC.2.1
  have hB : th_B G Γ Γ [(46, 19), (46, 20), (46, 21)] H0 H0 [] := ⟨hI, va_S.rf, th_F_rf⟩
  have hl : lv_has ls 1 [(0, .ref a0)] := hl
  obtain ⟨F, hF0⟩ : ∃ F, F = f_X12_readClause (dv G Γ H0) ((a0 : Int)) := ⟨_, rfl⟩
  have hF := hF0.trans (f_X12_readClause.eq_1 (dv G Γ H0) ((a0 : Int)))
  refine lv_aload_n hx hb gX12_readClause_0.1 rfl (lv_at hl 0 rfl) ?_
  refine lv_iconst (v := 1) hx hb gX12_readClause_0.2.1 (by decide) ?_
  refine th_call (th_runV (As := [.int 1]) (rest := []) hC mf_X12_takes0 km_X12_199 im_X12_takes0 se_X12_takes0 (c_X12_takes0 l G Γ H0 hB.1 hR hU a0 h0 1 (by decide) cv t k1 ⟨by omega, by omega, by omega⟩) rfl rfl ⟨Nat.le_of_ble_eq_true rfl, Nat.le_of_ble_eq_true rfl⟩ hB.1 h0 ro_46 rfl rfl hl.1 rfl (Nat.le_of_ble_eq_true rfl) gX12_readClause_0.2.2.1 ⟨Nat.le_refl _, Nat.le_refl _⟩) hB.2.1 (fun v2 H2 locs hp hz hS => ?_)
  obtain ⟨x1, rfl, lx1, ux1, hI1, hf, hR, z2_0, z2_1, z2_2, z2_3⟩ := hp
  have hB := th_B_c hB hI1 hS hf (by decide)
  have fv_H2_18 : mo_f G H2 a0 18 = mo_f G H0 a0 18 := mo_f_F hf h0 (by decide) (by decide)
  have fv_H2_21 : mo_f G H2 a0 21 = mo_f G H0 a0 21 := mo_f_F hf h0 (by decide) (by decide)
  have wd_H2 := mo_wd_F hB.2.2 h0 (by decide) k3
  have cr_H2 : mo_rd G H2 a0 cv := mo_rd_F hB.1 hB.2.2 h0 (by decide) k1
  have zf2 := z2_3
  rw [tk_1] at zf2
  replace hF := hF.trans (dv_bn2 (zf2))
  refine W.eq (g2 := F0 m 5 ls [.int x1]) rfl ?_
  have tk1 := tk_1
  have jn29 : ∀ (H29 : Heap) (locs : List Loc) (ls : Array Slot) , th_B G Γ Γ [(46, 19), (46, 20), (46, 21)] H0 H29 locs → th_RC G Γ H29 → lv_has ls 1 [(0, .ref a0)] → F = f_X12_readClause_29 (dv G Γ H29) ((a0 : Int)) → (t ≤ mo_f G H29 a0 19 ∧ mo_f G H29 a0 19 ≤ mo_f G H0 a0 18) → (mo_f G H29 a0 21 = -1 → mo_f G H0 a0 21 = -1 ∧ mo_clh cv t (mo_f G H29 a0 19)) → W p l e ({ frames := 71, cells := 0, slots := 0, locals := 2165 } : Room) s m ([.ref a0] : List Value).toArray below meth c H29 locs 0 0 (MQ below (th_Q (fun (v : Option Value) (H1 : Heap) => v = none ∧ th_I G Γ H1 ∧ th_F G Γ [(46, 19), (46, 20), (46, 21)] H0 H1 ∧ th_RC G Γ H1 ∧ (t ≤ mo_f G H1 a0 19 ∧ mo_f G H1 a0 19 ≤ mo_f G H0 a0 18) ∧ (mo_f G H1 a0 21 = -1 → mo_f G H0 a0 21 = -1 ∧ mo_cla cv t (mo_f G H1 a0 19)) ∧ (f_X12_readClause (dv G Γ H0) (a0 : Int) = (dv G Γ H1, 0))) G) ([.ref a0] : List Value).toArray s 0 0 (fun q => G.1.2.2 ≤ q)) (F0 m 29 ls []) := by
    intro H29 locs ls hB hR hl hF g29_0 g29_1
    have wd_H29 := mo_wd_F hB.2.2 h0 (by decide) k3
    have cr_H29 : mo_rd G H29 a0 cv := mo_rd_F hB.1 hB.2.2 h0 (by decide) k1
    have fv2_18 : mo_f G H29 a0 18 = mo_f G H0 a0 18 := mo_f_F hB.2.2 h0 (by decide) (by decide)
    replace hF := hF.trans (f_X12_readClause_29.eq_1 (dv G Γ H29) ((a0 : Int)))
    refine lv_aload_n hx hb gX12_readClause_1.2.2.2.2.2.2.2 rfl (lv_at hl 0 rfl) ?_
    have b29 := g29_0
    have e29 := g29_1
    refine lv_iconst (v := 4) hx hb gX12_readClause_2.1 (by decide) ?_
    refine th_call (th_runV (As := [.int 4]) (rest := []) hC mf_X12_takes0 km_X12_199 im_X12_takes0 se_X12_takes0 (c_X12_takes0 l G Γ H29 hB.1 hR hU a0 h0 4 (by decide) cv (mo_f G H29 a0 19) cr_H29 ⟨by omega, by omega, by omega⟩) rfl rfl ⟨Nat.le_of_ble_eq_true rfl, Nat.le_of_ble_eq_true rfl⟩ hB.1 h0 ro_46 rfl rfl hl.1 rfl (Nat.le_of_ble_eq_true rfl) gX12_readClause_2.2.1 ⟨Nat.le_refl _, Nat.le_refl _⟩) hB.2.1 (fun v31 H31 locs hp hz hS => ?_)
    obtain ⟨x3, rfl, lx3, ux3, hI1, hf, hR, z31_0, z31_1, z31_2, z31_3⟩ := hp
    have hB := th_B_c hB hI1 hS hf (by decide)
    have fv_H31_18 : mo_f G H31 a0 18 = mo_f G H29 a0 18 := mo_f_F hf h0 (by decide) (by decide)
    have fv_H31_21 : mo_f G H31 a0 21 = mo_f G H29 a0 21 := mo_f_F hf h0 (by decide) (by decide)
    have wd_H31 := mo_wd_F hB.2.2 h0 (by decide) k3
    have cr_H31 : mo_rd G H31 a0 cv := mo_rd_F hB.1 hB.2.2 h0 (by decide) k1
    have zf31 := z31_3
    rw [tk_4] at zf31
    replace hF := hF.trans (dv_bn2 (zf31))
    refine W.eq (g2 := F0 m 34 ls [.int x3]) rfl ?_
    have tk4 := tk_4
    refine tr_if_eq (tgt := 42) hx hb gX12_readClause_2.2.2.1 (by decide) (Eq.refl _) (fun c34 => ?_) (fun c34 => ?_)
    · specialize z31_1 (by omega); clear z31_0
      replace hF := hF.trans (if_pos c34)
      exact th_vret hC hH hr hlocks hB.2.1 ⟨rfl, hB.1, hB.2.2, hR, ⟨by omega, by omega⟩, fun h9 => by obtain ⟨q6, q7⟩ := e29 (by omega); obtain ⟨q3, q4⟩ := z31_1; exact ⟨q6, mo_cla_h q7 (mo_if_n (q4 (by omega)) q3)⟩, (hF0.symm.trans hF)⟩ gX12_readClause_2.2.2.2.2.2.2
    · specialize z31_0 (by omega); clear z31_1
      replace hF := hF.trans (if_neg c34)
      refine lv_aload_n hx hb gX12_readClause_2.2.2.2.1 rfl (lv_at hl 0 rfl) ?_
      refine lv_iconst (v := 0) hx hb gX12_readClause_2.2.2.2.2.1 (by decide) ?_
      refine th_call (th_runV (As := [.int 0]) (rest := []) hC mf_X12_readTest km_X12_214 im_X12_readTest se_X12_readTest (c_X12_readTest_d 8 l G Γ H31 hB.1 hR hU a0 h0 0 (by decide) (by decide) 0 cv (mo_f G H31 a0 19) cr_H31 ⟨by omega, by omega, by omega⟩ wd_H31 (by have w0 := tk_0; omega)) rfl rfl ⟨Nat.le_of_ble_eq_true rfl, Nat.le_of_ble_eq_true rfl⟩ hB.1 h0 ro_46 rfl rfl hl.1 rfl (Nat.le_of_ble_eq_true rfl) gX12_readClause_2.2.2.2.2.2.1 ⟨Nat.le_refl _, Nat.le_refl _⟩) hB.2.1 (fun v39 H39 locs hp hz hS => ?_)
      obtain ⟨rfl, hI1, hf, hR, z39_0, z39_1, z39_2⟩ := hp
      have hB := th_B_c hB hI1 hS hf (by decide)
      have fv_H39_18 : mo_f G H39 a0 18 = mo_f G H31 a0 18 := mo_f_F hf h0 (by decide) (by decide)
      have wd_H39 := mo_wd_F hB.2.2 h0 (by decide) k3
      have cr_H39 : mo_rd G H39 a0 cv := mo_rd_F hB.1 hB.2.2 h0 (by decide) k1
      have zf39 := z39_2
      rw [tk_0] at zf39
      replace hF := hF.trans (dv_bn2 (zf39))
      refine W.eq (g2 := F0 m 42 ls []) rfl ?_
      have tk0 := tk_0
      exact th_vret hC hH hr hlocks hB.2.1 ⟨rfl, hB.1, hB.2.2, hR, ⟨by omega, by omega⟩, fun h9 => by obtain ⟨q1, q2⟩ := z39_1 h9; obtain ⟨q3, q4, q5⟩ := z31_0; obtain ⟨q6, q7⟩ := e29 (by omega); exact ⟨q6, mo_cla_h q7 (mo_if_y q4 q5 q2)⟩, (hF0.symm.trans hF)⟩ gX12_readClause_2.2.2.2.2.2.2
  have jn16 : ∀ (H16 : Heap) (locs : List Loc) (ls : Array Slot) , th_B G Γ Γ [(46, 19), (46, 20), (46, 21)] H0 H16 locs → th_RC G Γ H16 → lv_has ls 1 [(0, .ref a0)] → F = f_X12_readClause_16 (dv G Γ H16) ((a0 : Int)) → (mo_f G H16 a0 19 = t + 1 ∧ t + 1 ≤ mo_f G H0 a0 18) → (mo_f G H16 a0 21 = -1 ∧ mo_f G H0 a0 21 = -1 ∧ (cv t = 1 ∨ cv t = 2)) → W p l e ({ frames := 71, cells := 0, slots := 0, locals := 2165 } : Room) s m ([.ref a0] : List Value).toArray below meth c H16 locs 0 0 (MQ below (th_Q (fun (v : Option Value) (H1 : Heap) => v = none ∧ th_I G Γ H1 ∧ th_F G Γ [(46, 19), (46, 20), (46, 21)] H0 H1 ∧ th_RC G Γ H1 ∧ (t ≤ mo_f G H1 a0 19 ∧ mo_f G H1 a0 19 ≤ mo_f G H0 a0 18) ∧ (mo_f G H1 a0 21 = -1 → mo_f G H0 a0 21 = -1 ∧ mo_cla cv t (mo_f G H1 a0 19)) ∧ (f_X12_readClause (dv G Γ H0) (a0 : Int) = (dv G Γ H1, 0))) G) ([.ref a0] : List Value).toArray s 0 0 (fun q => G.1.2.2 ≤ q)) (F0 m 16 ls []) := by
    intro H16 locs ls hB hR hl hF g16_0 g16_1
    have wd_H16 := mo_wd_F hB.2.2 h0 (by decide) k3
    have cr_H16 : mo_rd G H16 a0 cv := mo_rd_F hB.1 hB.2.2 h0 (by decide) k1
    have fv4_18 : mo_f G H16 a0 18 = mo_f G H0 a0 18 := mo_f_F hB.2.2 h0 (by decide) (by decide)
    replace hF := hF.trans (f_X12_readClause_16.eq_1 (dv G Γ H16) ((a0 : Int)))
    refine lv_aload_n hx hb gX12_readClause_1.1 rfl (lv_at hl 0 rfl) ?_
    refine lv_iconst (v := 0) hx hb gX12_readClause_1.2.1 (by decide) ?_
    refine th_call (th_runV (As := [.int 0]) (rest := []) hC mf_X12_readSum km_X12_208 im_X12_readSum se_X12_readSum (c_X12_readSum_d 8 l G Γ H16 hB.1 hR hU a0 h0 0 (by decide) (by decide) 0 cv (mo_f G H16 a0 19) cr_H16 ⟨by omega, by omega, by omega⟩ wd_H16 (by have w0 := tk_0; omega)) rfl rfl ⟨Nat.le_of_ble_eq_true rfl, Nat.le_of_ble_eq_true rfl⟩ hB.1 h0 ro_46 rfl rfl hl.1 rfl (Nat.le_of_ble_eq_true rfl) gX12_readClause_1.2.2.1 ⟨Nat.le_refl _, Nat.le_refl _⟩) hB.2.1 (fun v18 H18 locs hp hz hS => ?_)
    obtain ⟨rfl, hI1, hf, hR, z18_0, z18_1, z18_2⟩ := hp
    have hB := th_B_c hB hI1 hS hf (by decide)
    have fv_H18_18 : mo_f G H18 a0 18 = mo_f G H16 a0 18 := mo_f_F hf h0 (by decide) (by decide)
    have wd_H18 := mo_wd_F hB.2.2 h0 (by decide) k3
    have cr_H18 : mo_rd G H18 a0 cv := mo_rd_F hB.1 hB.2.2 h0 (by decide) k1
    have zf18 := z18_2
    rw [tk_0] at zf18
    replace hF := hF.trans (dv_bn2 (zf18))
    refine W.eq (g2 := F0 m 21 ls []) rfl ?_
    have tk0 := tk_0
    refine lv_goto (tgt := 29) hx hb gX12_readClause_1.2.2.2.1 (by decide) ?_
    exact jn29 H18 locs ls hB hR (lv_sub hl [0] rfl) hF ⟨by omega, by omega⟩ (fun h9 => by obtain ⟨q1, q2⟩ := z18_1 h9; obtain ⟨q3, q4, q5⟩ := g16_1; exact ⟨q4, Or.inl ⟨q5, by rw [show mo_f G H16 a0 19 = t + 1 by omega] at q2; exact q2⟩⟩)
  refine tr_if_ne (tgt := 16) hx hb gX12_readClause_0.2.2.2.1 (by decide) (Eq.refl _) (fun c5 => ?_) (fun c5 => ?_)
  · specialize z2_0 (by omega); clear z2_1
    replace hF := hF.trans (if_pos c5)
    exact jn16 H2 locs ls hB hR (lv_sub hl [0] rfl) hF (by omega) ⟨by omega, by omega, by omega⟩
  · specialize z2_1 (by omega); clear z2_0
    replace hF := hF.trans (if_neg (not_not_intro c5))
    refine lv_aload_n hx hb gX12_readClause_0.2.2.2.2.1 rfl (lv_at hl 0 rfl) ?_
    refine lv_iconst (v := 2) hx hb gX12_readClause_0.2.2.2.2.2.1 (by decide) ?_
    refine th_call (th_runV (As := [.int 2]) (rest := []) hC mf_X12_takes0 km_X12_199 im_X12_takes0 se_X12_takes0 (c_X12_takes0 l G Γ H2 hB.1 hR hU a0 h0 2 (by decide) cv t cr_H2 ⟨by omega, by omega, by omega⟩) rfl rfl ⟨Nat.le_of_ble_eq_true rfl, Nat.le_of_ble_eq_true rfl⟩ hB.1 h0 ro_46 rfl rfl hl.1 rfl (Nat.le_of_ble_eq_true rfl) gX12_readClause_0.2.2.2.2.2.2.1 ⟨Nat.le_refl _, Nat.le_refl _⟩) hB.2.1 (fun v10 H10 locs hp hz hS => ?_)
    obtain ⟨x5, rfl, lx5, ux5, hI1, hf, hR, z10_0, z10_1, z10_2, z10_3⟩ := hp
    have hB := th_B_c hB hI1 hS hf (by decide)
    have fv_H10_18 : mo_f G H10 a0 18 = mo_f G H2 a0 18 := mo_f_F hf h0 (by decide) (by decide)
    have fv_H10_21 : mo_f G H10 a0 21 = mo_f G H2 a0 21 := mo_f_F hf h0 (by decide) (by decide)
    have wd_H10 := mo_wd_F hB.2.2 h0 (by decide) k3
    have cr_H10 : mo_rd G H10 a0 cv := mo_rd_F hB.1 hB.2.2 h0 (by decide) k1
    have zf10 := z10_3
    rw [tk_2] at zf10
    replace hF := hF.trans (dv_bn2 (zf10))
    refine W.eq (g2 := F0 m 13 ls [.int x5]) rfl ?_
    have tk2 := tk_2
    refine tr_if_eq (tgt := 24) hx hb gX12_readClause_0.2.2.2.2.2.2.2 (by decide) (Eq.refl _) (fun c13 => ?_) (fun c13 => ?_)
    · specialize z10_1 (by omega); clear z10_0
      replace hF := hF.trans (if_pos c13)
      refine lv_aload_n hx hb gX12_readClause_1.2.2.2.2.1 rfl (lv_at hl 0 rfl) ?_
      refine lv_iconst (v := 3) hx hb gX12_readClause_1.2.2.2.2.2.1 (by decide) ?_
      refine th_call (th_runV (As := [.int 3]) (rest := []) hC mf_X12_must km_X12_211 im_X12_must se_X12_must (c_X12_must l G Γ H10 hB.1 hR hU a0 h0 3 (by decide) cv (mo_f G H10 a0 19) cr_H10 ⟨by omega, by omega, by omega⟩) rfl rfl ⟨Nat.le_of_ble_eq_true rfl, Nat.le_of_ble_eq_true rfl⟩ hB.1 h0 ro_46 rfl rfl hl.1 rfl (Nat.le_of_ble_eq_true rfl) gX12_readClause_1.2.2.2.2.2.2.1 ⟨Nat.le_refl _, Nat.le_refl _⟩) hB.2.1 (fun v26 H26 locs hp hz hS => ?_)
      obtain ⟨rfl, hI1, hf, hR, z26_0, z26_1, z26_2⟩ := hp
      have hB := th_B_c hB hI1 hS hf (by decide)
      have fv_H26_18 : mo_f G H26 a0 18 = mo_f G H10 a0 18 := mo_f_F hf h0 (by decide) (by decide)
      have wd_H26 := mo_wd_F hB.2.2 h0 (by decide) k3
      have cr_H26 : mo_rd G H26 a0 cv := mo_rd_F hB.1 hB.2.2 h0 (by decide) k1
      have zf26 := z26_2
      rw [tk_3] at zf26
      replace hF := hF.trans (dv_bn2 (zf26))
      refine W.eq (g2 := F0 m 29 ls []) rfl ?_
      have tk3 := tk_3
      exact jn29 H26 locs ls hB hR (lv_sub hl [0] rfl) hF ⟨by omega, by omega⟩ (fun h9 => by obtain ⟨q1, q2, q3⟩ := z26_1 h9; exact ⟨by omega, Or.inr ⟨by rw [show mo_f G H10 a0 19 = t by omega] at q2; omega, by omega⟩⟩)
    · specialize z10_0 (by omega); clear z10_1
      replace hF := hF.trans (if_neg c13)
      exact jn16 H10 locs ls hB hR (lv_sub hl [0] rfl) hF (by omega) ⟨by omega, by omega, by omega⟩

set_option maxHeartbeats 4000000 in
set_option maxRecDepth 100000 in
theorem c_X12_readMore (l : Launch) (G : th_G) (Γ : th_Ga) (H0 : Heap) (hI : th_I G Γ H0) (hR : th_RC G Γ H0) (hU : dv_U Γ) (a0 : Nat) (h0 : Γ a0 = (46, 0)) (p1 : Int32) (f1 : 1 ≤ p1.toInt) (o : Int) (cv : Int → Int) (t : Int) (k1 : mo_rd G H0 a0 cv) (k2 : mo_f G H0 a0 19 = t ∧ 0 ≤ t ∧ t ≤ mo_f G H0 a0 18) (k3 : mo_wd G H0 a0 o) : Met l yX12_readMore (.code yX12_readMore cX12_readMore 2 (none) :: th_tb) ({ frames := 39, cells := 0, slots := 0, locals := 1104 } : Room) (th_P [.ref a0, .int p1] G H0) (th_Q (fun (v : Option Value) (H1 : Heap) => v = none ∧ th_I G Γ H1 ∧ th_F G Γ [(46, 19), (46, 20), (46, 21)] H0 H1 ∧ th_RC G Γ H1 ∧ (t ≤ mo_f G H1 a0 19 ∧ mo_f G H1 a0 19 ≤ mo_f G H0 a0 18) ∧ (mo_f G H1 a0 21 = -1 → mo_f G H0 a0 21 = -1 ∧ cv t = p1.toInt ∧ mo_sum o cv 8 (t + 1) (mo_f G H1 a0 19)) ∧ (f_X12_readMore (dv G Γ H0) (a0 : Int) p1.toInt = (dv G Γ H1, 0))) G) 0 0 (fun q => G.1.2.2 ≤ q) := by
  refine th_met RX12 (by decide) rfl (Nat.le_of_ble_eq_true rfl) ?_
  intro p e s m below meth c hC hH hr hlocks hnm ls hl
  have hx := hC.1
  have hb := hC.2.1
  have hB : th_B G Γ Γ [(46, 19), (46, 20), (46, 21)] H0 H0 [] := ⟨hI, va_S.rf, th_F_rf⟩
  have hl : lv_has ls 2 [(0, .ref a0), (1, .int p1)] := hl
  have lp1 := ti_lo p1; have up1 := ti_hi p1
  obtain ⟨F, hF0⟩ : ∃ F, F = f_X12_readMore (dv G Γ H0) ((a0 : Int)) (p1.toInt) := ⟨_, rfl⟩
  have hF := hF0.trans (f_X12_readMore.eq_1 (dv G Γ H0) ((a0 : Int)) (p1.toInt))
  refine lv_aload_n hx hb gX12_readMore_0.1 rfl (lv_at hl 0 rfl) ?_
  refine lv_iload_n hx hb gX12_readMore_0.2.1 rfl (lv_at hl 1 rfl) ?_
  refine th_call (th_runV (As := [.int p1]) (rest := []) hC mf_X12_must km_X12_211 im_X12_must se_X12_must (c_X12_must l G Γ H0 hB.1 hR hU a0 h0 p1 (by omega) cv t k1 ⟨by omega, by omega, by omega⟩) rfl rfl ⟨Nat.le_of_ble_eq_true rfl, Nat.le_of_ble_eq_true rfl⟩ hB.1 h0 ro_46 rfl rfl hl.1 rfl (Nat.le_of_ble_eq_true rfl) gX12_readMore_0.2.2.1 ⟨Nat.le_refl _, Nat.le_refl _⟩) hB.2.1 (fun v2 H2 locs hp hz hS => ?_)
  obtain ⟨rfl, hI1, hf, hR, z2_0, z2_1, z2_2⟩ := hp
  have hB := th_B_c hB hI1 hS hf (by decide)
  have fv_H2_18 : mo_f G H2 a0 18 = mo_f G H0 a0 18 := mo_f_F hf h0 (by decide) (by decide)
  have wd_H2 := mo_wd_F hB.2.2 h0 (by decide) k3
  have cr_H2 : mo_rd G H2 a0 cv := mo_rd_F hB.1 hB.2.2 h0 (by decide) k1
  replace hF := hF.trans (dv_bn2 (z2_2))
  refine W.eq (g2 := F0 m 5 ls []) rfl ?_
  refine lv_aload_n hx hb gX12_readMore_0.2.2.2.1 rfl (lv_at hl 0 rfl) ?_
  refine lv_iconst (v := 0) hx hb gX12_readMore_0.2.2.2.2.1 (by decide) ?_
  refine th_call (th_runV (As := [.int 0]) (rest := []) hC mf_X12_readSum km_X12_208 im_X12_readSum se_X12_readSum (c_X12_readSum_d 8 l G Γ H2 hB.1 hR hU a0 h0 0 (by decide) (by decide) o cv (mo_f G H2 a0 19) cr_H2 ⟨by omega, by omega, by omega⟩ wd_H2 (by have w0 := tk_0; omega)) rfl rfl ⟨Nat.le_of_ble_eq_true rfl, Nat.le_of_ble_eq_true rfl⟩ hB.1 h0 ro_46 rfl rfl hl.1 rfl (Nat.le_of_ble_eq_true rfl) gX12_readMore_0.2.2.2.2.2.1 ⟨Nat.le_refl _, Nat.le_refl _⟩) hB.2.1 (fun v7 H7 locs hp hz hS => ?_)
  obtain ⟨rfl, hI1, hf, hR, z7_0, z7_1, z7_2⟩ := hp
  have hB := th_B_c hB hI1 hS hf (by decide)
  have fv_H7_18 : mo_f G H7 a0 18 = mo_f G H2 a0 18 := mo_f_F hf h0 (by decide) (by decide)
  have wd_H7 := mo_wd_F hB.2.2 h0 (by decide) k3
  have cr_H7 : mo_rd G H7 a0 cv := mo_rd_F hB.1 hB.2.2 h0 (by decide) k1
  have zf7 := z7_2
  rw [tk_0] at zf7
  replace hF := hF.trans (dv_bn2 (zf7))
  refine W.eq (g2 := F0 m 10 ls []) rfl ?_
  have tk0 := tk_0
  exact th_vret hC hH hr hlocks hB.2.1 ⟨rfl, hB.1, hB.2.2, hR, ⟨by omega, by omega⟩, fun h9 => by obtain ⟨q1, q2⟩ := z7_1 h9; obtain ⟨q3, q4, q5⟩ := z2_1 q1; exact ⟨q3, q4, by rw [q5] at q2; exact q2⟩, (hF0.symm.trans hF)⟩ gX12_readMore_0.2.2.2.2.2.2

set_option maxHeartbeats 4000000 in
set_option maxRecDepth 100000 in
theorem c_X12_readOrder (l : Launch) (G : th_G) (Γ : th_Ga) (H0 : Heap) (hI : th_I G Γ H0) (hR : th_RC G Γ H0) (hU : dv_U Γ) (a0 : Nat) (h0 : Γ a0 = (46, 0)) (cv : Int → Int) (t : Int) (k1 : mo_rd G H0 a0 cv) (k2 : mo_f G H0 a0 19 = t ∧ 0 ≤ t ∧ t ≤ mo_f G H0 a0 18) (k3 : mo_wd G H0 a0 1) : Met l yX12_readOrder (.code yX12_readOrder cX12_readOrder 1 (none) :: th_tb) ({ frames := 71, cells := 0, slots := 0, locals := 2165 } : Room) (th_P [.ref a0] G H0) (th_Q (fun (v : Option Value) (H1 : Heap) => v = none ∧ th_I G Γ H1 ∧ th_F G Γ [(46, 19), (46, 20), (46, 21)] H0 H1 ∧ th_RC G Γ H1 ∧ (t ≤ mo_f G H1 a0 19 ∧ mo_f G H1 a0 19 ≤ mo_f G H0 a0 18) ∧ (mo_f G H1 a0 21 = -1 → mo_f G H0 a0 21 = -1 ∧ mo_ord cv t (mo_f G H1 a0 19)) ∧ (f_X12_readOrder (dv G Γ H0) (a0 : Int) = (dv G Γ H1, 0))) G) 0 0 (fun q => G.1.2.2 ≤ q) := by
  refine th_met RX12 (by decide) rfl (Nat.le_of_ble_eq_true rfl) ?_
  intro p e s m below meth c hC hH hr hlocks hnm ls hl
  have hx := hC.1
  have hb := hC.2.1
  have hB : th_B G Γ Γ [(46, 19), (46, 20), (46, 21)] H0 H0 [] := ⟨hI, va_S.rf, th_F_rf⟩
  have hl : lv_has ls 1 [(0, .ref a0)] := hl
  obtain ⟨F, hF0⟩ : ∃ F, F = f_X12_readOrder (dv G Γ H0) ((a0 : Int)) := ⟨_, rfl⟩
  have hF := hF0.trans (f_X12_readOrder.eq_1 (dv G Γ H0) ((a0 : Int)))
  refine lv_aload_n hx hb gX12_readOrder_0.1 rfl (lv_at hl 0 rfl) ?_
  refine lv_bipush (v := 21) hx hb gX12_readOrder_0.2.1 (by decide) ?_
  refine th_call (th_runV (As := [.int 21]) (rest := []) hC mf_X12_takes0 km_X12_199 im_X12_takes0 se_X12_takes0 (c_X12_takes0 l G Γ H0 hB.1 hR hU a0 h0 21 (by decide) cv t k1 ⟨by omega, by omega, by omega⟩) rfl rfl ⟨Nat.le_of_ble_eq_true rfl, Nat.le_of_ble_eq_true rfl⟩ hB.1 h0 ro_46 rfl rfl hl.1 rfl (Nat.le_of_ble_eq_true rfl) gX12_readOrder_0.2.2.1 ⟨Nat.le_refl _, Nat.le_refl _⟩) hB.2.1 (fun v3 H3 locs hp hz hS => ?_)
  obtain ⟨x1, rfl, lx1, ux1, hI1, hf, hR, z3_0, z3_1, z3_2, z3_3⟩ := hp
  have hB := th_B_c hB hI1 hS hf (by decide)
  have fv_H3_18 : mo_f G H3 a0 18 = mo_f G H0 a0 18 := mo_f_F hf h0 (by decide) (by decide)
  have fv_H3_21 : mo_f G H3 a0 21 = mo_f G H0 a0 21 := mo_f_F hf h0 (by decide) (by decide)
  have wd_H3 := mo_wd_F hB.2.2 h0 (by decide) k3
  have cr_H3 : mo_rd G H3 a0 cv := mo_rd_F hB.1 hB.2.2 h0 (by decide) k1
  have zf3 := z3_3
  rw [tk_21] at zf3
  replace hF := hF.trans (dv_bn2 (zf3))
  refine W.eq (g2 := F0 m 6 ls [.int x1]) rfl ?_
  have tk21 := tk_21
  have jn61 : ∀ (H61 : Heap) (locs : List Loc) (ls : Array Slot) , th_B G Γ Γ [(46, 19), (46, 20), (46, 21)] H0 H61 locs → th_RC G Γ H61 → lv_has ls 1 [(0, .ref a0)] → F = f_X12_readOrder_61 (dv G Γ H61) ((a0 : Int)) → (t ≤ mo_f G H61 a0 19 ∧ mo_f G H61 a0 19 ≤ mo_f G H0 a0 18) → (mo_f G H61 a0 21 = -1 → mo_f G H0 a0 21 = -1 ∧ mo_ordh cv t (mo_f G H61 a0 19)) → W p l e ({ frames := 71, cells := 0, slots := 0, locals := 2165 } : Room) s m ([.ref a0] : List Value).toArray below meth c H61 locs 0 0 (MQ below (th_Q (fun (v : Option Value) (H1 : Heap) => v = none ∧ th_I G Γ H1 ∧ th_F G Γ [(46, 19), (46, 20), (46, 21)] H0 H1 ∧ th_RC G Γ H1 ∧ (t ≤ mo_f G H1 a0 19 ∧ mo_f G H1 a0 19 ≤ mo_f G H0 a0 18) ∧ (mo_f G H1 a0 21 = -1 → mo_f G H0 a0 21 = -1 ∧ mo_ord cv t (mo_f G H1 a0 19)) ∧ (f_X12_readOrder (dv G Γ H0) (a0 : Int) = (dv G Γ H1, 0))) G) ([.ref a0] : List Value).toArray s 0 0 (fun q => G.1.2.2 ≤ q)) (F0 m 61 ls []) := by
    intro H61 locs ls hB hR hl hF g61_0 g61_1
    have wd_H61 := mo_wd_F hB.2.2 h0 (by decide) k3
    have cr_H61 : mo_rd G H61 a0 cv := mo_rd_F hB.1 hB.2.2 h0 (by decide) k1
    have fv2_18 : mo_f G H61 a0 18 = mo_f G H0 a0 18 := mo_f_F hB.2.2 h0 (by decide) (by decide)
    replace hF := hF.trans (f_X12_readOrder_61.eq_1 (dv G Γ H61) ((a0 : Int)))
    refine lv_aload_n hx hb gX12_readOrder_3.2.2.2.2.2.1 rfl (lv_at hl 0 rfl) ?_
    have b61 := g61_0
    have e61 := g61_1
    refine lv_bipush (v := 27) hx hb gX12_readOrder_3.2.2.2.2.2.2.1 (by decide) ?_
    refine th_call (th_runV (As := [.int 27]) (rest := []) hC mf_X12_takes0 km_X12_199 im_X12_takes0 se_X12_takes0 (c_X12_takes0 l G Γ H61 hB.1 hR hU a0 h0 27 (by decide) cv (mo_f G H61 a0 19) cr_H61 ⟨by omega, by omega, by omega⟩) rfl rfl ⟨Nat.le_of_ble_eq_true rfl, Nat.le_of_ble_eq_true rfl⟩ hB.1 h0 ro_46 rfl rfl hl.1 rfl (Nat.le_of_ble_eq_true rfl) gX12_readOrder_3.2.2.2.2.2.2.2 ⟨Nat.le_refl _, Nat.le_refl _⟩) hB.2.1 (fun v64 H64 locs hp hz hS => ?_)
    obtain ⟨x3, rfl, lx3, ux3, hI1, hf, hR, z64_0, z64_1, z64_2, z64_3⟩ := hp
    have hB := th_B_c hB hI1 hS hf (by decide)
    have fv_H64_18 : mo_f G H64 a0 18 = mo_f G H61 a0 18 := mo_f_F hf h0 (by decide) (by decide)
    have fv_H64_21 : mo_f G H64 a0 21 = mo_f G H61 a0 21 := mo_f_F hf h0 (by decide) (by decide)
    have wd_H64 := mo_wd_F hB.2.2 h0 (by decide) k3
    have cr_H64 : mo_rd G H64 a0 cv := mo_rd_F hB.1 hB.2.2 h0 (by decide) k1
    have zf64 := z64_3
    rw [tk_27] at zf64
    replace hF := hF.trans (dv_bn2 (zf64))
    refine W.eq (g2 := F0 m 67 ls [.int x3]) rfl ?_
    have tk27 := tk_27
    have jn77 : ∀ (H77 : Heap) (locs : List Loc) (ls : Array Slot) , th_B G Γ Γ [(46, 19), (46, 20), (46, 21)] H0 H77 locs → th_RC G Γ H77 → lv_has ls 1 [(0, .ref a0)] → F = f_X12_readOrder_77 (dv G Γ H77) ((a0 : Int)) → (t ≤ mo_f G H77 a0 19 ∧ mo_f G H77 a0 19 ≤ mo_f G H0 a0 18) → (mo_f G H77 a0 21 = -1 → mo_f G H0 a0 21 = -1 ∧ ∃ m, mo_ordh cv t m ∧ mo_tim cv m (mo_f G H77 a0 19)) → W p l e ({ frames := 71, cells := 0, slots := 0, locals := 2165 } : Room) s m ([.ref a0] : List Value).toArray below meth c H77 locs 0 0 (MQ below (th_Q (fun (v : Option Value) (H1 : Heap) => v = none ∧ th_I G Γ H1 ∧ th_F G Γ [(46, 19), (46, 20), (46, 21)] H0 H1 ∧ th_RC G Γ H1 ∧ (t ≤ mo_f G H1 a0 19 ∧ mo_f G H1 a0 19 ≤ mo_f G H0 a0 18) ∧ (mo_f G H1 a0 21 = -1 → mo_f G H0 a0 21 = -1 ∧ mo_ord cv t (mo_f G H1 a0 19)) ∧ (f_X12_readOrder (dv G Γ H0) (a0 : Int) = (dv G Γ H1, 0))) G) ([.ref a0] : List Value).toArray s 0 0 (fun q => G.1.2.2 ≤ q)) (F0 m 77 ls []) := by
      intro H77 locs ls hB hR hl hF g77_0 g77_1
      have wd_H77 := mo_wd_F hB.2.2 h0 (by decide) k3
      have cr_H77 : mo_rd G H77 a0 cv := mo_rd_F hB.1 hB.2.2 h0 (by decide) k1
      have fv4_18 : mo_f G H77 a0 18 = mo_f G H0 a0 18 := mo_f_F hB.2.2 h0 (by decide) (by decide)
      replace hF := hF.trans (f_X12_readOrder_77.eq_1 (dv G Γ H77) ((a0 : Int)))
      refine lv_aload_n hx hb gX12_readOrder_4.2.2.2.2.2.1 rfl (lv_at hl 0 rfl) ?_
      have b77 := g77_0
      have e77 := g77_1
      refine lv_iconst (v := 4) hx hb gX12_readOrder_4.2.2.2.2.2.2.1 (by decide) ?_
      refine th_call (th_runV (As := [.int 4]) (rest := []) hC mf_X12_takes0 km_X12_199 im_X12_takes0 se_X12_takes0 (c_X12_takes0 l G Γ H77 hB.1 hR hU a0 h0 4 (by decide) cv (mo_f G H77 a0 19) cr_H77 ⟨by omega, by omega, by omega⟩) rfl rfl ⟨Nat.le_of_ble_eq_true rfl, Nat.le_of_ble_eq_true rfl⟩ hB.1 h0 ro_46 rfl rfl hl.1 rfl (Nat.le_of_ble_eq_true rfl) gX12_readOrder_4.2.2.2.2.2.2.2 ⟨Nat.le_refl _, Nat.le_refl _⟩) hB.2.1 (fun v79 H79 locs hp hz hS => ?_)
      obtain ⟨x5, rfl, lx5, ux5, hI1, hf, hR, z79_0, z79_1, z79_2, z79_3⟩ := hp
      have hB := th_B_c hB hI1 hS hf (by decide)
      have fv_H79_18 : mo_f G H79 a0 18 = mo_f G H77 a0 18 := mo_f_F hf h0 (by decide) (by decide)
      have fv_H79_21 : mo_f G H79 a0 21 = mo_f G H77 a0 21 := mo_f_F hf h0 (by decide) (by decide)
      have wd_H79 := mo_wd_F hB.2.2 h0 (by decide) k3
      have cr_H79 : mo_rd G H79 a0 cv := mo_rd_F hB.1 hB.2.2 h0 (by decide) k1
      have zf79 := z79_3
      rw [tk_4] at zf79
      replace hF := hF.trans (dv_bn2 (zf79))
      refine W.eq (g2 := F0 m 82 ls [.int x5]) rfl ?_
      have tk4 := tk_4
      refine tr_if_eq (tgt := 90) hx hb gX12_readOrder_5.1 (by decide) (Eq.refl _) (fun c82 => ?_) (fun c82 => ?_)
      · specialize z79_1 (by omega); clear z79_0
        replace hF := hF.trans (if_pos c82)
        exact th_vret hC hH hr hlocks hB.2.1 ⟨rfl, hB.1, hB.2.2, hR, ⟨by omega, by omega⟩, fun h9 => by obtain ⟨r1, r2⟩ := z79_1; obtain ⟨q7, m9, q6, q8⟩ := e77 (by omega); exact ⟨q7, m9, q6, _, q8, mo_if_n (by have q7 := r2 (by omega); omega) r1⟩, (hF0.symm.trans hF)⟩ gX12_readOrder_5.2.2.2.2
      · specialize z79_0 (by omega); clear z79_1
        replace hF := hF.trans (if_neg c82)
        refine lv_aload_n hx hb gX12_readOrder_5.2.1 rfl (lv_at hl 0 rfl) ?_
        refine lv_iconst (v := 0) hx hb gX12_readOrder_5.2.2.1 (by decide) ?_
        refine th_call (th_runV (As := [.int 0]) (rest := []) hC mf_X12_readTest km_X12_214 im_X12_readTest se_X12_readTest (c_X12_readTest_d 8 l G Γ H79 hB.1 hR hU a0 h0 0 (by decide) (by decide) 1 cv (mo_f G H79 a0 19) cr_H79 ⟨by omega, by omega, by omega⟩ wd_H79 (by have w0 := tk_0; omega)) rfl rfl ⟨Nat.le_of_ble_eq_true rfl, Nat.le_of_ble_eq_true rfl⟩ hB.1 h0 ro_46 rfl rfl hl.1 rfl (Nat.le_of_ble_eq_true rfl) gX12_readOrder_5.2.2.2.1 ⟨Nat.le_refl _, Nat.le_refl _⟩) hB.2.1 (fun v87 H87 locs hp hz hS => ?_)
        obtain ⟨rfl, hI1, hf, hR, z87_0, z87_1, z87_2⟩ := hp
        have hB := th_B_c hB hI1 hS hf (by decide)
        have fv_H87_18 : mo_f G H87 a0 18 = mo_f G H79 a0 18 := mo_f_F hf h0 (by decide) (by decide)
        have wd_H87 := mo_wd_F hB.2.2 h0 (by decide) k3
        have cr_H87 : mo_rd G H87 a0 cv := mo_rd_F hB.1 hB.2.2 h0 (by decide) k1
        have zf87 := z87_2
        rw [tk_0] at zf87
        replace hF := hF.trans (dv_bn2 (zf87))
        refine W.eq (g2 := F0 m 90 ls []) rfl ?_
        have tk0 := tk_0
        exact th_vret hC hH hr hlocks hB.2.1 ⟨rfl, hB.1, hB.2.2, hR, ⟨by omega, by omega⟩, fun h9 => by obtain ⟨q1, q2⟩ := z87_1 h9; obtain ⟨q3, q4, q5⟩ := z79_0; obtain ⟨q7, m9, q6, q8⟩ := e77 (by omega); exact ⟨q7, m9, q6, _, q8, mo_if_y (by omega) q5 q2⟩, (hF0.symm.trans hF)⟩ gX12_readOrder_5.2.2.2.2
    refine tr_if_eq (tgt := 77) hx hb gX12_readOrder_4.1 (by decide) (Eq.refl _) (fun c67 => ?_) (fun c67 => ?_)
    · specialize z64_1 (by omega); clear z64_0
      replace hF := hF.trans (if_pos c67)
      exact jn77 H64 locs ls hB hR (lv_sub hl [0] rfl) hF ⟨by omega, by omega⟩ (fun h9 => by obtain ⟨r1, r2⟩ := z64_1; obtain ⟨q8, q9⟩ := e61 (by omega); exact ⟨q8, _, q9, mo_tim_n (by have q7 := r2 (by omega); omega) r1⟩)
    · specialize z64_0 (by omega); clear z64_1
      replace hF := hF.trans (if_neg c67)
      refine lv_aload_n hx hb gX12_readOrder_4.2.1 rfl (lv_at hl 0 rfl) ?_
      refine lv_iconst (v := 1) hx hb gX12_readOrder_4.2.2.1 (by decide) ?_
      refine lv_bipush (v := 20) hx hb gX12_readOrder_4.2.2.2.1 (by decide) ?_
      refine th_call (th_runV (As := [.int 1, .int 20]) (rest := []) hC mf_X12_mustNumber km_X12_220 im_X12_mustNumber se_X12_mustNumber (c_X12_mustNumber l G Γ H64 hB.1 hR hU a0 h0 1 20 cv (mo_f G H64 a0 19) cr_H64 ⟨by omega, by omega, by omega⟩) rfl rfl ⟨Nat.le_of_ble_eq_true rfl, Nat.le_of_ble_eq_true rfl⟩ hB.1 h0 ro_46 rfl rfl hl.1 rfl (Nat.le_of_ble_eq_true rfl) gX12_readOrder_4.2.2.2.2.1 ⟨Nat.le_refl _, Nat.le_refl _⟩) hB.2.1 (fun v74 H74 locs hp hz hS => ?_)
      obtain ⟨rfl, hI1, hf, hR, z74_0, z74_1, z74_2⟩ := hp
      have hB := th_B_c hB hI1 hS hf (by decide)
      have fv_H74_18 : mo_f G H74 a0 18 = mo_f G H64 a0 18 := mo_f_F hf h0 (by decide) (by decide)
      have wd_H74 := mo_wd_F hB.2.2 h0 (by decide) k3
      have cr_H74 : mo_rd G H74 a0 cv := mo_rd_F hB.1 hB.2.2 h0 (by decide) k1
      have zf74 := z74_2
      rw [tk_1, tk_20] at zf74
      replace hF := hF.trans (dv_bn2 (zf74))
      refine W.eq (g2 := F0 m 77 ls []) rfl ?_
      exact jn77 H74 locs ls hB hR (lv_sub hl [0] rfl) hF ⟨by omega, by omega⟩ (fun h9 => by obtain ⟨q1, q2, q3⟩ := z74_1 h9; obtain ⟨r1, r2, r3⟩ := z64_0; obtain ⟨q8, q9⟩ := e61 (by omega); exact ⟨q8, _, q9, mo_tim_y (by omega) q2 ⟨by omega, by omega⟩⟩)
  refine tr_if_eq (tgt := 29) hx hb gX12_readOrder_0.2.2.2.1 (by decide) (Eq.refl _) (fun c6 => ?_) (fun c6 => ?_)
  · specialize z3_1 (by omega); clear z3_0
    replace hF := hF.trans (if_pos c6)
    refine lv_aload_n hx hb gX12_readOrder_1.2.2.2.2.2.2.1 rfl (lv_at hl 0 rfl) ?_
    refine lv_bipush (v := 24) hx hb gX12_readOrder_1.2.2.2.2.2.2.2 (by decide) ?_
    refine th_call (th_runV (As := [.int 24]) (rest := []) hC mf_X12_takes0 km_X12_199 im_X12_takes0 se_X12_takes0 (c_X12_takes0 l G Γ H3 hB.1 hR hU a0 h0 24 (by decide) cv t cr_H3 ⟨by omega, by omega, by omega⟩) rfl rfl ⟨Nat.le_of_ble_eq_true rfl, Nat.le_of_ble_eq_true rfl⟩ hB.1 h0 ro_46 rfl rfl hl.1 rfl (Nat.le_of_ble_eq_true rfl) gX12_readOrder_2.1 ⟨Nat.le_refl _, Nat.le_refl _⟩) hB.2.1 (fun v32 H32 locs hp hz hS => ?_)
    obtain ⟨x6, rfl, lx6, ux6, hI1, hf, hR, z32_0, z32_1, z32_2, z32_3⟩ := hp
    have hB := th_B_c hB hI1 hS hf (by decide)
    have fv_H32_18 : mo_f G H32 a0 18 = mo_f G H3 a0 18 := mo_f_F hf h0 (by decide) (by decide)
    have fv_H32_21 : mo_f G H32 a0 21 = mo_f G H3 a0 21 := mo_f_F hf h0 (by decide) (by decide)
    have wd_H32 := mo_wd_F hB.2.2 h0 (by decide) k3
    have cr_H32 : mo_rd G H32 a0 cv := mo_rd_F hB.1 hB.2.2 h0 (by decide) k1
    have zf32 := z32_3
    rw [tk_24] at zf32
    replace hF := hF.trans (dv_bn2 (zf32))
    refine W.eq (g2 := F0 m 35 ls [.int x6]) rfl ?_
    have tk24 := tk_24
    refine tr_if_eq (tgt := 46) hx hb gX12_readOrder_2.2.1 (by decide) (Eq.refl _) (fun c35 => ?_) (fun c35 => ?_)
    · specialize z32_1 (by omega); clear z32_0
      replace hF := hF.trans (if_pos c35)
      refine lv_aload_n hx hb gX12_readOrder_2.2.2.2.2.2.2.1 rfl (lv_at hl 0 rfl) ?_
      refine lv_bipush (v := 25) hx hb gX12_readOrder_2.2.2.2.2.2.2.2 (by decide) ?_
      refine th_call (th_runV (As := [.int 25]) (rest := []) hC mf_X12_takes0 km_X12_199 im_X12_takes0 se_X12_takes0 (c_X12_takes0 l G Γ H32 hB.1 hR hU a0 h0 25 (by decide) cv t cr_H32 ⟨by omega, by omega, by omega⟩) rfl rfl ⟨Nat.le_of_ble_eq_true rfl, Nat.le_of_ble_eq_true rfl⟩ hB.1 h0 ro_46 rfl rfl hl.1 rfl (Nat.le_of_ble_eq_true rfl) gX12_readOrder_3.1 ⟨Nat.le_refl _, Nat.le_refl _⟩) hB.2.1 (fun v49 H49 locs hp hz hS => ?_)
      obtain ⟨x7, rfl, lx7, ux7, hI1, hf, hR, z49_0, z49_1, z49_2, z49_3⟩ := hp
      have hB := th_B_c hB hI1 hS hf (by decide)
      have fv_H49_18 : mo_f G H49 a0 18 = mo_f G H32 a0 18 := mo_f_F hf h0 (by decide) (by decide)
      have fv_H49_21 : mo_f G H49 a0 21 = mo_f G H32 a0 21 := mo_f_F hf h0 (by decide) (by decide)
      have wd_H49 := mo_wd_F hB.2.2 h0 (by decide) k3
      have cr_H49 : mo_rd G H49 a0 cv := mo_rd_F hB.1 hB.2.2 h0 (by decide) k1
      have zf49 := z49_3
      rw [tk_25] at zf49
      replace hF := hF.trans (dv_bn2 (zf49))
      refine W.eq (g2 := F0 m 52 ls [.int x7]) rfl ?_
      have tk25 := tk_25
      refine tr_if_ne (tgt := 61) hx hb gX12_readOrder_3.2.1 (by decide) (Eq.refl _) (fun c52 => ?_) (fun c52 => ?_)
      · specialize z49_0 (by omega); clear z49_1
        replace hF := hF.trans (if_pos c52)
        exact jn61 H49 locs ls hB hR (lv_sub hl [0] rfl) hF ⟨by omega, by omega⟩ (fun h9 => by obtain ⟨r1, r2, r3⟩ := z49_0; exact ⟨by omega, Or.inr (Or.inr ⟨Or.inl (by omega), by omega⟩)⟩)
      · specialize z49_1 (by omega); clear z49_0
        replace hF := hF.trans (if_neg (not_not_intro c52))
        refine lv_aload_n hx hb gX12_readOrder_3.2.2.1 rfl (lv_at hl 0 rfl) ?_
        refine lv_bipush (v := 26) hx hb gX12_readOrder_3.2.2.2.1 (by decide) ?_
        refine th_call (th_runV (As := [.int 26]) (rest := []) hC mf_X12_must km_X12_211 im_X12_must se_X12_must (c_X12_must l G Γ H49 hB.1 hR hU a0 h0 26 (by decide) cv (mo_f G H49 a0 19) cr_H49 ⟨by omega, by omega, by omega⟩) rfl rfl ⟨Nat.le_of_ble_eq_true rfl, Nat.le_of_ble_eq_true rfl⟩ hB.1 h0 ro_46 rfl rfl hl.1 rfl (Nat.le_of_ble_eq_true rfl) gX12_readOrder_3.2.2.2.2.1 ⟨Nat.le_refl _, Nat.le_refl _⟩) hB.2.1 (fun v58 H58 locs hp hz hS => ?_)
        obtain ⟨rfl, hI1, hf, hR, z58_0, z58_1, z58_2⟩ := hp
        have hB := th_B_c hB hI1 hS hf (by decide)
        have fv_H58_18 : mo_f G H58 a0 18 = mo_f G H49 a0 18 := mo_f_F hf h0 (by decide) (by decide)
        have wd_H58 := mo_wd_F hB.2.2 h0 (by decide) k3
        have cr_H58 : mo_rd G H58 a0 cv := mo_rd_F hB.1 hB.2.2 h0 (by decide) k1
        have zf58 := z58_2
        rw [tk_26] at zf58
        replace hF := hF.trans (dv_bn2 (zf58))
        refine W.eq (g2 := F0 m 61 ls []) rfl ?_
        have tk26 := tk_26
        exact jn61 H58 locs ls hB hR (lv_sub hl [0] rfl) hF ⟨by omega, by omega⟩ (fun h9 => by obtain ⟨q1, q2, q3⟩ := z58_1 h9; exact ⟨by omega, Or.inr (Or.inr ⟨Or.inr (by rw [show mo_f G H49 a0 19 = t by omega] at q2; omega), by omega⟩)⟩)
    · specialize z32_0 (by omega); clear z32_1
      replace hF := hF.trans (if_neg c35)
      refine lv_aload_n hx hb gX12_readOrder_2.2.2.1 rfl (lv_at hl 0 rfl) ?_
      refine lv_iconst (v := 0) hx hb gX12_readOrder_2.2.2.2.1 (by decide) ?_
      refine th_call (th_runV (As := [.int 0]) (rest := []) hC mf_X12_readSum km_X12_208 im_X12_readSum se_X12_readSum (c_X12_readSum_d 8 l G Γ H32 hB.1 hR hU a0 h0 0 (by decide) (by decide) 1 cv (mo_f G H32 a0 19) cr_H32 ⟨by omega, by omega, by omega⟩ wd_H32 (by have w0 := tk_0; omega)) rfl rfl ⟨Nat.le_of_ble_eq_true rfl, Nat.le_of_ble_eq_true rfl⟩ hB.1 h0 ro_46 rfl rfl hl.1 rfl (Nat.le_of_ble_eq_true rfl) gX12_readOrder_2.2.2.2.2.1 ⟨Nat.le_refl _, Nat.le_refl _⟩) hB.2.1 (fun v40 H40 locs hp hz hS => ?_)
      obtain ⟨rfl, hI1, hf, hR, z40_0, z40_1, z40_2⟩ := hp
      have hB := th_B_c hB hI1 hS hf (by decide)
      have fv_H40_18 : mo_f G H40 a0 18 = mo_f G H32 a0 18 := mo_f_F hf h0 (by decide) (by decide)
      have wd_H40 := mo_wd_F hB.2.2 h0 (by decide) k3
      have cr_H40 : mo_rd G H40 a0 cv := mo_rd_F hB.1 hB.2.2 h0 (by decide) k1
      have zf40 := z40_2
      rw [tk_0] at zf40
      replace hF := hF.trans (dv_bn2 (zf40))
      refine W.eq (g2 := F0 m 43 ls []) rfl ?_
      have tk0 := tk_0
      refine lv_goto (tgt := 61) hx hb gX12_readOrder_2.2.2.2.2.2.1 (by decide) ?_
      exact jn61 H40 locs ls hB hR (lv_sub hl [0] rfl) hF ⟨by omega, by omega⟩ (fun h9 => by obtain ⟨q7, q8⟩ := z40_1 h9; obtain ⟨r1, r2, r3⟩ := z32_0; exact ⟨by omega, Or.inr (Or.inl ⟨by omega, by rw [r3] at q8; exact q8⟩)⟩)
  · specialize z3_0 (by omega); clear z3_1
    replace hF := hF.trans (if_neg c6)
    refine lv_aload_n hx hb gX12_readOrder_0.2.2.2.2.1 rfl (lv_at hl 0 rfl) ?_
    refine lv_iconst (v := 0) hx hb gX12_readOrder_0.2.2.2.2.2.1 (by decide) ?_
    refine th_call (th_runV (As := [.int 0]) (rest := []) hC mf_X12_readSum km_X12_208 im_X12_readSum se_X12_readSum (c_X12_readSum_d 8 l G Γ H3 hB.1 hR hU a0 h0 0 (by decide) (by decide) 1 cv (mo_f G H3 a0 19) cr_H3 ⟨by omega, by omega, by omega⟩ wd_H3 (by have w0 := tk_0; omega)) rfl rfl ⟨Nat.le_of_ble_eq_true rfl, Nat.le_of_ble_eq_true rfl⟩ hB.1 h0 ro_46 rfl rfl hl.1 rfl (Nat.le_of_ble_eq_true rfl) gX12_readOrder_0.2.2.2.2.2.2.1 ⟨Nat.le_refl _, Nat.le_refl _⟩) hB.2.1 (fun v11 H11 locs hp hz hS => ?_)
    obtain ⟨rfl, hI1, hf, hR, z11_0, z11_1, z11_2⟩ := hp
    have hB := th_B_c hB hI1 hS hf (by decide)
    have fv_H11_18 : mo_f G H11 a0 18 = mo_f G H3 a0 18 := mo_f_F hf h0 (by decide) (by decide)
    have wd_H11 := mo_wd_F hB.2.2 h0 (by decide) k3
    have cr_H11 : mo_rd G H11 a0 cv := mo_rd_F hB.1 hB.2.2 h0 (by decide) k1
    have zf11 := z11_2
    rw [tk_0] at zf11
    replace hF := hF.trans (dv_bn2 (zf11))
    refine W.eq (g2 := F0 m 14 ls []) rfl ?_
    have tk0 := tk_0
    refine lv_aload_n hx hb gX12_readOrder_0.2.2.2.2.2.2.2 rfl (lv_at hl 0 rfl) ?_
    refine lv_bipush (v := 22) hx hb gX12_readOrder_1.1 (by decide) ?_
    refine th_call (th_runV (As := [.int 22]) (rest := []) hC mf_X12_readMore km_X12_217 im_X12_readMore se_X12_readMore (c_X12_readMore l G Γ H11 hB.1 hR hU a0 h0 22 (by decide) 1 cv (mo_f G H11 a0 19) cr_H11 ⟨by omega, by omega, by omega⟩ wd_H11) rfl rfl ⟨Nat.le_of_ble_eq_true rfl, Nat.le_of_ble_eq_true rfl⟩ hB.1 h0 ro_46 rfl rfl hl.1 rfl (Nat.le_of_ble_eq_true rfl) gX12_readOrder_1.2.1 ⟨Nat.le_refl _, Nat.le_refl _⟩) hB.2.1 (fun v17 H17 locs hp hz hS => ?_)
    obtain ⟨rfl, hI1, hf, hR, z17_0, z17_1, z17_2⟩ := hp
    have hB := th_B_c hB hI1 hS hf (by decide)
    have fv_H17_18 : mo_f G H17 a0 18 = mo_f G H11 a0 18 := mo_f_F hf h0 (by decide) (by decide)
    have wd_H17 := mo_wd_F hB.2.2 h0 (by decide) k3
    have cr_H17 : mo_rd G H17 a0 cv := mo_rd_F hB.1 hB.2.2 h0 (by decide) k1
    have zf17 := z17_2
    rw [tk_22] at zf17
    replace hF := hF.trans (dv_bn2 (zf17))
    refine W.eq (g2 := F0 m 20 ls []) rfl ?_
    have tk22 := tk_22
    refine lv_aload_n hx hb gX12_readOrder_1.2.2.1 rfl (lv_at hl 0 rfl) ?_
    refine lv_bipush (v := 23) hx hb gX12_readOrder_1.2.2.2.1 (by decide) ?_
    refine th_call (th_runV (As := [.int 23]) (rest := []) hC mf_X12_readMore km_X12_217 im_X12_readMore se_X12_readMore (c_X12_readMore l G Γ H17 hB.1 hR hU a0 h0 23 (by decide) 1 cv (mo_f G H17 a0 19) cr_H17 ⟨by omega, by omega, by omega⟩ wd_H17) rfl rfl ⟨Nat.le_of_ble_eq_true rfl, Nat.le_of_ble_eq_true rfl⟩ hB.1 h0 ro_46 rfl rfl hl.1 rfl (Nat.le_of_ble_eq_true rfl) gX12_readOrder_1.2.2.2.2.1 ⟨Nat.le_refl _, Nat.le_refl _⟩) hB.2.1 (fun v23 H23 locs hp hz hS => ?_)
    obtain ⟨rfl, hI1, hf, hR, z23_0, z23_1, z23_2⟩ := hp
    have hB := th_B_c hB hI1 hS hf (by decide)
    have fv_H23_18 : mo_f G H23 a0 18 = mo_f G H17 a0 18 := mo_f_F hf h0 (by decide) (by decide)
    have wd_H23 := mo_wd_F hB.2.2 h0 (by decide) k3
    have cr_H23 : mo_rd G H23 a0 cv := mo_rd_F hB.1 hB.2.2 h0 (by decide) k1
    have zf23 := z23_2
    rw [tk_23] at zf23
    replace hF := hF.trans (dv_bn2 (zf23))
    refine W.eq (g2 := F0 m 26 ls []) rfl ?_
    have tk23 := tk_23
    refine lv_goto (tgt := 61) hx hb gX12_readOrder_1.2.2.2.2.2.1 (by decide) ?_
    exact jn61 H23 locs ls hB hR (lv_sub hl [0] rfl) hF ⟨by omega, by omega⟩ (fun h9 => by obtain ⟨q1, q2, q3⟩ := z23_1 h9; obtain ⟨q4, q5, q6⟩ := z17_1 q1; obtain ⟨q7, q8⟩ := z11_1 q4; obtain ⟨r1, r2, r3⟩ := z3_0; exact ⟨r1, Or.inl ⟨by omega, _, _, by rw [r3] at q8; exact q8, by omega, q6, by omega, q3⟩⟩)

set_option maxHeartbeats 4000000 in
set_option maxRecDepth 100000 in
theorem c_X12_readOne (l : Launch) (G : th_G) (Γ : th_Ga) (H0 : Heap) (hI : th_I G Γ H0) (hR : th_RC G Γ H0) (hU : dv_U Γ) (a0 : Nat) (h0 : Γ a0 = (46, 0)) (o : Int) (cv : Int → Int) (t : Int) (k1 : mo_rd G H0 a0 cv) (k2 : mo_f G H0 a0 19 = t ∧ 0 ≤ t ∧ t ≤ mo_f G H0 a0 18) (k3 : mo_wd G H0 a0 o) : Met l yX12_readOne (.code yX12_readOne cX12_readOne 1 (none) :: th_tb) ({ frames := 72, cells := 0, slots := 0, locals := 2185 } : Room) (th_P [.ref a0] G H0) (th_Q (fun (v : Option Value) (H1 : Heap) => v = none ∧ th_I G Γ H1 ∧ th_F G Γ [(46, 19), (46, 20), (46, 21)] H0 H1 ∧ th_RC G Γ H1 ∧ (t ≤ mo_f G H1 a0 19 ∧ mo_f G H1 a0 19 ≤ mo_f G H0 a0 18) ∧ (mo_f G H1 a0 21 = -1 → mo_f G H0 a0 21 = -1 ∧ mo_clause o cv t (mo_f G H1 a0 19)) ∧ (f_X12_readOne (dv G Γ H0) (a0 : Int) = (dv G Γ H1, 0))) G) 0 0 (fun q => G.1.2.2 ≤ q) := by
  refine th_met RX12 (by decide) rfl (Nat.le_of_ble_eq_true rfl) ?_
  intro p e s m below meth c hC hH hr hlocks hnm ls hl
  have hx := hC.1
  have hb := hC.2.1
  have hB : th_B G Γ Γ [(46, 19), (46, 20), (46, 21)] H0 H0 [] := ⟨hI, va_S.rf, th_F_rf⟩
  have hl : lv_has ls 1 [(0, .ref a0)] := hl
  obtain ⟨F, hF0⟩ : ∃ F, F = f_X12_readOne (dv G Γ H0) ((a0 : Int)) := ⟨_, rfl⟩
  have hF := hF0.trans (f_X12_readOne.eq_1 (dv G Γ H0) ((a0 : Int)))
  refine lv_aload_n hx hb gX12_readOne_0.1 rfl (lv_at hl 0 rfl) ?_
  have k3u := k3
  unfold mo_wd at k3u
  refine th_getI (j := 10) hC cf_X12 hB.1 h0 ro_46 rfl rfl kf_X12_224 gX12_readOne_0.2.1 (fun x1 mx1 lx1 ux1 => ?_)
  replace hF := hF.trans (dv_bn (dv_getI h0 ro_46 (j := 10) rfl mx1 (by decide)))
  have fg2 : mo_f G H0 a0 10 = x1.toInt := mo_fat mx1
  refine tr_if_eq (tgt := 14) hx hb gX12_readOne_0.2.2.1 (by decide) (Eq.refl _) (fun c4 => ?_) (fun c4 => ?_)
  · replace hF := hF.trans (if_pos c4)
    refine lv_aload_n hx hb gX12_readOne_0.2.2.2.2.2.2.1 rfl (lv_at hl 0 rfl) ?_
    have eo : o = 0 := by omega
    have k3o := k3
    rw [eo] at k3o
    refine th_call (th_runV (As := []) (rest := []) hC mf_X12_readClause km_X12_231 im_X12_readClause se_X12_readClause (c_X12_readClause l G Γ H0 hB.1 hR hU a0 h0 cv t k1 ⟨by omega, by omega, by omega⟩ k3o) rfl rfl ⟨Nat.le_of_ble_eq_true rfl, Nat.le_of_ble_eq_true rfl⟩ hB.1 h0 ro_46 rfl rfl hl.1 rfl (Nat.le_of_ble_eq_true rfl) gX12_readOne_0.2.2.2.2.2.2.2 ⟨Nat.le_refl _, Nat.le_refl _⟩) hB.2.1 (fun v15 H15 locs hp hz hS => ?_)
    obtain ⟨rfl, hI1, hf, hR, z15_0, z15_1, z15_2⟩ := hp
    have hB := th_B_c hB hI1 hS hf (by decide)
    have fv_H15_10 : mo_f G H15 a0 10 = mo_f G H0 a0 10 := mo_f_F hf h0 (by decide) (by decide)
    have fv_H15_18 : mo_f G H15 a0 18 = mo_f G H0 a0 18 := mo_f_F hf h0 (by decide) (by decide)
    have wd_H15 := mo_wd_F hB.2.2 h0 (by decide) k3
    have cr_H15 : mo_rd G H15 a0 cv := mo_rd_F hB.1 hB.2.2 h0 (by decide) k1
    replace hF := hF.trans (dv_bn2 (z15_2))
    refine W.eq (g2 := F0 m 18 ls []) rfl ?_
    exact th_vret hC hH hr hlocks hB.2.1 ⟨rfl, hB.1, hB.2.2, hR, ⟨by omega, by omega⟩, fun h9 => ⟨(z15_1 h9).1, Or.inl ⟨by omega, (z15_1 h9).2⟩⟩, (hF0.symm.trans hF)⟩ gX12_readOne_1
  · replace hF := hF.trans (if_neg c4)
    refine lv_aload_n hx hb gX12_readOne_0.2.2.2.1 rfl (lv_at hl 0 rfl) ?_
    have eo : o = 1 := by omega
    have k3o := k3
    rw [eo] at k3o
    refine th_call (th_runV (As := []) (rest := []) hC mf_X12_readOrder km_X12_228 im_X12_readOrder se_X12_readOrder (c_X12_readOrder l G Γ H0 hB.1 hR hU a0 h0 cv t k1 ⟨by omega, by omega, by omega⟩ k3o) rfl rfl ⟨Nat.le_of_ble_eq_true rfl, Nat.le_of_ble_eq_true rfl⟩ hB.1 h0 ro_46 rfl rfl hl.1 rfl (Nat.le_of_ble_eq_true rfl) gX12_readOne_0.2.2.2.2.1 ⟨Nat.le_refl _, Nat.le_refl _⟩) hB.2.1 (fun v8 H8 locs hp hz hS => ?_)
    obtain ⟨rfl, hI1, hf, hR, z8_0, z8_1, z8_2⟩ := hp
    have hB := th_B_c hB hI1 hS hf (by decide)
    have fv_H8_10 : mo_f G H8 a0 10 = mo_f G H0 a0 10 := mo_f_F hf h0 (by decide) (by decide)
    have fv_H8_18 : mo_f G H8 a0 18 = mo_f G H0 a0 18 := mo_f_F hf h0 (by decide) (by decide)
    have wd_H8 := mo_wd_F hB.2.2 h0 (by decide) k3
    have cr_H8 : mo_rd G H8 a0 cv := mo_rd_F hB.1 hB.2.2 h0 (by decide) k1
    replace hF := hF.trans (dv_bn2 (z8_2))
    refine W.eq (g2 := F0 m 11 ls []) rfl ?_
    refine lv_goto (tgt := 18) hx hb gX12_readOne_0.2.2.2.2.2.1 (by decide) ?_
    exact th_vret hC hH hr hlocks hB.2.1 ⟨rfl, hB.1, hB.2.2, hR, ⟨by omega, by omega⟩, fun h9 => ⟨(z8_1 h9).1, Or.inr ⟨by omega, (z8_1 h9).2⟩⟩, (hF0.symm.trans hF)⟩ gX12_readOne_1
end
section
set_option maxHeartbeats 4000000 in
set_option maxRecDepth 100000 in
theorem c_X12_wordOf (l : Launch) (G : th_G) (Γ : th_Ga) (H0 : Heap) (hI : th_I G Γ H0) (hU : dv_U Γ) (a0 : Nat) (h0 : Γ a0 = (46, 0)) (p1 : Int32) (f1 : 0 ≤ p1.toInt) (g1 : p1.toInt ≤ 400) (p2 : Int32) (f2 : 0 ≤ p2.toInt) (g2 : p2.toInt ≤ 400) : Met l yX12_wordOf (.code yX12_wordOf cX12_wordOf 8 (some FieldType.int) :: th_tb) ({ frames := 0, cells := 0, slots := 0, locals := 0 } : Room) (th_P [.ref a0, .int p1, .int p2] G H0) (th_Q (fun (v : Option Value) (H1 : Heap) => ∃ r : Int32, v = some (.int r) ∧ (f_X12_wordOf (dv G Γ H0) (a0 : Int) p1.toInt p2.toInt = (r.toInt, ())) ∧ H0 = H1) G) 0 0 (fun q => G.1.2.2 ≤ q) := by
  refine th_met RX12 (by decide) rfl (Nat.le_of_ble_eq_true rfl) ?_
  intro p e s m below meth c hC hH hr hlocks hnm ls hl
  have hx := hC.1
  have hb := hC.2.1
  have hB : th_B G Γ Γ [] H0 H0 [] := ⟨hI, va_S.rf, th_F_rf⟩
  have hl : lv_has ls 8 [(0, .ref a0), (1, .int p1), (2, .int p2)] := hl
  have lp1 := ti_lo p1; have up1 := ti_hi p1
  have lp2 := ti_lo p2; have up2 := ti_hi p2
  obtain ⟨F, hF0⟩ : ∃ F, F = f_X12_wordOf (dv G Γ H0) ((a0 : Int)) (p1.toInt) (p2.toInt) := ⟨_, rfl⟩
  have hF := hF0.trans (f_X12_wordOf.eq_1 (dv G Γ H0) ((a0 : Int)) (p1.toInt) (p2.toInt))
  refine lv_iconst (v := 1) hx hb gX12_wordOf_0.1 (by decide) ?_
  refine lv_istore_n (lv' := [(3, .int 1), (0, .ref a0), (1, .int p1), (2, .int p2)]) hx hb gX12_wordOf_0.2.1 rfl hl (by decide) rfl (fun ls hl => ?_)
  refine lv_iconst (v := 0) hx hb gX12_wordOf_0.2.2.1 (by decide) ?_
  refine lv_istore (lv' := [(4, .int 0), (3, .int 1), (0, .ref a0), (1, .int p1), (2, .int p2)]) hx hb gX12_wordOf_0.2.2.2.1 hl (by decide) rfl (fun ls hl => ?_)
  have lp5 : ∀ (n5 : Nat) (locs : List Loc) (ls : Array Slot) (j5_3 : Int32) (j5_4 : Int32), th_B G Γ Γ [] H0 H0 locs → lv_has ls 8 [(0, .ref a0), (1, .int p1), (2, .int p2), (3, .int j5_3), (4, .int j5_4)] → F = dv_lp f_X12_wordOf_5b (dv G Γ H0, (a0 : Int), p1.toInt, p2.toInt, j5_3.toInt, j5_4.toInt) → 0 ≤ j5_4.toInt → j5_4.toInt ≤ 127 → (128 : Int) - j5_4.toInt ≤ (n5 : Int) → W p l e ({ frames := 0, cells := 0, slots := 0, locals := 0 } : Room) s m ([.ref a0, .int p1, .int p2] : List Value).toArray below meth c H0 locs 0 0 (MQ below (th_Q (fun (v : Option Value) (H1 : Heap) => ∃ r : Int32, v = some (.int r) ∧ (f_X12_wordOf (dv G Γ H0) (a0 : Int) p1.toInt p2.toInt = (r.toInt, ())) ∧ H0 = H1) G) ([.ref a0, .int p1, .int p2] : List Value).toArray s 0 0 (fun q => G.1.2.2 ≤ q)) (F0 m 5 ls []) := by
    intro n5
    induction n5 with
    | zero => intro locs ls j5_3 j5_4 hB hl hF g5_0 g5_1 hm5; exact absurd hm5 (by have := True.intro; omega)
    | succ n5 ih5 =>
      intro locs ls j5_3 j5_4 hB hl hF g5_0 g5_1 hm5
      have lj5_3 := ti_lo j5_3; have uj5_3 := ti_hi j5_3
      have lj5_4 := ti_lo j5_4; have uj5_4 := ti_hi j5_4
      have hm5 : (128 : Int) - j5_4.toInt ≤ (n5 : Int) + 1 := by omega
      replace hF := hF.trans (dv_lp_eq)
      replace hF := hF.trans (congrArg (dv_k f_X12_wordOf_5b) (f_X12_wordOf_5c.eq_1 (dv G Γ H0) ((a0 : Int)) (p1.toInt) (p2.toInt) (j5_3.toInt) (j5_4.toInt)))
      refine lv_iload hx hb gX12_wordOf_0.2.2.2.2.1 (lv_at hl 4 rfl) ?_
      refine lv_aload_n hx hb gX12_wordOf_0.2.2.2.2.2.1 rfl (lv_at hl 0 rfl) ?_
      refine th_getO (j := 7) (r2 := 52) hC cf_X12 hB.1 h0 ro_46 rfl rfl kf_X12_41 gX12_wordOf_0.2.2.2.2.2.2.1 (fun b1 mb1 hb1 => ?_)
      refine th_alen hC hB.1 hb1 ro_52 rfl (by decide) gX12_wordOf_0.2.2.2.2.2.2.2 (fun x2 ex2 lx2 ux2 => ?_)
      replace hF := hF.trans (congrArg (dv_k f_X12_wordOf_5b) (dv_bn ((show (127 : Int) = x2.toInt from by omega))))
      refine tr_icmp_ge (tgt := 126) hx hb gX12_wordOf_1.1 (by decide) (Eq.refl _) (Eq.refl _) (fun c12 => ?_) (fun c12 => ?_)
      · replace hF := hF.trans (congrArg (dv_k f_X12_wordOf_5b) (if_pos c12))
        refine lv_iconst (v := 0) hx hb gX12_wordOf_8.2.2.2.2.1 (by decide) ?_
        replace hF := hF.trans (dv_kr)
        exact th_iret hC hH hr hlocks rfl hB.2.1 ⟨_, rfl, (hF0.symm.trans (hF.trans (by rw [tk_0]))), rfl⟩ gX12_wordOf_8.2.2.2.2.2
      · replace hF := hF.trans (congrArg (dv_k f_X12_wordOf_5b) (if_neg (Int.not_le.mpr c12)))
        refine lv_iconst (v := 0) hx hb gX12_wordOf_1.2.1 (by decide) ?_
        refine lv_istore (lv' := [(5, .int 0), (0, .ref a0), (1, .int p1), (2, .int p2), (3, .int j5_3), (4, .int j5_4)]) hx hb gX12_wordOf_1.2.2.1 hl (by decide) rfl (fun ls hl => ?_)
        have lp18 : ∀ (n18 : Nat) (locs : List Loc) (ls : Array Slot) (j18_5 : Int32), th_B G Γ Γ [] H0 H0 locs → lv_has ls 8 [(0, .ref a0), (1, .int p1), (2, .int p2), (3, .int j5_3), (4, .int j5_4), (5, .int j18_5)] → F = dv_k f_X12_wordOf_5b (dv_lp f_X12_wordOf_18b (dv G Γ H0, (a0 : Int), p1.toInt, p2.toInt, j5_3.toInt, j5_4.toInt, j18_5.toInt)) → 0 ≤ j18_5.toInt → j18_5.toInt ≤ 126 → j5_4.toInt + j18_5.toInt ≤ 126 → (2147483648 : Int) - j18_5.toInt ≤ (n18 : Int) → W p l e ({ frames := 0, cells := 0, slots := 0, locals := 0 } : Room) s m ([.ref a0, .int p1, .int p2] : List Value).toArray below meth c H0 locs 0 0 (MQ below (th_Q (fun (v : Option Value) (H1 : Heap) => ∃ r : Int32, v = some (.int r) ∧ (f_X12_wordOf (dv G Γ H0) (a0 : Int) p1.toInt p2.toInt = (r.toInt, ())) ∧ H0 = H1) G) ([.ref a0, .int p1, .int p2] : List Value).toArray s 0 0 (fun q => G.1.2.2 ≤ q)) (F0 m 18 ls []) := by
          intro n18
          induction n18 with
          | zero => intro locs ls j18_5 hB hl hF g18_0 g18_1 g18_2 hm18; exact absurd hm18 (by have := ti_hi j18_5; omega)
          | succ n18 ih18 =>
            intro locs ls j18_5 hB hl hF g18_0 g18_1 g18_2 hm18
            have lj18_5 := ti_lo j18_5; have uj18_5 := ti_hi j18_5
            have hm18 : (2147483648 : Int) - j18_5.toInt ≤ (n18 : Int) + 1 := by omega
            replace hF := hF.trans (congrArg (dv_k f_X12_wordOf_5b) (dv_lp_eq))
            replace hF := hF.trans (congrArg (dv_k f_X12_wordOf_5b) (congrArg (dv_k f_X12_wordOf_18b) (f_X12_wordOf_18c.eq_1 (dv G Γ H0) ((a0 : Int)) (p1.toInt) (p2.toInt) (j5_3.toInt) (j5_4.toInt) (j18_5.toInt))))
            refine lv_aload_n hx hb gX12_wordOf_1.2.2.2.1 rfl (lv_at hl 0 rfl) ?_
            refine th_getK hC cf_X12 hB.1 h0 ro_46 rfl (j := 7) (by decide) mb1 kf_X12_41 gX12_wordOf_1.2.2.2.2.1 ?_
            refine lv_iload hx hb gX12_wordOf_1.2.2.2.2.2.1 (lv_at hl 4 rfl) ?_
            refine lv_iload hx hb gX12_wordOf_1.2.2.2.2.2.2.1 (lv_at hl 5 rfl) ?_
            refine tr_iadd hx hb gX12_wordOf_1.2.2.2.2.2.2.2 (Eq.refl _) (Eq.refl _) (by omega) (by omega) (fun x3 ex3 => ?_)
            replace hF := hF.trans (congrArg (dv_k f_X12_wordOf_5b) (congrArg (dv_k f_X12_wordOf_18b) (dv_bn (ex3.symm))))
            refine th_baldF (lo := th_wl.getD (x3.toInt).toNat 0) (hi := th_wl.getD (x3.toInt).toNat 0) hC hB.1 hb1 ro_52 rfl (Eq.refl _) (by omega) (by omega) rfl gX12_wordOf_2.1 (fun x4 mx4 lwx4 uwx4 => ?_)
            have lx4 := ti_lo x4; have ux4 := ti_hi x4
            replace hF := hF.trans (congrArg (dv_k f_X12_wordOf_5b) (congrArg (dv_k f_X12_wordOf_18b) (dv_bn (dv_aldI hB.1 hU hb1 ow_52 (z := x3.toInt) mx4 (by omega)))))
            refine lv_bipush (v := 32) hx hb gX12_wordOf_2.2.1 (by decide) ?_
            refine tr_icmp_eq (tgt := 39) hx hb gX12_wordOf_2.2.2.1 (by decide) (Eq.refl _) tk_32 (fun c30 => ?_) (fun c30 => ?_)
            · replace hF := hF.trans (congrArg (dv_k f_X12_wordOf_5b) (congrArg (dv_k f_X12_wordOf_18b) (if_pos c30)))
              refine lv_iload hx hb gX12_wordOf_2.2.2.2.2.2.1 (lv_at hl 5 rfl) ?_
              refine lv_iload_n hx hb gX12_wordOf_2.2.2.2.2.2.2.1 rfl (lv_at hl 2 rfl) ?_
              refine lv_iload_n hx hb gX12_wordOf_2.2.2.2.2.2.2.2 rfl (lv_at hl 1 rfl) ?_
              refine tr_isub hx hb gX12_wordOf_3.1 (Eq.refl _) (Eq.refl _) (by omega) (by omega) (fun x5 ex5 => ?_)
              replace hF := hF.trans (congrArg (dv_k f_X12_wordOf_5b) (congrArg (dv_k f_X12_wordOf_18b) (dv_bn (ex5.symm))))
              refine tr_icmp_ne (tgt := 51) hx hb gX12_wordOf_3.2.1 (by decide) (Eq.refl _) (Eq.refl _) (fun c44 => ?_) (fun c44 => ?_)
              · replace hF := hF.trans (congrArg (dv_k f_X12_wordOf_5b) (congrArg (dv_k f_X12_wordOf_18b) (if_pos c44)))
                refine lv_iconst (v := 0) hx hb gX12_wordOf_3.2.2.2.2.1 (by decide) ?_
                refine lv_istore (lv' := [(6, .int 0), (0, .ref a0), (1, .int p1), (2, .int p2), (3, .int j5_3), (4, .int j5_4), (5, .int j18_5)]) hx hb gX12_wordOf_3.2.2.2.2.2.1 hl (by decide) rfl (fun ls hl => ?_)
                refine lv_iconst (v := 0) hx hb gX12_wordOf_3.2.2.2.2.2.2.1 (by decide) ?_
                refine lv_istore (lv' := [(7, .int 0), (6, .int 0), (0, .ref a0), (1, .int p1), (2, .int p2), (3, .int j5_3), (4, .int j5_4), (5, .int j18_5)]) hx hb gX12_wordOf_3.2.2.2.2.2.2.2 hl (by decide) rfl (fun ls hl => ?_)
                have lp57 : ∀ (n57 : Nat) (locs : List Loc) (ls : Array Slot) (j57_6 : Int32) (j57_7 : Int32), th_B G Γ Γ [] H0 H0 locs → lv_has ls 8 [(0, .ref a0), (1, .int p1), (2, .int p2), (3, .int j5_3), (4, .int j5_4), (5, .int j18_5), (6, .int j57_6), (7, .int j57_7)] → F = dv_k f_X12_wordOf_5b (dv_k f_X12_wordOf_18b (dv_lp f_X12_wordOf_57b (dv G Γ H0, (a0 : Int), p1.toInt, p2.toInt, j5_3.toInt, j5_4.toInt, j18_5.toInt, j57_6.toInt, j57_7.toInt))) → 0 ≤ j57_6.toInt → j57_6.toInt ≤ 1 → 0 ≤ j57_7.toInt → j57_7.toInt ≤ 143 → (j57_6.toInt = 1 → j18_5.toInt = p2.toInt - p1.toInt) → (2147483648 : Int) - j57_7.toInt ≤ (n57 : Int) → W p l e ({ frames := 0, cells := 0, slots := 0, locals := 0 } : Room) s m ([.ref a0, .int p1, .int p2] : List Value).toArray below meth c H0 locs 0 0 (MQ below (th_Q (fun (v : Option Value) (H1 : Heap) => ∃ r : Int32, v = some (.int r) ∧ (f_X12_wordOf (dv G Γ H0) (a0 : Int) p1.toInt p2.toInt = (r.toInt, ())) ∧ H0 = H1) G) ([.ref a0, .int p1, .int p2] : List Value).toArray s 0 0 (fun q => G.1.2.2 ≤ q)) (F0 m 57 ls []) := by
                  intro n57
                  induction n57 with
                  | zero => intro locs ls j57_6 j57_7 hB hl hF g57_0 g57_1 g57_2 g57_3 g57_4 hm57; exact absurd hm57 (by have := ti_hi j57_7; omega)
                  | succ n57 ih57 =>
                    intro locs ls j57_6 j57_7 hB hl hF g57_0 g57_1 g57_2 g57_3 g57_4 hm57
                    have lj57_6 := ti_lo j57_6; have uj57_6 := ti_hi j57_6
                    have lj57_7 := ti_lo j57_7; have uj57_7 := ti_hi j57_7
                    have hm57 : (2147483648 : Int) - j57_7.toInt ≤ (n57 : Int) + 1 := by omega
                    replace hF := hF.trans (congrArg (dv_k f_X12_wordOf_5b) (congrArg (dv_k f_X12_wordOf_18b) (dv_lp_eq)))
                    replace hF := hF.trans (congrArg (dv_k f_X12_wordOf_5b) (congrArg (dv_k f_X12_wordOf_18b) (congrArg (dv_k f_X12_wordOf_57b) (f_X12_wordOf_57c.eq_1 (dv G Γ H0) ((a0 : Int)) (p1.toInt) (p2.toInt) (j5_3.toInt) (j5_4.toInt) (j18_5.toInt) (j57_6.toInt) (j57_7.toInt)))))
                    refine lv_iload hx hb gX12_wordOf_4.1 (lv_at hl 7 rfl) ?_
                    refine lv_iload hx hb gX12_wordOf_4.2.1 (lv_at hl 5 rfl) ?_
                    have jn104 : ∀ (locs : List Loc) (ls : Array Slot) , th_B G Γ Γ [] H0 H0 locs → lv_has ls 8 [(0, .ref a0), (1, .int p1), (2, .int p2), (3, .int j5_3), (4, .int j5_4), (5, .int j18_5), (6, .int j57_6)] → F = dv_k f_X12_wordOf_5b (dv_k f_X12_wordOf_18b (dv_k f_X12_wordOf_57b (f_X12_wordOf_104 (dv G Γ H0) ((a0 : Int)) (p1.toInt) (p2.toInt) (j5_3.toInt) (j5_4.toInt) (j18_5.toInt) (j57_6.toInt)))) → W p l e ({ frames := 0, cells := 0, slots := 0, locals := 0 } : Room) s m ([.ref a0, .int p1, .int p2] : List Value).toArray below meth c H0 locs 0 0 (MQ below (th_Q (fun (v : Option Value) (H1 : Heap) => ∃ r : Int32, v = some (.int r) ∧ (f_X12_wordOf (dv G Γ H0) (a0 : Int) p1.toInt p2.toInt = (r.toInt, ())) ∧ H0 = H1) G) ([.ref a0, .int p1, .int p2] : List Value).toArray s 0 0 (fun q => G.1.2.2 ≤ q)) (F0 m 104 ls []) := by
                      intro locs ls hB hl hF
                      replace hF := hF.trans (congrArg (dv_k f_X12_wordOf_5b) (congrArg (dv_k f_X12_wordOf_18b) (congrArg (dv_k f_X12_wordOf_57b) (f_X12_wordOf_104.eq_1 (dv G Γ H0) ((a0 : Int)) (p1.toInt) (p2.toInt) (j5_3.toInt) (j5_4.toInt) (j18_5.toInt) (j57_6.toInt)))))
                      refine lv_iload hx hb gX12_wordOf_7.1 (lv_at hl 6 rfl) ?_
                      refine tr_if_eq (tgt := 111) hx hb gX12_wordOf_7.2.1 (by decide) (Eq.refl _) (fun c106 => ?_) (fun c106 => ?_)
                      · replace hF := hF.trans (congrArg (dv_k f_X12_wordOf_5b) (congrArg (dv_k f_X12_wordOf_18b) (congrArg (dv_k f_X12_wordOf_57b) (if_pos c106))))
                        refine lv_iload hx hb gX12_wordOf_7.2.2.2.2.1 (lv_at hl 4 rfl) ?_
                        refine lv_iload hx hb gX12_wordOf_7.2.2.2.2.2.1 (lv_at hl 5 rfl) ?_
                        refine lv_iconst (v := 1) hx hb gX12_wordOf_7.2.2.2.2.2.2.1 (by decide) ?_
                        refine tr_iadd hx hb gX12_wordOf_7.2.2.2.2.2.2.2 (Eq.refl _) tk_1 (by omega) (by omega) (fun x6 ex6 => ?_)
                        replace hF := hF.trans (congrArg (dv_k f_X12_wordOf_5b) (congrArg (dv_k f_X12_wordOf_18b) (congrArg (dv_k f_X12_wordOf_57b) (dv_bn (ex6.symm)))))
                        refine tr_iadd hx hb gX12_wordOf_8.1 (Eq.refl _) (Eq.refl _) (by omega) (by omega) (fun x7 ex7 => ?_)
                        replace hF := hF.trans (congrArg (dv_k f_X12_wordOf_5b) (congrArg (dv_k f_X12_wordOf_18b) (congrArg (dv_k f_X12_wordOf_57b) (dv_bn (ex7.symm)))))
                        refine lv_istore (lv' := [(4, .int x7), (0, .ref a0), (1, .int p1), (2, .int p2), (3, .int j5_3), (5, .int j18_5), (6, .int j57_6)]) hx hb gX12_wordOf_8.2.1 hl (by decide) rfl (fun ls hl => ?_)
                        refine tr_iincE (fun x8 => [(3, .int x8), (4, .int x7), (0, .ref a0), (1, .int p1), (2, .int p2), (5, .int j18_5), (6, .int j57_6)]) hx hb gX12_wordOf_8.2.2.1 hl (k := 4) rfl (Eq.refl _) (by decide) (fun _ => rfl) (fun x8 ls ex8 hl => ?_)
                        have lx8 := ti_lo x8; have ux8 := ti_hi x8
                        replace hF := hF.trans (congrArg (dv_k f_X12_wordOf_5b) (congrArg (dv_k f_X12_wordOf_18b) (congrArg (dv_k f_X12_wordOf_57b) (dv_bn (ex8)))))
                        refine lv_goto (tgt := 5) hx hb gX12_wordOf_8.2.2.2.1 (by decide) ?_
                        replace hF := hF.trans (congrArg (dv_k f_X12_wordOf_5b) (congrArg (dv_k f_X12_wordOf_18b) (dv_kr)))
                        replace hF := hF.trans (congrArg (dv_k f_X12_wordOf_5b) (dv_kr))
                        replace hF := hF.trans (dv_kl)
                        exact ih5 locs ls x8 x7 hB (lv_sub hl [2, 3, 4, 0, 1] rfl) hF (by omega) (by omega) (by omega)
                      · replace hF := hF.trans (congrArg (dv_k f_X12_wordOf_5b) (congrArg (dv_k f_X12_wordOf_18b) (congrArg (dv_k f_X12_wordOf_57b) (if_neg c106))))
                        refine lv_iload_n hx hb gX12_wordOf_7.2.2.1 rfl (lv_at hl 3 rfl) ?_
                        replace hF := hF.trans (congrArg (dv_k f_X12_wordOf_5b) (congrArg (dv_k f_X12_wordOf_18b) (dv_kr)))
                        replace hF := hF.trans (congrArg (dv_k f_X12_wordOf_5b) (dv_kr))
                        replace hF := hF.trans (dv_kr)
                        exact th_iret hC hH hr hlocks rfl hB.2.1 ⟨_, rfl, (hF0.symm.trans hF), rfl⟩ gX12_wordOf_7.2.2.2.1
                    refine tr_icmp_ge (tgt := 104) hx hb gX12_wordOf_4.2.2.1 (by decide) (Eq.refl _) (Eq.refl _) (fun c61 => ?_) (fun c61 => ?_)
                    · replace hF := hF.trans (congrArg (dv_k f_X12_wordOf_5b) (congrArg (dv_k f_X12_wordOf_18b) (congrArg (dv_k f_X12_wordOf_57b) (if_pos c61))))
                      exact jn104 locs ls hB (lv_sub hl [0, 1, 2, 3, 4, 5, 6] rfl) hF
                    · replace hF := hF.trans (congrArg (dv_k f_X12_wordOf_5b) (congrArg (dv_k f_X12_wordOf_18b) (congrArg (dv_k f_X12_wordOf_57b) (if_neg (Int.not_le.mpr c61)))))
                      refine lv_iload hx hb gX12_wordOf_4.2.2.2.1 (lv_at hl 6 rfl) ?_
                      refine tr_if_eq (tgt := 104) hx hb gX12_wordOf_4.2.2.2.2.1 (by decide) (Eq.refl _) (fun c66 => ?_) (fun c66 => ?_)
                      · replace hF := hF.trans (congrArg (dv_k f_X12_wordOf_5b) (congrArg (dv_k f_X12_wordOf_18b) (congrArg (dv_k f_X12_wordOf_57b) (if_pos c66))))
                        exact jn104 locs ls hB (lv_sub hl [0, 1, 2, 3, 4, 5, 6] rfl) hF
                      · replace hF := hF.trans (congrArg (dv_k f_X12_wordOf_5b) (congrArg (dv_k f_X12_wordOf_18b) (congrArg (dv_k f_X12_wordOf_57b) (if_neg c66))))
                        refine lv_aload_n hx hb gX12_wordOf_4.2.2.2.2.2.1 rfl (lv_at hl 0 rfl) ?_
                        refine th_getK hC cf_X12 hB.1 h0 ro_46 rfl (j := 7) (by decide) mb1 kf_X12_41 gX12_wordOf_4.2.2.2.2.2.2.1 ?_
                        refine lv_iload hx hb gX12_wordOf_4.2.2.2.2.2.2.2 (lv_at hl 4 rfl) ?_
                        refine lv_iload hx hb gX12_wordOf_5.1 (lv_at hl 7 rfl) ?_
                        refine tr_iadd hx hb gX12_wordOf_5.2.1 (Eq.refl _) (Eq.refl _) (by omega) (by omega) (fun x9 ex9 => ?_)
                        replace hF := hF.trans (congrArg (dv_k f_X12_wordOf_5b) (congrArg (dv_k f_X12_wordOf_18b) (congrArg (dv_k f_X12_wordOf_57b) (dv_bn (ex9.symm)))))
                        refine th_baldF (lo := th_wl.getD (x9.toInt).toNat 0) (hi := th_wl.getD (x9.toInt).toNat 0) hC hB.1 hb1 ro_52 rfl (Eq.refl _) (by omega) (by omega) rfl gX12_wordOf_5.2.2.1 (fun x10 mx10 lwx10 uwx10 => ?_)
                        have lx10 := ti_lo x10; have ux10 := ti_hi x10
                        replace hF := hF.trans (congrArg (dv_k f_X12_wordOf_5b) (congrArg (dv_k f_X12_wordOf_18b) (congrArg (dv_k f_X12_wordOf_57b) (dv_bn (dv_aldI hB.1 hU hb1 ow_52 (z := x9.toInt) mx10 (by omega))))))
                        refine lv_aload_n hx hb gX12_wordOf_5.2.2.2.1 rfl (lv_at hl 0 rfl) ?_
                        refine th_getO (j := 11) (r2 := 53) hC cf_X12 hB.1 h0 ro_46 rfl rfl kf_X12_45 gX12_wordOf_5.2.2.2.2.1 (fun b11 mb11 hb11 => ?_)
                        refine lv_iload_n hx hb gX12_wordOf_5.2.2.2.2.2.1 rfl (lv_at hl 1 rfl) ?_
                        refine lv_iload hx hb gX12_wordOf_5.2.2.2.2.2.2.1 (lv_at hl 7 rfl) ?_
                        refine tr_iadd hx hb gX12_wordOf_5.2.2.2.2.2.2.2 (Eq.refl _) (Eq.refl _) (by omega) (by omega) (fun x12 ex12 => ?_)
                        replace hF := hF.trans (congrArg (dv_k f_X12_wordOf_5b) (congrArg (dv_k f_X12_wordOf_18b) (congrArg (dv_k f_X12_wordOf_57b) (dv_bn (ex12.symm)))))
                        refine th_baldF hC hB.1 hb11 ro_53 rfl (Eq.refl _) (by omega) (by omega) rfl gX12_wordOf_6.1 (fun x13 mx13 lx13 ux13 => ?_)
                        replace hF := hF.trans (congrArg (dv_k f_X12_wordOf_5b) (congrArg (dv_k f_X12_wordOf_18b) (congrArg (dv_k f_X12_wordOf_57b) (dv_bn (dv_aldI hB.1 hU hb11 ow_53 (z := x12.toInt) mx13 (by omega))))))
                        refine tr_icmp_ne (tgt := 95) hx hb gX12_wordOf_6.2.1 (by decide) (Eq.refl _) (Eq.refl _) (fun c88 => ?_) (fun c88 => ?_)
                        · replace hF := hF.trans (congrArg (dv_k f_X12_wordOf_5b) (congrArg (dv_k f_X12_wordOf_18b) (congrArg (dv_k f_X12_wordOf_57b) (if_pos c88))))
                          refine lv_iconst (v := 0) hx hb gX12_wordOf_6.2.2.2.2.1 (by decide) ?_
                          refine lv_istore (lv' := [(6, .int 0), (0, .ref a0), (1, .int p1), (2, .int p2), (3, .int j5_3), (4, .int j5_4), (5, .int j18_5), (7, .int j57_7)]) hx hb gX12_wordOf_6.2.2.2.2.2.1 hl (by decide) rfl (fun ls hl => ?_)
                          refine tr_iinc (fun x14 => [(7, .int x14), (6, .int 0), (0, .ref a0), (1, .int p1), (2, .int p2), (3, .int j5_3), (4, .int j5_4), (5, .int j18_5)]) hx hb gX12_wordOf_6.2.2.2.2.2.2.1 hl (k := 7) rfl (Eq.refl _) tk_1 (by omega) (by omega) (by decide) (fun _ => rfl) (fun x14 ls ex14 hl => ?_)
                          replace hF := hF.trans (congrArg (dv_k f_X12_wordOf_5b) (congrArg (dv_k f_X12_wordOf_18b) (congrArg (dv_k f_X12_wordOf_57b) (dv_bn (ex14.symm)))))
                          refine lv_goto (tgt := 57) hx hb gX12_wordOf_6.2.2.2.2.2.2.2 (by decide) ?_
                          replace hF := hF.trans (congrArg (dv_k f_X12_wordOf_5b) (congrArg (dv_k f_X12_wordOf_18b) (dv_kl)))
                          exact ih57 locs ls 0 x14 hB (lv_sub hl [2, 3, 4, 5, 6, 7, 1, 0] rfl) (by rw [tk_0]; exact hF) (by decide) (by decide) (by omega) (by omega) (by have w0 := tk_0; omega) (by have w0 := tk_0; omega)
                        · replace hF := hF.trans (congrArg (dv_k f_X12_wordOf_5b) (congrArg (dv_k f_X12_wordOf_18b) (congrArg (dv_k f_X12_wordOf_57b) (if_neg (not_not_intro c88)))))
                          refine lv_iconst (v := 1) hx hb gX12_wordOf_6.2.2.1 (by decide) ?_
                          refine lv_goto (tgt := 96) hx hb gX12_wordOf_6.2.2.2.1 (by decide) ?_
                          refine lv_istore (lv' := [(6, .int 1), (0, .ref a0), (1, .int p1), (2, .int p2), (3, .int j5_3), (4, .int j5_4), (5, .int j18_5), (7, .int j57_7)]) hx hb gX12_wordOf_6.2.2.2.2.2.1 hl (by decide) rfl (fun ls hl => ?_)
                          refine tr_iinc (fun x15 => [(7, .int x15), (6, .int 1), (0, .ref a0), (1, .int p1), (2, .int p2), (3, .int j5_3), (4, .int j5_4), (5, .int j18_5)]) hx hb gX12_wordOf_6.2.2.2.2.2.2.1 hl (k := 7) rfl (Eq.refl _) tk_1 (by omega) (by omega) (by decide) (fun _ => rfl) (fun x15 ls ex15 hl => ?_)
                          replace hF := hF.trans (congrArg (dv_k f_X12_wordOf_5b) (congrArg (dv_k f_X12_wordOf_18b) (congrArg (dv_k f_X12_wordOf_57b) (dv_bn (ex15.symm)))))
                          refine lv_goto (tgt := 57) hx hb gX12_wordOf_6.2.2.2.2.2.2.2 (by decide) ?_
                          replace hF := hF.trans (congrArg (dv_k f_X12_wordOf_5b) (congrArg (dv_k f_X12_wordOf_18b) (dv_kl)))
                          exact ih57 locs ls 1 x15 hB (lv_sub hl [2, 3, 4, 5, 6, 7, 1, 0] rfl) (by rw [tk_1]; exact hF) (by decide) (by decide) (by omega) (by omega) (by have w0 := tk_1; omega) (by have w0 := tk_1; omega)
                exact lp57 ((2147483648 : Int) - (0)).toNat locs ls 0 0 hB (lv_sub hl [2, 3, 4, 5, 6, 7, 1, 0] rfl) (by rw [tk_0]; exact hF) (by decide) (by decide) (by decide) (by decide) (by have w0 := tk_0; omega) (by have w0 := tk_0; omega)
              · replace hF := hF.trans (congrArg (dv_k f_X12_wordOf_5b) (congrArg (dv_k f_X12_wordOf_18b) (if_neg (not_not_intro c44))))
                refine lv_iconst (v := 1) hx hb gX12_wordOf_3.2.2.1 (by decide) ?_
                refine lv_goto (tgt := 52) hx hb gX12_wordOf_3.2.2.2.1 (by decide) ?_
                refine lv_istore (lv' := [(6, .int 1), (0, .ref a0), (1, .int p1), (2, .int p2), (3, .int j5_3), (4, .int j5_4), (5, .int j18_5)]) hx hb gX12_wordOf_3.2.2.2.2.2.1 hl (by decide) rfl (fun ls hl => ?_)
                refine lv_iconst (v := 0) hx hb gX12_wordOf_3.2.2.2.2.2.2.1 (by decide) ?_
                refine lv_istore (lv' := [(7, .int 0), (6, .int 1), (0, .ref a0), (1, .int p1), (2, .int p2), (3, .int j5_3), (4, .int j5_4), (5, .int j18_5)]) hx hb gX12_wordOf_3.2.2.2.2.2.2.2 hl (by decide) rfl (fun ls hl => ?_)
                have lp57 : ∀ (n57 : Nat) (locs : List Loc) (ls : Array Slot) (j57_6 : Int32) (j57_7 : Int32), th_B G Γ Γ [] H0 H0 locs → lv_has ls 8 [(0, .ref a0), (1, .int p1), (2, .int p2), (3, .int j5_3), (4, .int j5_4), (5, .int j18_5), (6, .int j57_6), (7, .int j57_7)] → F = dv_k f_X12_wordOf_5b (dv_k f_X12_wordOf_18b (dv_lp f_X12_wordOf_57x2b (dv G Γ H0, (a0 : Int), p1.toInt, p2.toInt, j5_3.toInt, j5_4.toInt, j18_5.toInt, j57_6.toInt, j57_7.toInt))) → 0 ≤ j57_6.toInt → j57_6.toInt ≤ 1 → 0 ≤ j57_7.toInt → j57_7.toInt ≤ 143 → (j57_6.toInt = 1 → j18_5.toInt = p2.toInt - p1.toInt) → (2147483648 : Int) - j57_7.toInt ≤ (n57 : Int) → W p l e ({ frames := 0, cells := 0, slots := 0, locals := 0 } : Room) s m ([.ref a0, .int p1, .int p2] : List Value).toArray below meth c H0 locs 0 0 (MQ below (th_Q (fun (v : Option Value) (H1 : Heap) => ∃ r : Int32, v = some (.int r) ∧ (f_X12_wordOf (dv G Γ H0) (a0 : Int) p1.toInt p2.toInt = (r.toInt, ())) ∧ H0 = H1) G) ([.ref a0, .int p1, .int p2] : List Value).toArray s 0 0 (fun q => G.1.2.2 ≤ q)) (F0 m 57 ls []) := by
                  intro n57
                  induction n57 with
                  | zero => intro locs ls j57_6 j57_7 hB hl hF g57_0 g57_1 g57_2 g57_3 g57_4 hm57; exact absurd hm57 (by have := ti_hi j57_7; omega)
                  | succ n57 ih57 =>
                    intro locs ls j57_6 j57_7 hB hl hF g57_0 g57_1 g57_2 g57_3 g57_4 hm57
                    have lj57_6 := ti_lo j57_6; have uj57_6 := ti_hi j57_6
                    have lj57_7 := ti_lo j57_7; have uj57_7 := ti_hi j57_7
                    have hm57 : (2147483648 : Int) - j57_7.toInt ≤ (n57 : Int) + 1 := by omega
                    replace hF := hF.trans (congrArg (dv_k f_X12_wordOf_5b) (congrArg (dv_k f_X12_wordOf_18b) (dv_lp_eq)))
                    replace hF := hF.trans (congrArg (dv_k f_X12_wordOf_5b) (congrArg (dv_k f_X12_wordOf_18b) (congrArg (dv_k f_X12_wordOf_57x2b) (f_X12_wordOf_57x2c.eq_1 (dv G Γ H0) ((a0 : Int)) (p1.toInt) (p2.toInt) (j5_3.toInt) (j5_4.toInt) (j18_5.toInt) (j57_6.toInt) (j57_7.toInt)))))
                    refine lv_iload hx hb gX12_wordOf_4.1 (lv_at hl 7 rfl) ?_
                    refine lv_iload hx hb gX12_wordOf_4.2.1 (lv_at hl 5 rfl) ?_
                    have jn104 : ∀ (locs : List Loc) (ls : Array Slot) , th_B G Γ Γ [] H0 H0 locs → lv_has ls 8 [(0, .ref a0), (1, .int p1), (2, .int p2), (3, .int j5_3), (4, .int j5_4), (5, .int j18_5), (6, .int j57_6)] → F = dv_k f_X12_wordOf_5b (dv_k f_X12_wordOf_18b (dv_k f_X12_wordOf_57x2b (f_X12_wordOf_104x2 (dv G Γ H0) ((a0 : Int)) (p1.toInt) (p2.toInt) (j5_3.toInt) (j5_4.toInt) (j18_5.toInt) (j57_6.toInt)))) → W p l e ({ frames := 0, cells := 0, slots := 0, locals := 0 } : Room) s m ([.ref a0, .int p1, .int p2] : List Value).toArray below meth c H0 locs 0 0 (MQ below (th_Q (fun (v : Option Value) (H1 : Heap) => ∃ r : Int32, v = some (.int r) ∧ (f_X12_wordOf (dv G Γ H0) (a0 : Int) p1.toInt p2.toInt = (r.toInt, ())) ∧ H0 = H1) G) ([.ref a0, .int p1, .int p2] : List Value).toArray s 0 0 (fun q => G.1.2.2 ≤ q)) (F0 m 104 ls []) := by
                      intro locs ls hB hl hF
                      replace hF := hF.trans (congrArg (dv_k f_X12_wordOf_5b) (congrArg (dv_k f_X12_wordOf_18b) (congrArg (dv_k f_X12_wordOf_57x2b) (f_X12_wordOf_104x2.eq_1 (dv G Γ H0) ((a0 : Int)) (p1.toInt) (p2.toInt) (j5_3.toInt) (j5_4.toInt) (j18_5.toInt) (j57_6.toInt)))))
                      refine lv_iload hx hb gX12_wordOf_7.1 (lv_at hl 6 rfl) ?_
                      refine tr_if_eq (tgt := 111) hx hb gX12_wordOf_7.2.1 (by decide) (Eq.refl _) (fun c106 => ?_) (fun c106 => ?_)
                      · replace hF := hF.trans (congrArg (dv_k f_X12_wordOf_5b) (congrArg (dv_k f_X12_wordOf_18b) (congrArg (dv_k f_X12_wordOf_57x2b) (if_pos c106))))
                        refine lv_iload hx hb gX12_wordOf_7.2.2.2.2.1 (lv_at hl 4 rfl) ?_
                        refine lv_iload hx hb gX12_wordOf_7.2.2.2.2.2.1 (lv_at hl 5 rfl) ?_
                        refine lv_iconst (v := 1) hx hb gX12_wordOf_7.2.2.2.2.2.2.1 (by decide) ?_
                        refine tr_iadd hx hb gX12_wordOf_7.2.2.2.2.2.2.2 (Eq.refl _) tk_1 (by omega) (by omega) (fun x16 ex16 => ?_)
                        replace hF := hF.trans (congrArg (dv_k f_X12_wordOf_5b) (congrArg (dv_k f_X12_wordOf_18b) (congrArg (dv_k f_X12_wordOf_57x2b) (dv_bn (ex16.symm)))))
                        refine tr_iadd hx hb gX12_wordOf_8.1 (Eq.refl _) (Eq.refl _) (by omega) (by omega) (fun x17 ex17 => ?_)
                        replace hF := hF.trans (congrArg (dv_k f_X12_wordOf_5b) (congrArg (dv_k f_X12_wordOf_18b) (congrArg (dv_k f_X12_wordOf_57x2b) (dv_bn (ex17.symm)))))
                        refine lv_istore (lv' := [(4, .int x17), (0, .ref a0), (1, .int p1), (2, .int p2), (3, .int j5_3), (5, .int j18_5), (6, .int j57_6)]) hx hb gX12_wordOf_8.2.1 hl (by decide) rfl (fun ls hl => ?_)
                        refine tr_iincE (fun x18 => [(3, .int x18), (4, .int x17), (0, .ref a0), (1, .int p1), (2, .int p2), (5, .int j18_5), (6, .int j57_6)]) hx hb gX12_wordOf_8.2.2.1 hl (k := 4) rfl (Eq.refl _) (by decide) (fun _ => rfl) (fun x18 ls ex18 hl => ?_)
                        have lx18 := ti_lo x18; have ux18 := ti_hi x18
                        replace hF := hF.trans (congrArg (dv_k f_X12_wordOf_5b) (congrArg (dv_k f_X12_wordOf_18b) (congrArg (dv_k f_X12_wordOf_57x2b) (dv_bn (ex18)))))
                        refine lv_goto (tgt := 5) hx hb gX12_wordOf_8.2.2.2.1 (by decide) ?_
                        replace hF := hF.trans (congrArg (dv_k f_X12_wordOf_5b) (congrArg (dv_k f_X12_wordOf_18b) (dv_kr)))
                        replace hF := hF.trans (congrArg (dv_k f_X12_wordOf_5b) (dv_kr))
                        replace hF := hF.trans (dv_kl)
                        exact ih5 locs ls x18 x17 hB (lv_sub hl [2, 3, 4, 0, 1] rfl) hF (by omega) (by omega) (by omega)
                      · replace hF := hF.trans (congrArg (dv_k f_X12_wordOf_5b) (congrArg (dv_k f_X12_wordOf_18b) (congrArg (dv_k f_X12_wordOf_57x2b) (if_neg c106))))
                        refine lv_iload_n hx hb gX12_wordOf_7.2.2.1 rfl (lv_at hl 3 rfl) ?_
                        replace hF := hF.trans (congrArg (dv_k f_X12_wordOf_5b) (congrArg (dv_k f_X12_wordOf_18b) (dv_kr)))
                        replace hF := hF.trans (congrArg (dv_k f_X12_wordOf_5b) (dv_kr))
                        replace hF := hF.trans (dv_kr)
                        exact th_iret hC hH hr hlocks rfl hB.2.1 ⟨_, rfl, (hF0.symm.trans hF), rfl⟩ gX12_wordOf_7.2.2.2.1
                    refine tr_icmp_ge (tgt := 104) hx hb gX12_wordOf_4.2.2.1 (by decide) (Eq.refl _) (Eq.refl _) (fun c61 => ?_) (fun c61 => ?_)
                    · replace hF := hF.trans (congrArg (dv_k f_X12_wordOf_5b) (congrArg (dv_k f_X12_wordOf_18b) (congrArg (dv_k f_X12_wordOf_57x2b) (if_pos c61))))
                      exact jn104 locs ls hB (lv_sub hl [0, 1, 2, 3, 4, 5, 6] rfl) hF
                    · replace hF := hF.trans (congrArg (dv_k f_X12_wordOf_5b) (congrArg (dv_k f_X12_wordOf_18b) (congrArg (dv_k f_X12_wordOf_57x2b) (if_neg (Int.not_le.mpr c61)))))
                      refine lv_iload hx hb gX12_wordOf_4.2.2.2.1 (lv_at hl 6 rfl) ?_
                      refine tr_if_eq (tgt := 104) hx hb gX12_wordOf_4.2.2.2.2.1 (by decide) (Eq.refl _) (fun c66 => ?_) (fun c66 => ?_)
                      · replace hF := hF.trans (congrArg (dv_k f_X12_wordOf_5b) (congrArg (dv_k f_X12_wordOf_18b) (congrArg (dv_k f_X12_wordOf_57x2b) (if_pos c66))))
                        exact jn104 locs ls hB (lv_sub hl [0, 1, 2, 3, 4, 5, 6] rfl) hF
                      · replace hF := hF.trans (congrArg (dv_k f_X12_wordOf_5b) (congrArg (dv_k f_X12_wordOf_18b) (congrArg (dv_k f_X12_wordOf_57x2b) (if_neg c66))))
                        refine lv_aload_n hx hb gX12_wordOf_4.2.2.2.2.2.1 rfl (lv_at hl 0 rfl) ?_
                        refine th_getK hC cf_X12 hB.1 h0 ro_46 rfl (j := 7) (by decide) mb1 kf_X12_41 gX12_wordOf_4.2.2.2.2.2.2.1 ?_
                        refine lv_iload hx hb gX12_wordOf_4.2.2.2.2.2.2.2 (lv_at hl 4 rfl) ?_
                        refine lv_iload hx hb gX12_wordOf_5.1 (lv_at hl 7 rfl) ?_
                        refine tr_iadd hx hb gX12_wordOf_5.2.1 (Eq.refl _) (Eq.refl _) (by omega) (by omega) (fun x19 ex19 => ?_)
                        replace hF := hF.trans (congrArg (dv_k f_X12_wordOf_5b) (congrArg (dv_k f_X12_wordOf_18b) (congrArg (dv_k f_X12_wordOf_57x2b) (dv_bn (ex19.symm)))))
                        refine th_baldF (lo := th_wl.getD (x19.toInt).toNat 0) (hi := th_wl.getD (x19.toInt).toNat 0) hC hB.1 hb1 ro_52 rfl (Eq.refl _) (by omega) (by omega) rfl gX12_wordOf_5.2.2.1 (fun x20 mx20 lwx20 uwx20 => ?_)
                        have lx20 := ti_lo x20; have ux20 := ti_hi x20
                        replace hF := hF.trans (congrArg (dv_k f_X12_wordOf_5b) (congrArg (dv_k f_X12_wordOf_18b) (congrArg (dv_k f_X12_wordOf_57x2b) (dv_bn (dv_aldI hB.1 hU hb1 ow_52 (z := x19.toInt) mx20 (by omega))))))
                        refine lv_aload_n hx hb gX12_wordOf_5.2.2.2.1 rfl (lv_at hl 0 rfl) ?_
                        refine th_getO (j := 11) (r2 := 53) hC cf_X12 hB.1 h0 ro_46 rfl rfl kf_X12_45 gX12_wordOf_5.2.2.2.2.1 (fun b21 mb21 hb21 => ?_)
                        refine lv_iload_n hx hb gX12_wordOf_5.2.2.2.2.2.1 rfl (lv_at hl 1 rfl) ?_
                        refine lv_iload hx hb gX12_wordOf_5.2.2.2.2.2.2.1 (lv_at hl 7 rfl) ?_
                        refine tr_iadd hx hb gX12_wordOf_5.2.2.2.2.2.2.2 (Eq.refl _) (Eq.refl _) (by omega) (by omega) (fun x22 ex22 => ?_)
                        replace hF := hF.trans (congrArg (dv_k f_X12_wordOf_5b) (congrArg (dv_k f_X12_wordOf_18b) (congrArg (dv_k f_X12_wordOf_57x2b) (dv_bn (ex22.symm)))))
                        refine th_baldF hC hB.1 hb21 ro_53 rfl (Eq.refl _) (by omega) (by omega) rfl gX12_wordOf_6.1 (fun x23 mx23 lx23 ux23 => ?_)
                        replace hF := hF.trans (congrArg (dv_k f_X12_wordOf_5b) (congrArg (dv_k f_X12_wordOf_18b) (congrArg (dv_k f_X12_wordOf_57x2b) (dv_bn (dv_aldI hB.1 hU hb21 ow_53 (z := x22.toInt) mx23 (by omega))))))
                        refine tr_icmp_ne (tgt := 95) hx hb gX12_wordOf_6.2.1 (by decide) (Eq.refl _) (Eq.refl _) (fun c88 => ?_) (fun c88 => ?_)
                        · replace hF := hF.trans (congrArg (dv_k f_X12_wordOf_5b) (congrArg (dv_k f_X12_wordOf_18b) (congrArg (dv_k f_X12_wordOf_57x2b) (if_pos c88))))
                          refine lv_iconst (v := 0) hx hb gX12_wordOf_6.2.2.2.2.1 (by decide) ?_
                          refine lv_istore (lv' := [(6, .int 0), (0, .ref a0), (1, .int p1), (2, .int p2), (3, .int j5_3), (4, .int j5_4), (5, .int j18_5), (7, .int j57_7)]) hx hb gX12_wordOf_6.2.2.2.2.2.1 hl (by decide) rfl (fun ls hl => ?_)
                          refine tr_iinc (fun x24 => [(7, .int x24), (6, .int 0), (0, .ref a0), (1, .int p1), (2, .int p2), (3, .int j5_3), (4, .int j5_4), (5, .int j18_5)]) hx hb gX12_wordOf_6.2.2.2.2.2.2.1 hl (k := 7) rfl (Eq.refl _) tk_1 (by omega) (by omega) (by decide) (fun _ => rfl) (fun x24 ls ex24 hl => ?_)
                          replace hF := hF.trans (congrArg (dv_k f_X12_wordOf_5b) (congrArg (dv_k f_X12_wordOf_18b) (congrArg (dv_k f_X12_wordOf_57x2b) (dv_bn (ex24.symm)))))
                          refine lv_goto (tgt := 57) hx hb gX12_wordOf_6.2.2.2.2.2.2.2 (by decide) ?_
                          replace hF := hF.trans (congrArg (dv_k f_X12_wordOf_5b) (congrArg (dv_k f_X12_wordOf_18b) (dv_kl)))
                          exact ih57 locs ls 0 x24 hB (lv_sub hl [2, 3, 4, 5, 6, 7, 1, 0] rfl) (by rw [tk_0]; exact hF) (by decide) (by decide) (by omega) (by omega) (by have w0 := tk_0; omega) (by have w0 := tk_0; omega)
                        · replace hF := hF.trans (congrArg (dv_k f_X12_wordOf_5b) (congrArg (dv_k f_X12_wordOf_18b) (congrArg (dv_k f_X12_wordOf_57x2b) (if_neg (not_not_intro c88)))))
                          refine lv_iconst (v := 1) hx hb gX12_wordOf_6.2.2.1 (by decide) ?_
                          refine lv_goto (tgt := 96) hx hb gX12_wordOf_6.2.2.2.1 (by decide) ?_
                          refine lv_istore (lv' := [(6, .int 1), (0, .ref a0), (1, .int p1), (2, .int p2), (3, .int j5_3), (4, .int j5_4), (5, .int j18_5), (7, .int j57_7)]) hx hb gX12_wordOf_6.2.2.2.2.2.1 hl (by decide) rfl (fun ls hl => ?_)
                          refine tr_iinc (fun x25 => [(7, .int x25), (6, .int 1), (0, .ref a0), (1, .int p1), (2, .int p2), (3, .int j5_3), (4, .int j5_4), (5, .int j18_5)]) hx hb gX12_wordOf_6.2.2.2.2.2.2.1 hl (k := 7) rfl (Eq.refl _) tk_1 (by omega) (by omega) (by decide) (fun _ => rfl) (fun x25 ls ex25 hl => ?_)
                          replace hF := hF.trans (congrArg (dv_k f_X12_wordOf_5b) (congrArg (dv_k f_X12_wordOf_18b) (congrArg (dv_k f_X12_wordOf_57x2b) (dv_bn (ex25.symm)))))
                          refine lv_goto (tgt := 57) hx hb gX12_wordOf_6.2.2.2.2.2.2.2 (by decide) ?_
                          replace hF := hF.trans (congrArg (dv_k f_X12_wordOf_5b) (congrArg (dv_k f_X12_wordOf_18b) (dv_kl)))
                          exact ih57 locs ls 1 x25 hB (lv_sub hl [2, 3, 4, 5, 6, 7, 1, 0] rfl) (by rw [tk_1]; exact hF) (by decide) (by decide) (by omega) (by omega) (by have w0 := tk_1; omega) (by have w0 := tk_1; omega)
                exact lp57 ((2147483648 : Int) - (0)).toNat locs ls 1 0 hB (lv_sub hl [2, 3, 4, 5, 6, 7, 1, 0] rfl) (by rw [tk_1, tk_0]; exact hF) (by decide) (by decide) (by decide) (by decide) (by have w0 := tk_0; have w1 := tk_1; omega) (by have w0 := tk_0; have w1 := tk_1; omega)
            · replace hF := hF.trans (congrArg (dv_k f_X12_wordOf_5b) (congrArg (dv_k f_X12_wordOf_18b) (if_neg c30)))
              refine tr_iinc (fun x26 => [(5, .int x26), (0, .ref a0), (1, .int p1), (2, .int p2), (3, .int j5_3), (4, .int j5_4)]) hx hb gX12_wordOf_2.2.2.2.1 hl (k := 5) rfl (Eq.refl _) tk_1 (by omega) (by omega) (by decide) (fun _ => rfl) (fun x26 ls ex26 hl => ?_)
              replace hF := hF.trans (congrArg (dv_k f_X12_wordOf_5b) (congrArg (dv_k f_X12_wordOf_18b) (dv_bn (ex26.symm))))
              have w33 : x3.toInt ≠ 126 := fun q9 => by have e9 : th_wl.getD (x3.toInt).toNat 0 = 32 := (by rw [q9]; decide); omega
              refine lv_goto (tgt := 18) hx hb gX12_wordOf_2.2.2.2.2.1 (by decide) ?_
              replace hF := hF.trans (congrArg (dv_k f_X12_wordOf_5b) (dv_kl))
              exact ih18 locs ls x26 hB (lv_sub hl [1, 2, 3, 4, 5, 0] rfl) hF (by omega) (by omega) (by omega) (by omega)
        exact lp18 ((2147483648 : Int) - (0)).toNat locs ls 0 hB (lv_sub hl [1, 2, 3, 4, 5, 0] rfl) (by rw [tk_0]; exact hF) (by decide) (by decide) (by have w0 := tk_0; omega) (by have w0 := tk_0; omega)
  exact lp5 ((128 : Int) - (0)).toNat [] ls 1 0 hB (lv_sub hl [2, 3, 4, 1, 0] rfl) (by rw [tk_1, tk_0]; exact hF) (by decide) (by decide) (by have w0 := tk_0; have w1 := tk_1; omega)

set_option maxHeartbeats 4000000 in
set_option maxRecDepth 100000 in
theorem c_X12_splits (l : Launch) (G : th_G) (Γ : th_Ga) (H0 : Heap) (hI : th_I G Γ H0) (hR : th_RC G Γ H0) (hU : dv_U Γ) (a0 : Nat) (h0 : Γ a0 = (46, 0)) (p1 : Int32) (f1 : 0 ≤ p1.toInt) (g1 : p1.toInt ≤ 400) : Met l yX12_splits (.code yX12_splits cX12_splits 6 (none) :: th_tb) ({ frames := 1, cells := 0, slots := 0, locals := 27 } : Room) (th_P [.ref a0, .int p1] G H0) (th_Q (fun (v : Option Value) (H1 : Heap) => v = none ∧ th_I G Γ H1 ∧ th_F G Γ [(46, 18), (57, 0), (56, 0), (55, 0)] H0 H1 ∧ th_RC G Γ H1 ∧ (mo_v G H1 a0 15 (mo_f G H1 a0 18) = 0) ∧ (f_X12_splits (dv G Γ H0) (a0 : Int) p1.toInt = (dv G Γ H1, 0))) G) 0 0 (fun q => G.1.2.2 ≤ q) := by
  refine th_met RX12 (by decide) rfl (Nat.le_of_ble_eq_true rfl) ?_
  intro p e s m below meth c hC hH hr hlocks hnm ls hl
  have hx := hC.1
  have hb := hC.2.1
  have hB : th_B G Γ Γ [(46, 18), (57, 0), (56, 0), (55, 0)] H0 H0 [] := ⟨hI, va_S.rf, th_F_rf⟩
  have hl : lv_has ls 6 [(0, .ref a0), (1, .int p1)] := hl
  have lp1 := ti_lo p1; have up1 := ti_hi p1
  obtain ⟨F, hF0⟩ : ∃ F, F = f_X12_splits (dv G Γ H0) ((a0 : Int)) (p1.toInt) := ⟨_, rfl⟩
  have hF := hF0.trans (f_X12_splits.eq_1 (dv G Γ H0) ((a0 : Int)) (p1.toInt))
  refine lv_aload_n hx hb gX12_splits_0.1 rfl (lv_at hl 0 rfl) ?_
  refine lv_iconst (v := 0) hx hb gX12_splits_0.2.1 (by decide) ?_
  refine th_put hC cf_X12 hB h0 (Or.inl h0) ro_46 rfl (j := 18) rfl (th_sI (by decide) (by decide)) (by decide) rfl rfl rfl kf_X12_175 gX12_splits_0.2.2.1 (fun H2 locs hB hf hst2 => ?_)
  have hR := th_RC_F hB.1 hR hf (th_T_s h0 ro_46 hst2) (by decide)
  have vv_H2_15 : mo_v G H2 a0 15 = mo_v G H0 a0 15 := mo_v_F (r := 55) hB.1 hf h0 rfl ro_55 (by decide) (by decide)
  replace hF := hF.trans (dv_bn (dv_putI hB.1 h0 ro_46 (j := 18) rfl (th_apart hC cf_X12) hst2 tk_0 (by decide)))
  have fp2 : mo_f G H2 a0 18 = 0 := (mo_f_St hst2).trans tk_0
  have mm1 := hst2.2.1
  refine lv_iconst (v := 0) hx hb gX12_splits_0.2.2.2.1 (by decide) ?_
  refine lv_istore_n (lv' := [(2, .int 0), (0, .ref a0), (1, .int p1)]) hx hb gX12_splits_0.2.2.2.2.1 rfl hl (by decide) rfl (fun ls hl => ?_)
  have lp7 : ∀ (n7 : Nat) (H7 : Heap) (locs : List Loc) (ls : Array Slot) (j7_2 : Int32), th_B G Γ Γ [(46, 18), (57, 0), (56, 0), (55, 0)] H0 H7 locs → th_RC G Γ H7 → lv_has ls 6 [(0, .ref a0), (1, .int p1), (2, .int j7_2)] → F = dv_lp f_X12_splits_7b (dv G Γ H7, (a0 : Int), p1.toInt, j7_2.toInt) → 0 ≤ j7_2.toInt → j7_2.toInt ≤ 400 → (mo_f G H7 a0 18 ≤ j7_2.toInt) → j7_2.toInt ≤ p1.toInt → (401 : Int) - j7_2.toInt ≤ (n7 : Int) → W p l e ({ frames := 1, cells := 0, slots := 0, locals := 27 } : Room) s m ([.ref a0, .int p1] : List Value).toArray below meth c H7 locs 0 0 (MQ below (th_Q (fun (v : Option Value) (H1 : Heap) => v = none ∧ th_I G Γ H1 ∧ th_F G Γ [(46, 18), (57, 0), (56, 0), (55, 0)] H0 H1 ∧ th_RC G Γ H1 ∧ (mo_v G H1 a0 15 (mo_f G H1 a0 18) = 0) ∧ (f_X12_splits (dv G Γ H0) (a0 : Int) p1.toInt = (dv G Γ H1, 0))) G) ([.ref a0, .int p1] : List Value).toArray s 0 0 (fun q => G.1.2.2 ≤ q)) (F0 m 7 ls []) := by
    intro n7
    induction n7 with
    | zero => intro H7 locs ls j7_2 hB hR hl hF g7_0 g7_1 g7_2 g7_3 hm7; exact absurd hm7 (by have := True.intro; omega)
    | succ n7 ih7 =>
      intro H7 locs ls j7_2 hB hR hl hF g7_0 g7_1 g7_2 g7_3 hm7
      have lj7_2 := ti_lo j7_2; have uj7_2 := ti_hi j7_2
      have hm7 : (401 : Int) - j7_2.toInt ≤ (n7 : Int) + 1 := by omega
      replace hF := hF.trans (dv_lp_eq)
      replace hF := hF.trans (congrArg (dv_k f_X12_splits_7b) (f_X12_splits_7c.eq_1 (dv G Γ H7) ((a0 : Int)) (p1.toInt) (j7_2.toInt)))
      refine lv_iload_n hx hb gX12_splits_0.2.2.2.2.2.1 rfl (lv_at hl 2 rfl) ?_
      refine lv_iload_n hx hb gX12_splits_0.2.2.2.2.2.2.1 rfl (lv_at hl 1 rfl) ?_
      refine tr_icmp_ge (tgt := 263) hx hb gX12_splits_0.2.2.2.2.2.2.2 (by decide) (Eq.refl _) (Eq.refl _) (fun c9 => ?_) (fun c9 => ?_)
      · replace hF := hF.trans (congrArg (dv_k f_X12_splits_7b) (if_pos c9))
        refine lv_aload_n hx hb gX12_splits_17.1 rfl (lv_at hl 0 rfl) ?_
        refine th_getO (j := 17) (r2 := 57) hC cf_X12 hB.1 h0 ro_46 rfl rfl kf_X12_60 gX12_splits_17.2.1 (fun b2 mb2 hb2 => ?_)
        refine lv_aload_n hx hb gX12_splits_17.2.2.1 rfl (lv_at hl 0 rfl) ?_
        refine th_getI (j := 18) hC cf_X12 hB.1 h0 ro_46 rfl rfl kf_X12_175 gX12_splits_17.2.2.2.1 (fun x3 mx3 lx3 ux3 => ?_)
        replace hF := hF.trans (congrArg (dv_k f_X12_splits_7b) (dv_bn (dv_getI h0 ro_46 (j := 18) rfl mx3 (by decide))))
        have fg4 : mo_f G H7 a0 18 = x3.toInt := mo_fat mx3
        refine lv_iload_n hx hb gX12_splits_17.2.2.2.2.1 rfl (lv_at hl 1 rfl) ?_
        have hIo := hB.1
        refine th_iastF hC hB hb2 (Or.inl hb2) ro_57 rfl (by decide) (Eq.refl _) (by omega) (by omega) (th_sI (by omega) (by omega)) gX12_splits_17.2.2.2.2.2.1 (fun H272 locs hB hf272 hst272 => ?_)
        have hf := hf272
        have mm5 := (th_F_o hf h0 ro_46 (j := 18) (by decide) (by decide)).trans mx3
        have hR := th_RC_F hB.1 hR hf (th_T_s hb2 ro_57 hst272) (by decide)
        have fv_H272_18 : mo_f G H272 a0 18 = mo_f G H7 a0 18 := mo_f_F hf h0 (by decide) (by decide)
        have vv_H272_15 : mo_v G H272 a0 15 = mo_v G H7 a0 15 := mo_v_F (r := 55) hB.1 hf h0 rfl ro_55 (by decide) (by decide)
        replace hF := hF.trans (congrArg (dv_k f_X12_splits_7b) (dv_bn (dv_stoI hIo hB.1 hU hb2 ow_57 (i := x3.toInt) hst272 (Eq.refl _) (by omega))))
        refine lv_aload_n hx hb gX12_splits_17.2.2.2.2.2.2.1 rfl (lv_at hl 0 rfl) ?_
        refine th_getO (j := 15) (r2 := 55) hC cf_X12 hB.1 h0 ro_46 rfl rfl kf_X12_54 gX12_splits_17.2.2.2.2.2.2.2 (fun b6 mb6 hb6 => ?_)
        refine lv_aload_n hx hb gX12_splits_18.1 rfl (lv_at hl 0 rfl) ?_
        refine th_getK hC cf_X12 hB.1 h0 ro_46 rfl (j := 18) (by decide) mm5 kf_X12_175 gX12_splits_18.2.1 ?_
        replace hF := hF.trans (congrArg (dv_k f_X12_splits_7b) (dv_bn (dv_getI h0 ro_46 (j := 18) rfl mm5 (by decide))))
        have fg7 : mo_f G H272 a0 18 = x3.toInt := mo_fat mm5
        refine lv_iconst (v := 0) hx hb gX12_splits_18.2.2.1 (by decide) ?_
        have hIo := hB.1
        refine th_iastF hC hB hb6 (Or.inl hb6) ro_55 rfl (by decide) (Eq.refl _) (by omega) (by omega) th_sIa gX12_splits_18.2.2.2.1 (fun H282 locs hB hf282 hst282 => ?_)
        have hf := hf282
        have mm8 := (th_F_o hf h0 ro_46 (j := 18) (by decide) (by decide)).trans mm5
        have hR := th_RC_F hB.1 hR hf (th_T_s hb6 ro_55 hst282) (by decide)
        have fv_H282_18 : mo_f G H282 a0 18 = mo_f G H272 a0 18 := mo_f_F hf h0 (by decide) (by decide)
        replace hF := hF.trans (congrArg (dv_k f_X12_splits_7b) (dv_bn (dv_stoI hIo hB.1 hU hb6 ow_55 (i := x3.toInt) hst282 tk_0 (by omega))))
        have vs282 : mo_v G H282 a0 15 = mo_u (mo_v G H272 a0 15) x3.toInt 0 := by rw [show (x3.toInt : Int) = x3.toInt by omega]; exact mo_v_st h0 hb6 (by decide) mb6 hst282 (by omega)
        refine lv_aload_n hx hb gX12_splits_18.2.2.2.2.1 rfl (lv_at hl 0 rfl) ?_
        refine th_getO (j := 16) (r2 := 56) hC cf_X12 hB.1 h0 ro_46 rfl rfl kf_X12_57 gX12_splits_18.2.2.2.2.2.1 (fun b9 mb9 hb9 => ?_)
        refine lv_aload_n hx hb gX12_splits_18.2.2.2.2.2.2.1 rfl (lv_at hl 0 rfl) ?_
        refine th_getK hC cf_X12 hB.1 h0 ro_46 rfl (j := 18) (by decide) mm8 kf_X12_175 gX12_splits_18.2.2.2.2.2.2.2 ?_
        replace hF := hF.trans (congrArg (dv_k f_X12_splits_7b) (dv_bn (dv_getI h0 ro_46 (j := 18) rfl mm8 (by decide))))
        have fg10 : mo_f G H282 a0 18 = x3.toInt := mo_fat mm8
        refine lv_iconst (v := 0) hx hb gX12_splits_19.1 (by decide) ?_
        have hIo := hB.1
        refine th_iastF hC hB hb9 (Or.inl hb9) ro_56 rfl (by decide) (Eq.refl _) (by omega) (by omega) th_sIa gX12_splits_19.2.1 (fun H292 locs hB hf292 hst292 => ?_)
        have hf := hf292
        have mm11 := (th_F_o hf h0 ro_46 (j := 18) (by decide) (by decide)).trans mm8
        have hR := th_RC_F hB.1 hR hf (th_T_s hb9 ro_56 hst292) (by decide)
        have fv_H292_18 : mo_f G H292 a0 18 = mo_f G H282 a0 18 := mo_f_F hf h0 (by decide) (by decide)
        have vv_H292_15 : mo_v G H292 a0 15 = mo_v G H282 a0 15 := mo_v_F (r := 55) hB.1 hf h0 rfl ro_55 (by decide) (by decide)
        replace hF := hF.trans (congrArg (dv_k f_X12_splits_7b) (dv_bn (dv_stoI hIo hB.1 hU hb9 ow_56 (i := x3.toInt) hst292 tk_0 (by omega))))
        replace hF := hF.trans (dv_kr)
        exact th_vret hC hH hr hlocks hB.2.1 ⟨rfl, hB.1, hB.2.2, hR, by rw [vv_H292_15, vs282]; exact mo_us (by omega), (hF0.symm.trans hF)⟩ gX12_splits_19.2.2
      · replace hF := hF.trans (congrArg (dv_k f_X12_splits_7b) (if_neg (Int.not_le.mpr c9)))
        refine lv_aload_n hx hb gX12_splits_1.1 rfl (lv_at hl 0 rfl) ?_
        refine th_getO (j := 11) (r2 := 53) hC cf_X12 hB.1 h0 ro_46 rfl rfl kf_X12_45 gX12_splits_1.2.1 (fun b12 mb12 hb12 => ?_)
        have sb12 := (th_F_o hB.2.2 h0 ro_46 (j := 11) (by decide) (by decide)).symm.trans mb12
        refine lv_iload_n hx hb gX12_splits_1.2.2.1 rfl (lv_at hl 2 rfl) ?_
        refine th_baldF hC hB.1 hb12 ro_53 rfl (Eq.refl _) (by omega) (by omega) rfl gX12_splits_1.2.2.2.1 (fun x13 mx13 lx13 ux13 => ?_)
        replace hF := hF.trans (congrArg (dv_k f_X12_splits_7b) (dv_bn (dv_aldI hB.1 hU hb12 ow_53 (z := j7_2.toInt) mx13 (by omega))))
        refine lv_istore_n (lv' := [(3, .int x13), (0, .ref a0), (1, .int p1), (2, .int j7_2)]) hx hb gX12_splits_1.2.2.2.2.1 rfl hl (by decide) rfl (fun ls hl => ?_)
        refine lv_iload_n hx hb gX12_splits_1.2.2.2.2.2.1 rfl (lv_at hl 0 rfl) ?_
        refine lv_bipush (v := 32) hx hb gX12_splits_1.2.2.2.2.2.2.1 (by decide) ?_
        refine tr_icmp_ne (tgt := 31) hx hb gX12_splits_1.2.2.2.2.2.2.2 (by decide) (Eq.refl _) tk_32 (fun c22 => ?_) (fun c22 => ?_)
        · replace hF := hF.trans (congrArg (dv_k f_X12_splits_7b) (if_pos c22))
          refine lv_iload_n hx hb gX12_splits_2.2.2.1 rfl (lv_at hl 3 rfl) ?_
          refine lv_iconst (v := 1) hx hb gX12_splits_2.2.2.2.1 (by decide) ?_
          refine tr_iadd hx hb gX12_splits_2.2.2.2.2.1 (Eq.refl _) tk_1 (by omega) (by omega) (fun x14 ex14 => ?_)
          replace hF := hF.trans (congrArg (dv_k f_X12_splits_7b) (dv_bn (ex14.symm)))
          refine lv_istore (lv' := [(4, .int x14), (3, .int x13), (0, .ref a0), (1, .int p1), (2, .int j7_2)]) hx hb gX12_splits_2.2.2.2.2.2.1 hl (by decide) rfl (fun ls hl => ?_)
          refine lv_iload_n hx hb gX12_splits_2.2.2.2.2.2.2.1 rfl (lv_at hl 1 rfl) ?_
          refine th_call (th_runS (As := [.int x13]) (rest := []) hC mf_X12_isSmall km_X12_178 st_X12_isSmall (c_X12_isSmall l G Γ H7 hB.1 hU x13) rfl rfl ⟨Nat.le_of_ble_eq_true rfl, Nat.le_of_ble_eq_true rfl⟩ rfl hl.1 rfl (Nat.le_of_ble_eq_true rfl) gX12_splits_2.2.2.2.2.2.2.2 ⟨Nat.le_refl _, Nat.le_refl _⟩) hB.2.1 (fun v37 H37 locs hp hz hS => ?_)
          obtain ⟨x15, rfl, lx15, ux15, q37_0, rfl⟩ := hp
          have hB := th_B_s hB hS
          replace hF := hF.trans (congrArg (dv_k f_X12_splits_7b) (dv_bn2 (q37_0)))
          refine W.eq (g2 := F0 m 40 ls [.int x15]) rfl ?_
          have jn68 : ∀ (locs : List Loc) (ls : Array Slot) (j68_4 : Int32), th_B G Γ Γ [(46, 18), (57, 0), (56, 0), (55, 0)] H0 H7 locs → lv_has ls 6 [(3, .int x13), (0, .ref a0), (1, .int p1), (2, .int j7_2), (4, .int j68_4)] → F = dv_k f_X12_splits_7b (f_X12_splits_68 (dv G Γ H7) (x13.toInt) ((a0 : Int)) (p1.toInt) (j7_2.toInt) (j68_4.toInt)) → 1 ≤ j68_4.toInt → j68_4.toInt ≤ 400 → j7_2.toInt + 1 ≤ j68_4.toInt → j68_4.toInt ≤ p1.toInt → W p l e ({ frames := 1, cells := 0, slots := 0, locals := 27 } : Room) s m ([.ref a0, .int p1] : List Value).toArray below meth c H7 locs 0 0 (MQ below (th_Q (fun (v : Option Value) (H1 : Heap) => v = none ∧ th_I G Γ H1 ∧ th_F G Γ [(46, 18), (57, 0), (56, 0), (55, 0)] H0 H1 ∧ th_RC G Γ H1 ∧ (mo_v G H1 a0 15 (mo_f G H1 a0 18) = 0) ∧ (f_X12_splits (dv G Γ H0) (a0 : Int) p1.toInt = (dv G Γ H1, 0))) G) ([.ref a0, .int p1] : List Value).toArray s 0 0 (fun q => G.1.2.2 ≤ q)) (F0 m 68 ls []) := by
            intro locs ls j68_4 hB hl hF g68_0 g68_1 g68_2 g68_3
            have lj68_4 := ti_lo j68_4; have uj68_4 := ti_hi j68_4
            replace hF := hF.trans (congrArg (dv_k f_X12_splits_7b) (f_X12_splits_68.eq_1 (dv G Γ H7) (x13.toInt) ((a0 : Int)) (p1.toInt) (j7_2.toInt) (j68_4.toInt)))
            refine lv_iload_n hx hb gX12_splits_4.2.2.2.2.1 rfl (lv_at hl 0 rfl) ?_
            refine th_call (th_runS (As := [.int x13]) (rest := []) hC mf_X12_isDigit km_X12_181 st_X12_isDigit (c_X12_isDigit l G Γ H7 hB.1 hU x13) rfl rfl ⟨Nat.le_of_ble_eq_true rfl, Nat.le_of_ble_eq_true rfl⟩ rfl hl.1 rfl (Nat.le_of_ble_eq_true rfl) gX12_splits_4.2.2.2.2.2.1 ⟨Nat.le_refl _, Nat.le_refl _⟩) hB.2.1 (fun v69 H69 locs hp hz hS => ?_)
            obtain ⟨x16, rfl, lx16, ux16, q69_0, rfl⟩ := hp
            have hB := th_B_s hB hS
            replace hF := hF.trans (congrArg (dv_k f_X12_splits_7b) (dv_bn2 (q69_0)))
            refine W.eq (g2 := F0 m 72 ls [.int x16]) rfl ?_
            have jn100 : ∀ (locs : List Loc) (ls : Array Slot) (j100_4 : Int32), th_B G Γ Γ [(46, 18), (57, 0), (56, 0), (55, 0)] H0 H7 locs → lv_has ls 6 [(3, .int x13), (0, .ref a0), (1, .int p1), (2, .int j7_2), (4, .int j100_4)] → F = dv_k f_X12_splits_7b (f_X12_splits_100 (dv G Γ H7) (x13.toInt) ((a0 : Int)) (p1.toInt) (j7_2.toInt) (j100_4.toInt)) → 1 ≤ j100_4.toInt → j100_4.toInt ≤ 400 → j7_2.toInt + 1 ≤ j100_4.toInt → j100_4.toInt ≤ p1.toInt → W p l e ({ frames := 1, cells := 0, slots := 0, locals := 27 } : Room) s m ([.ref a0, .int p1] : List Value).toArray below meth c H7 locs 0 0 (MQ below (th_Q (fun (v : Option Value) (H1 : Heap) => v = none ∧ th_I G Γ H1 ∧ th_F G Γ [(46, 18), (57, 0), (56, 0), (55, 0)] H0 H1 ∧ th_RC G Γ H1 ∧ (mo_v G H1 a0 15 (mo_f G H1 a0 18) = 0) ∧ (f_X12_splits (dv G Γ H0) (a0 : Int) p1.toInt = (dv G Γ H1, 0))) G) ([.ref a0, .int p1] : List Value).toArray s 0 0 (fun q => G.1.2.2 ≤ q)) (F0 m 100 ls []) := by
              intro locs ls j100_4 hB hl hF g100_0 g100_1 g100_2 g100_3
              have lj100_4 := ti_lo j100_4; have uj100_4 := ti_hi j100_4
              replace hF := hF.trans (congrArg (dv_k f_X12_splits_7b) (f_X12_splits_100.eq_1 (dv G Γ H7) (x13.toInt) ((a0 : Int)) (p1.toInt) (j7_2.toInt) (j100_4.toInt)))
              refine lv_aload_n hx hb gX12_splits_6.2.2.1 rfl (lv_at hl 1 rfl) ?_
              refine th_getO (j := 17) (r2 := 57) hC cf_X12 hB.1 h0 ro_46 rfl rfl kf_X12_60 gX12_splits_6.2.2.2.1 (fun b17 mb17 hb17 => ?_)
              have sb17 := (th_F_o hB.2.2 h0 ro_46 (j := 17) (by decide) (by decide)).symm.trans mb17
              refine lv_aload_n hx hb gX12_splits_6.2.2.2.2.1 rfl (lv_at hl 1 rfl) ?_
              refine th_getI (j := 18) hC cf_X12 hB.1 h0 ro_46 rfl rfl kf_X12_175 gX12_splits_6.2.2.2.2.2.1 (fun x18 mx18 lx18 ux18 => ?_)
              replace hF := hF.trans (congrArg (dv_k f_X12_splits_7b) (dv_bn (dv_getI h0 ro_46 (j := 18) rfl mx18 (by decide))))
              have fg19 : mo_f G H7 a0 18 = x18.toInt := mo_fat mx18
              refine lv_iload_n hx hb gX12_splits_6.2.2.2.2.2.2.1 rfl (lv_at hl 3 rfl) ?_
              have hIo := hB.1
              refine th_iastF hC hB hb17 (Or.inl hb17) ro_57 rfl (by decide) (Eq.refl _) (by omega) (by omega) (th_sI (by omega) (by omega)) gX12_splits_6.2.2.2.2.2.2.2 (fun H109 locs hB hf109 hst109 => ?_)
              have hf := hf109
              have mm20 := (th_F_o hf h0 ro_46 (j := 11) (by decide) (by decide)).trans mb12
              have mm21 := (th_F_o hf h0 ro_46 (j := 17) (by decide) (by decide)).trans mb17
              have mm22 := (th_F_o hf h0 ro_46 (j := 18) (by decide) (by decide)).trans mx18
              have hR := th_RC_F hB.1 hR hf (th_T_s hb17 ro_57 hst109) (by decide)
              have fv_H109_18 : mo_f G H109 a0 18 = mo_f G H7 a0 18 := mo_f_F hf h0 (by decide) (by decide)
              have vv_H109_15 : mo_v G H109 a0 15 = mo_v G H7 a0 15 := mo_v_F (r := 55) hB.1 hf h0 rfl ro_55 (by decide) (by decide)
              replace hF := hF.trans (congrArg (dv_k f_X12_splits_7b) (dv_bn (dv_stoI hIo hB.1 hU hb17 ow_57 (i := x18.toInt) hst109 (Eq.refl _) (by omega))))
              refine lv_aload_n hx hb gX12_splits_7.1 rfl (lv_at hl 1 rfl) ?_
              refine th_getO (j := 16) (r2 := 56) hC cf_X12 hB.1 h0 ro_46 rfl rfl kf_X12_57 gX12_splits_7.2.1 (fun b23 mb23 hb23 => ?_)
              have sb23 := (th_F_o hB.2.2 h0 ro_46 (j := 16) (by decide) (by decide)).symm.trans mb23
              refine lv_aload_n hx hb gX12_splits_7.2.2.1 rfl (lv_at hl 1 rfl) ?_
              refine th_getK hC cf_X12 hB.1 h0 ro_46 rfl (j := 18) (by decide) mm22 kf_X12_175 gX12_splits_7.2.2.2.1 ?_
              replace hF := hF.trans (congrArg (dv_k f_X12_splits_7b) (dv_bn (dv_getI h0 ro_46 (j := 18) rfl mm22 (by decide))))
              have fg24 : mo_f G H109 a0 18 = x18.toInt := mo_fat mm22
              refine lv_iconst (v := 0) hx hb gX12_splits_7.2.2.2.2.1 (by decide) ?_
              have hIo := hB.1
              refine th_iastF hC hB hb23 (Or.inl hb23) ro_56 rfl (by decide) (Eq.refl _) (by omega) (by omega) th_sIa gX12_splits_7.2.2.2.2.2.1 (fun H119 locs hB hf119 hst119 => ?_)
              have hf := hf119
              have mm25 := (th_F_o hf h0 ro_46 (j := 11) (by decide) (by decide)).trans mm20
              have mm26 := (th_F_o hf h0 ro_46 (j := 17) (by decide) (by decide)).trans mm21
              have mm27 := (th_F_o hf h0 ro_46 (j := 18) (by decide) (by decide)).trans mm22
              have mm28 := (th_F_o hf h0 ro_46 (j := 16) (by decide) (by decide)).trans mb23
              have hR := th_RC_F hB.1 hR hf (th_T_s hb23 ro_56 hst119) (by decide)
              have fv_H119_18 : mo_f G H119 a0 18 = mo_f G H109 a0 18 := mo_f_F hf h0 (by decide) (by decide)
              have vv_H119_15 : mo_v G H119 a0 15 = mo_v G H109 a0 15 := mo_v_F (r := 55) hB.1 hf h0 rfl ro_55 (by decide) (by decide)
              replace hF := hF.trans (congrArg (dv_k f_X12_splits_7b) (dv_bn (dv_stoI hIo hB.1 hU hb23 ow_56 (i := x18.toInt) hst119 tk_0 (by omega))))
              refine lv_aload_n hx hb gX12_splits_7.2.2.2.2.2.2.1 rfl (lv_at hl 1 rfl) ?_
              refine th_getO (j := 15) (r2 := 55) hC cf_X12 hB.1 h0 ro_46 rfl rfl kf_X12_54 gX12_splits_7.2.2.2.2.2.2.2 (fun b29 mb29 hb29 => ?_)
              have sb29 := (th_F_o hB.2.2 h0 ro_46 (j := 15) (by decide) (by decide)).symm.trans mb29
              refine lv_aload_n hx hb gX12_splits_8.1 rfl (lv_at hl 1 rfl) ?_
              refine th_getK hC cf_X12 hB.1 h0 ro_46 rfl (j := 18) (by decide) mm27 kf_X12_175 gX12_splits_8.2.1 ?_
              replace hF := hF.trans (congrArg (dv_k f_X12_splits_7b) (dv_bn (dv_getI h0 ro_46 (j := 18) rfl mm27 (by decide))))
              have fg30 : mo_f G H119 a0 18 = x18.toInt := mo_fat mm27
              refine lv_iload_n hx hb gX12_splits_8.2.2.1 rfl (lv_at hl 0 rfl) ?_
              refine th_call (th_runS (As := [.int x13]) (rest := [.int x18, .ref b29]) hC mf_X12_isSmall km_X12_178 st_X12_isSmall (c_X12_isSmall l G Γ H119 hB.1 hU x13) rfl rfl ⟨Nat.le_of_ble_eq_true rfl, Nat.le_of_ble_eq_true rfl⟩ rfl hl.1 rfl (Nat.le_of_ble_eq_true rfl) gX12_splits_8.2.2.2.1 ⟨Nat.le_refl _, Nat.le_refl _⟩) hB.2.1 (fun v129 H129 locs hp hz hS => ?_)
              obtain ⟨x31, rfl, lx31, ux31, q129_0, rfl⟩ := hp
              have hB := th_B_s hB hS
              replace hF := hF.trans (congrArg (dv_k f_X12_splits_7b) (dv_bn2 (q129_0)))
              refine W.eq (g2 := F0 m 132 ls [.int x31, .int x18, .ref b29]) rfl ?_
              have jn165 : ∀ (locs : List Loc) (ls : Array Slot) (s165_2 : Int32), th_B G Γ Γ [(46, 18), (57, 0), (56, 0), (55, 0)] H0 H119 locs → lv_has ls 6 [(3, .int x13), (0, .ref a0), (1, .int p1), (2, .int j7_2), (4, .int j100_4)] → F = dv_k f_X12_splits_7b (f_X12_splits_165 (dv G Γ H119) (x13.toInt) ((a0 : Int)) (p1.toInt) (j7_2.toInt) (j100_4.toInt) (x18.toInt) (s165_2.toInt)) → W p l e ({ frames := 1, cells := 0, slots := 0, locals := 27 } : Room) s m ([.ref a0, .int p1] : List Value).toArray below meth c H119 locs 0 0 (MQ below (th_Q (fun (v : Option Value) (H1 : Heap) => v = none ∧ th_I G Γ H1 ∧ th_F G Γ [(46, 18), (57, 0), (56, 0), (55, 0)] H0 H1 ∧ th_RC G Γ H1 ∧ (mo_v G H1 a0 15 (mo_f G H1 a0 18) = 0) ∧ (f_X12_splits (dv G Γ H0) (a0 : Int) p1.toInt = (dv G Γ H1, 0))) G) ([.ref a0, .int p1] : List Value).toArray s 0 0 (fun q => G.1.2.2 ≤ q)) (F0 m 165 ls [.int s165_2, .int x18, .ref b29]) := by
                intro locs ls s165_2 hB hl hF
                have ls165_2 := ti_lo s165_2; have us165_2 := ti_hi s165_2
                replace hF := hF.trans (congrArg (dv_k f_X12_splits_7b) (f_X12_splits_165.eq_1 (dv G Γ H119) (x13.toInt) ((a0 : Int)) (p1.toInt) (j7_2.toInt) (j100_4.toInt) (x18.toInt) (s165_2.toInt)))
                have hIo := hB.1
                refine th_iastF hC hB hb29 (Or.inl hb29) ro_55 rfl (by decide) (Eq.refl _) (by omega) (by omega) th_sIa gX12_splits_10.2.2.2.2.1 (fun H165 locs hB hf165 hst165 => ?_)
                have hf := hf165
                have mm32 := (th_F_o hf h0 ro_46 (j := 11) (by decide) (by decide)).trans mm25
                have mm33 := (th_F_o hf h0 ro_46 (j := 17) (by decide) (by decide)).trans mm26
                have mm34 := (th_F_o hf h0 ro_46 (j := 18) (by decide) (by decide)).trans mm27
                have mm35 := (th_F_o hf h0 ro_46 (j := 16) (by decide) (by decide)).trans mm28
                have mm36 := (th_F_o hf h0 ro_46 (j := 15) (by decide) (by decide)).trans mb29
                have hR := th_RC_F hB.1 hR hf (th_T_s hb29 ro_55 hst165) (by decide)
                have fv_H165_18 : mo_f G H165 a0 18 = mo_f G H119 a0 18 := mo_f_F hf h0 (by decide) (by decide)
                replace hF := hF.trans (congrArg (dv_k f_X12_splits_7b) (dv_bn (dv_stoI hIo hB.1 hU hb29 ow_55 (i := x18.toInt) hst165 (Eq.refl _) (by omega))))
                have vs165 : mo_v G H165 a0 15 = mo_u (mo_v G H119 a0 15) x18.toInt s165_2.toInt := by rw [show (x18.toInt : Int) = x18.toInt by omega]; exact mo_v_st h0 hb29 (by decide) mb29 hst165 (by omega)
                refine lv_iload_n hx hb gX12_splits_10.2.2.2.2.2.1 rfl (lv_at hl 3 rfl) ?_
                refine lv_istore (lv' := [(5, .int j7_2), (3, .int x13), (0, .ref a0), (1, .int p1), (2, .int j7_2), (4, .int j100_4)]) hx hb gX12_splits_10.2.2.2.2.2.2.1 hl (by decide) rfl (fun ls hl => ?_)
                have lp169 : ∀ (n169 : Nat) (H169 : Heap) (locs : List Loc) (ls : Array Slot) (j169_5 : Int32), th_B G Γ Γ [(46, 18), (57, 0), (56, 0), (55, 0)] H0 H169 locs → th_RC G Γ H169 → lv_has ls 6 [(3, .int x13), (0, .ref a0), (1, .int p1), (4, .int j100_4), (5, .int j169_5)] → F = dv_k f_X12_splits_7b (dv_lp f_X12_splits_169b (dv G Γ H169, x13.toInt, (a0 : Int), p1.toInt, j100_4.toInt, j169_5.toInt)) → 0 ≤ j169_5.toInt → j169_5.toInt ≤ 400 → (mo_f G H169 a0 18 ≤ j7_2.toInt) → j169_5.toInt ≥ 0 → th_sl H169 a0 (G.1.1.2 12 18) = .int x18 → (2147483648 : Int) - j169_5.toInt ≤ (n169 : Int) → W p l e ({ frames := 1, cells := 0, slots := 0, locals := 27 } : Room) s m ([.ref a0, .int p1] : List Value).toArray below meth c H169 locs 0 0 (MQ below (th_Q (fun (v : Option Value) (H1 : Heap) => v = none ∧ th_I G Γ H1 ∧ th_F G Γ [(46, 18), (57, 0), (56, 0), (55, 0)] H0 H1 ∧ th_RC G Γ H1 ∧ (mo_v G H1 a0 15 (mo_f G H1 a0 18) = 0) ∧ (f_X12_splits (dv G Γ H0) (a0 : Int) p1.toInt = (dv G Γ H1, 0))) G) ([.ref a0, .int p1] : List Value).toArray s 0 0 (fun q => G.1.2.2 ≤ q)) (F0 m 169 ls []) := by
                  intro n169
                  induction n169 with
                  | zero => intro H169 locs ls j169_5 hB hR hl hF g169_0 g169_1 g169_2 g169_3 g169_4 hm169; exact absurd hm169 (by have := ti_hi j169_5; omega)
                  | succ n169 ih169 =>
                    intro H169 locs ls j169_5 hB hR hl hF g169_0 g169_1 g169_2 g169_3 g169_4 hm169
                    have lj169_5 := ti_lo j169_5; have uj169_5 := ti_hi j169_5
                    have mm37 := (th_F_o hB.2.2 h0 ro_46 (j := 11) (by decide) (by decide)).trans sb12
                    have mm38 := (th_F_o hB.2.2 h0 ro_46 (j := 17) (by decide) (by decide)).trans sb17
                    have mm39 := (th_F_o hB.2.2 h0 ro_46 (j := 16) (by decide) (by decide)).trans sb23
                    have mm40 := (th_F_o hB.2.2 h0 ro_46 (j := 15) (by decide) (by decide)).trans sb29
                    have hm169 : (2147483648 : Int) - j169_5.toInt ≤ (n169 : Int) + 1 := by omega
                    replace hF := hF.trans (congrArg (dv_k f_X12_splits_7b) (dv_lp_eq))
                    replace hF := hF.trans (congrArg (dv_k f_X12_splits_7b) (congrArg (dv_k f_X12_splits_169b) (f_X12_splits_169c.eq_1 (dv G Γ H169) (x13.toInt) ((a0 : Int)) (p1.toInt) (j100_4.toInt) (j169_5.toInt))))
                    refine lv_iload hx hb gX12_splits_10.2.2.2.2.2.2.2 (lv_at hl 4 rfl) ?_
                    refine lv_iload hx hb gX12_splits_11.1 (lv_at hl 3 rfl) ?_
                    have jn247 : ∀ (locs : List Loc) (ls : Array Slot) , th_B G Γ Γ [(46, 18), (57, 0), (56, 0), (55, 0)] H0 H169 locs → lv_has ls 6 [(0, .ref a0), (1, .int p1), (4, .int j100_4)] → F = dv_k f_X12_splits_7b (dv_k f_X12_splits_169b (f_X12_splits_247 (dv G Γ H169) ((a0 : Int)) (p1.toInt) (j100_4.toInt))) → (mo_f G H169 a0 18 ≤ j7_2.toInt) → W p l e ({ frames := 1, cells := 0, slots := 0, locals := 27 } : Room) s m ([.ref a0, .int p1] : List Value).toArray below meth c H169 locs 0 0 (MQ below (th_Q (fun (v : Option Value) (H1 : Heap) => v = none ∧ th_I G Γ H1 ∧ th_F G Γ [(46, 18), (57, 0), (56, 0), (55, 0)] H0 H1 ∧ th_RC G Γ H1 ∧ (mo_v G H1 a0 15 (mo_f G H1 a0 18) = 0) ∧ (f_X12_splits (dv G Γ H0) (a0 : Int) p1.toInt = (dv G Γ H1, 0))) G) ([.ref a0, .int p1] : List Value).toArray s 0 0 (fun q => G.1.2.2 ≤ q)) (F0 m 247 ls []) := by
                      intro locs ls hB hl hF g247_0
                      replace hF := hF.trans (congrArg (dv_k f_X12_splits_7b) (congrArg (dv_k f_X12_splits_169b) (f_X12_splits_247.eq_1 (dv G Γ H169) ((a0 : Int)) (p1.toInt) (j100_4.toInt))))
                      refine lv_aload_n hx hb gX12_splits_15.2.2.2.2.2.2.2 rfl (lv_at hl 0 rfl) ?_
                      refine lv_dup hx hb gX12_splits_16.1 rfl ?_
                      refine th_getK hC cf_X12 hB.1 h0 ro_46 rfl (j := 18) (by decide) g169_4 kf_X12_175 gX12_splits_16.2.1 ?_
                      replace hF := hF.trans (congrArg (dv_k f_X12_splits_7b) (congrArg (dv_k f_X12_splits_169b) (dv_bn (dv_getI h0 ro_46 (j := 18) rfl g169_4 (by decide)))))
                      have fg41 : mo_f G H169 a0 18 = x18.toInt := mo_fat g169_4
                      refine lv_iconst (v := 1) hx hb gX12_splits_16.2.2.1 (by decide) ?_
                      refine tr_iadd hx hb gX12_splits_16.2.2.2.1 (Eq.refl _) tk_1 (by omega) (by omega) (fun x42 ex42 => ?_)
                      replace hF := hF.trans (congrArg (dv_k f_X12_splits_7b) (congrArg (dv_k f_X12_splits_169b) (dv_bn (ex42.symm))))
                      refine th_put hC cf_X12 hB h0 (Or.inl h0) ro_46 rfl (j := 18) rfl (th_sI (by omega) (by omega)) (by decide) rfl rfl rfl kf_X12_175 gX12_splits_16.2.2.2.2.1 (fun H254 locs hB hf hst254 => ?_)
                      have mm43 := (th_F_o hf h0 ro_46 (j := 11) (by decide) (by decide)).trans mm37
                      have mm44 := (th_F_o hf h0 ro_46 (j := 17) (by decide) (by decide)).trans mm38
                      have mm45 := (th_F_o hf h0 ro_46 (j := 16) (by decide) (by decide)).trans mm39
                      have mm46 := (th_F_o hf h0 ro_46 (j := 15) (by decide) (by decide)).trans mm40
                      have hR := th_RC_F hB.1 hR hf (th_T_s h0 ro_46 hst254) (by decide)
                      have vv_H254_15 : mo_v G H254 a0 15 = mo_v G H169 a0 15 := mo_v_F (r := 55) hB.1 hf h0 rfl ro_55 (by decide) (by decide)
                      replace hF := hF.trans (congrArg (dv_k f_X12_splits_7b) (congrArg (dv_k f_X12_splits_169b) (dv_bn (dv_putI hB.1 h0 ro_46 (j := 18) rfl (th_apart hC cf_X12) hst254 (Eq.refl _) (by decide)))))
                      have fp254 : mo_f G H254 a0 18 = x42.toInt := mo_f_St hst254
                      have mm47 := hst254.2.1
                      refine lv_iload hx hb gX12_splits_16.2.2.2.2.2.1 (lv_at hl 2 rfl) ?_
                      refine lv_istore_n (lv' := [(2, .int j100_4), (0, .ref a0), (1, .int p1), (4, .int j100_4)]) hx hb gX12_splits_16.2.2.2.2.2.2.1 rfl hl (by decide) rfl (fun ls hl => ?_)
                      refine lv_goto (tgt := 7) hx hb gX12_splits_16.2.2.2.2.2.2.2 (by decide) ?_
                      replace hF := hF.trans (congrArg (dv_k f_X12_splits_7b) (dv_kr))
                      replace hF := hF.trans (dv_kl)
                      exact ih7 H254 locs ls j100_4 hB hR (lv_sub hl [1, 2, 0] rfl) hF (by omega) (by omega) (by omega) (by omega) (by omega)
                    refine tr_icmp_ge (tgt := 247) hx hb gX12_splits_11.2.1 (by decide) (Eq.refl _) (Eq.refl _) (fun c173 => ?_) (fun c173 => ?_)
                    · replace hF := hF.trans (congrArg (dv_k f_X12_splits_7b) (congrArg (dv_k f_X12_splits_169b) (if_pos c173)))
                      exact jn247 locs ls hB (lv_sub hl [1, 2, 3] rfl) hF (by omega)
                    · replace hF := hF.trans (congrArg (dv_k f_X12_splits_7b) (congrArg (dv_k f_X12_splits_169b) (if_neg (Int.not_le.mpr c173))))
                      refine lv_iload_n hx hb gX12_splits_11.2.2.1 rfl (lv_at hl 0 rfl) ?_
                      refine th_call (th_runS (As := [.int x13]) (rest := []) hC mf_X12_isDigit km_X12_181 st_X12_isDigit (c_X12_isDigit l G Γ H169 hB.1 hU x13) rfl rfl ⟨Nat.le_of_ble_eq_true rfl, Nat.le_of_ble_eq_true rfl⟩ rfl hl.1 rfl (Nat.le_of_ble_eq_true rfl) gX12_splits_11.2.2.2.1 ⟨Nat.le_refl _, Nat.le_refl _⟩) hB.2.1 (fun v177 H177 locs hp hz hS => ?_)
                      obtain ⟨x48, rfl, lx48, ux48, q177_0, rfl⟩ := hp
                      have hB := th_B_s hB hS
                      replace hF := hF.trans (congrArg (dv_k f_X12_splits_7b) (congrArg (dv_k f_X12_splits_169b) (dv_bn2 (q177_0))))
                      refine W.eq (g2 := F0 m 180 ls [.int x48]) rfl ?_
                      refine tr_if_eq (tgt := 247) hx hb gX12_splits_11.2.2.2.2.1 (by decide) (Eq.refl _) (fun c180 => ?_) (fun c180 => ?_)
                      · replace hF := hF.trans (congrArg (dv_k f_X12_splits_7b) (congrArg (dv_k f_X12_splits_169b) (if_pos c180)))
                        exact jn247 locs ls hB (lv_sub hl [1, 2, 3] rfl) hF (by omega)
                      · replace hF := hF.trans (congrArg (dv_k f_X12_splits_7b) (congrArg (dv_k f_X12_splits_169b) (if_neg c180)))
                        refine lv_aload_n hx hb gX12_splits_11.2.2.2.2.2.1 rfl (lv_at hl 1 rfl) ?_
                        refine th_getK hC cf_X12 hB.1 h0 ro_46 rfl (j := 16) (by decide) mm39 kf_X12_57 gX12_splits_11.2.2.2.2.2.2.1 ?_
                        refine lv_aload_n hx hb gX12_splits_11.2.2.2.2.2.2.2 rfl (lv_at hl 1 rfl) ?_
                        refine th_getK hC cf_X12 hB.1 h0 ro_46 rfl (j := 18) (by decide) g169_4 kf_X12_175 gX12_splits_12.1 ?_
                        replace hF := hF.trans (congrArg (dv_k f_X12_splits_7b) (congrArg (dv_k f_X12_splits_169b) (dv_bn (dv_getI h0 ro_46 (j := 18) rfl g169_4 (by decide)))))
                        have fg49 : mo_f G H169 a0 18 = x18.toInt := mo_fat g169_4
                        refine lv_aload_n hx hb gX12_splits_12.2.1 rfl (lv_at hl 1 rfl) ?_
                        refine th_getK hC cf_X12 hB.1 h0 ro_46 rfl (j := 16) (by decide) mm39 kf_X12_57 gX12_splits_12.2.2.1 ?_
                        refine lv_aload_n hx hb gX12_splits_12.2.2.2.1 rfl (lv_at hl 1 rfl) ?_
                        refine th_getK hC cf_X12 hB.1 h0 ro_46 rfl (j := 18) (by decide) g169_4 kf_X12_175 gX12_splits_12.2.2.2.2.1 ?_
                        replace hF := hF.trans (congrArg (dv_k f_X12_splits_7b) (congrArg (dv_k f_X12_splits_169b) (dv_bn (dv_getI h0 ro_46 (j := 18) rfl g169_4 (by decide)))))
                        have fg50 : mo_f G H169 a0 18 = x18.toInt := mo_fat g169_4
                        refine th_ialdF hC hB.1 hb23 ro_56 rfl (Eq.refl _) (by omega) (by omega) rfl gX12_splits_12.2.2.2.2.2.1 (fun x51 mx51 lx51 ux51 => ?_)
                        replace hF := hF.trans (congrArg (dv_k f_X12_splits_7b) (congrArg (dv_k f_X12_splits_169b) (dv_bn (dv_aldI hB.1 hU hb23 ow_56 (z := x18.toInt) mx51 (by omega)))))
                        refine lv_ldc (v := 1000000) hx hb hC.2.2.2.1 (hC.2.2.2.2.1 _ kw_1623) gX12_splits_12.2.2.2.2.2.2.1 ?_
                        have jn240 : ∀ (locs : List Loc) (ls : Array Slot) (s240_2 : Int32), th_B G Γ Γ [(46, 18), (57, 0), (56, 0), (55, 0)] H0 H169 locs → lv_has ls 6 [(3, .int x13), (0, .ref a0), (1, .int p1), (4, .int j100_4), (5, .int j169_5)] → F = dv_k f_X12_splits_7b (dv_k f_X12_splits_169b (f_X12_splits_240 (dv G Γ H169) (x13.toInt) ((a0 : Int)) (p1.toInt) (j100_4.toInt) (j169_5.toInt) (x18.toInt) (s240_2.toInt))) → W p l e ({ frames := 1, cells := 0, slots := 0, locals := 27 } : Room) s m ([.ref a0, .int p1] : List Value).toArray below meth c H169 locs 0 0 (MQ below (th_Q (fun (v : Option Value) (H1 : Heap) => v = none ∧ th_I G Γ H1 ∧ th_F G Γ [(46, 18), (57, 0), (56, 0), (55, 0)] H0 H1 ∧ th_RC G Γ H1 ∧ (mo_v G H1 a0 15 (mo_f G H1 a0 18) = 0) ∧ (f_X12_splits (dv G Γ H0) (a0 : Int) p1.toInt = (dv G Γ H1, 0))) G) ([.ref a0, .int p1] : List Value).toArray s 0 0 (fun q => G.1.2.2 ≤ q)) (F0 m 240 ls [.int s240_2, .int x18, .ref b23]) := by
                          intro locs ls s240_2 hB hl hF
                          have ls240_2 := ti_lo s240_2; have us240_2 := ti_hi s240_2
                          replace hF := hF.trans (congrArg (dv_k f_X12_splits_7b) (congrArg (dv_k f_X12_splits_169b) (f_X12_splits_240.eq_1 (dv G Γ H169) (x13.toInt) ((a0 : Int)) (p1.toInt) (j100_4.toInt) (j169_5.toInt) (x18.toInt) (s240_2.toInt))))
                          have hIo := hB.1
                          refine th_iastF hC hB hb23 (Or.inl hb23) ro_56 rfl (by decide) (Eq.refl _) (by omega) (by omega) th_sIa gX12_splits_15.2.2.2.2.1 (fun H240 locs hB hf240 hst240 => ?_)
                          have hf := hf240
                          have mm52 := (th_F_o hf h0 ro_46 (j := 18) (by decide) (by decide)).trans g169_4
                          have mm53 := (th_F_o hf h0 ro_46 (j := 11) (by decide) (by decide)).trans mm37
                          have mm54 := (th_F_o hf h0 ro_46 (j := 17) (by decide) (by decide)).trans mm38
                          have mm55 := (th_F_o hf h0 ro_46 (j := 16) (by decide) (by decide)).trans mm39
                          have mm56 := (th_F_o hf h0 ro_46 (j := 15) (by decide) (by decide)).trans mm40
                          have hR := th_RC_F hB.1 hR hf (th_T_s hb23 ro_56 hst240) (by decide)
                          have fv_H240_18 : mo_f G H240 a0 18 = mo_f G H169 a0 18 := mo_f_F hf h0 (by decide) (by decide)
                          have vv_H240_15 : mo_v G H240 a0 15 = mo_v G H169 a0 15 := mo_v_F (r := 55) hB.1 hf h0 rfl ro_55 (by decide) (by decide)
                          replace hF := hF.trans (congrArg (dv_k f_X12_splits_7b) (congrArg (dv_k f_X12_splits_169b) (dv_bn (dv_stoI hIo hB.1 hU hb23 ow_56 (i := x18.toInt) hst240 (Eq.refl _) (by omega)))))
                          refine tr_iinc (fun x57 => [(5, .int x57), (3, .int x13), (0, .ref a0), (1, .int p1), (4, .int j100_4)]) hx hb gX12_splits_15.2.2.2.2.2.1 hl (k := 4) rfl (Eq.refl _) tk_1 (by omega) (by omega) (by decide) (fun _ => rfl) (fun x57 ls ex57 hl => ?_)
                          replace hF := hF.trans (congrArg (dv_k f_X12_splits_7b) (congrArg (dv_k f_X12_splits_169b) (dv_bn (ex57.symm))))
                          refine lv_goto (tgt := 169) hx hb gX12_splits_15.2.2.2.2.2.2.1 (by decide) ?_
                          replace hF := hF.trans (congrArg (dv_k f_X12_splits_7b) (dv_kl))
                          exact ih169 H240 locs ls x57 hB hR (lv_sub hl [1, 2, 3, 4, 0] rfl) hF (by omega) (by omega) (by omega) (by omega) mm52 (by omega)
                        refine tr_icmp_le (tgt := 217) hx hb gX12_splits_12.2.2.2.2.2.2.2 (by decide) (Eq.refl _) tk_1000000 (fun c202 => ?_) (fun c202 => ?_)
                        · replace hF := hF.trans (congrArg (dv_k f_X12_splits_7b) (congrArg (dv_k f_X12_splits_169b) (if_pos c202)))
                          refine lv_bipush (v := 10) hx hb gX12_splits_13.2.2.2.2.2.2.1 (by decide) ?_
                          refine lv_aload_n hx hb gX12_splits_13.2.2.2.2.2.2.2 rfl (lv_at hl 1 rfl) ?_
                          refine th_getK hC cf_X12 hB.1 h0 ro_46 rfl (j := 16) (by decide) mm39 kf_X12_57 gX12_splits_14.1 ?_
                          refine lv_aload_n hx hb gX12_splits_14.2.1 rfl (lv_at hl 1 rfl) ?_
                          refine th_getK hC cf_X12 hB.1 h0 ro_46 rfl (j := 18) (by decide) g169_4 kf_X12_175 gX12_splits_14.2.2.1 ?_
                          replace hF := hF.trans (congrArg (dv_k f_X12_splits_7b) (congrArg (dv_k f_X12_splits_169b) (dv_bn (dv_getI h0 ro_46 (j := 18) rfl g169_4 (by decide)))))
                          have fg58 : mo_f G H169 a0 18 = x18.toInt := mo_fat g169_4
                          refine th_ialdF hC hB.1 hb23 ro_56 rfl (Eq.refl _) (by omega) (by omega) rfl gX12_splits_14.2.2.2.1 (fun x59 mx59 lx59 ux59 => ?_)
                          replace hF := hF.trans (congrArg (dv_k f_X12_splits_7b) (congrArg (dv_k f_X12_splits_169b) (dv_bn (dv_aldI hB.1 hU hb23 ow_56 (z := x18.toInt) mx59 (by omega)))))
                          have qx59 : x59.toInt = x51.toInt := by rw [show x59 = x51 from Value.int.inj (mx59.symm.trans mx51)]
                          refine lv_imul hx hb gX12_splits_14.2.2.2.2.1 ?_
                          refine lv_topi (fun x60 ex60 => ?_)
                          have lx60 := ti_lo x60; have ux60 := ti_hi x60
                          replace hF := hF.trans (congrArg (dv_k f_X12_splits_7b) (congrArg (dv_k f_X12_splits_169b) (dv_bn (dv_mul_e tk_10 (Eq.refl _) ex60))))
                          refine lv_aload_n hx hb gX12_splits_14.2.2.2.2.2.1 rfl (lv_at hl 1 rfl) ?_
                          refine th_getK hC cf_X12 hB.1 h0 ro_46 rfl (j := 11) (by decide) mm37 kf_X12_45 gX12_splits_14.2.2.2.2.2.2.1 ?_
                          refine lv_iload hx hb gX12_splits_14.2.2.2.2.2.2.2 (lv_at hl 4 rfl) ?_
                          refine th_baldF hC hB.1 hb12 ro_53 rfl (Eq.refl _) (by omega) (by omega) rfl gX12_splits_15.1 (fun x61 mx61 lx61 ux61 => ?_)
                          replace hF := hF.trans (congrArg (dv_k f_X12_splits_7b) (congrArg (dv_k f_X12_splits_169b) (dv_bn (dv_aldI hB.1 hU hb12 ow_53 (z := j169_5.toInt) mx61 (by omega)))))
                          refine lv_iadd hx hb gX12_splits_15.2.1 ?_
                          refine lv_topi (fun x62 ex62 => ?_)
                          have lx62 := ti_lo x62; have ux62 := ti_hi x62
                          replace hF := hF.trans (congrArg (dv_k f_X12_splits_7b) (congrArg (dv_k f_X12_splits_169b) (dv_bn (dv_add_e (Eq.refl _) (Eq.refl _) ex62))))
                          refine lv_bipush (v := 48) hx hb gX12_splits_15.2.2.1 (by decide) ?_
                          refine lv_isub hx hb gX12_splits_15.2.2.2.1 ?_
                          refine lv_topi (fun x63 ex63 => ?_)
                          have lx63 := ti_lo x63; have ux63 := ti_hi x63
                          replace hF := hF.trans (congrArg (dv_k f_X12_splits_7b) (congrArg (dv_k f_X12_splits_169b) (dv_bn (dv_sub_e (Eq.refl _) tk_48 ex63))))
                          exact jn240 locs ls x63 hB (lv_sub hl [0, 1, 2, 3, 4] rfl) hF
                        · replace hF := hF.trans (congrArg (dv_k f_X12_splits_7b) (congrArg (dv_k f_X12_splits_169b) (if_neg (Int.not_le.mpr c202))))
                          refine lv_aload_n hx hb gX12_splits_13.1 rfl (lv_at hl 1 rfl) ?_
                          refine th_getK hC cf_X12 hB.1 h0 ro_46 rfl (j := 16) (by decide) mm39 kf_X12_57 gX12_splits_13.2.1 ?_
                          refine lv_aload_n hx hb gX12_splits_13.2.2.1 rfl (lv_at hl 1 rfl) ?_
                          refine th_getK hC cf_X12 hB.1 h0 ro_46 rfl (j := 18) (by decide) g169_4 kf_X12_175 gX12_splits_13.2.2.2.1 ?_
                          replace hF := hF.trans (congrArg (dv_k f_X12_splits_7b) (congrArg (dv_k f_X12_splits_169b) (dv_bn (dv_getI h0 ro_46 (j := 18) rfl g169_4 (by decide)))))
                          have fg64 : mo_f G H169 a0 18 = x18.toInt := mo_fat g169_4
                          refine th_ialdF hC hB.1 hb23 ro_56 rfl (Eq.refl _) (by omega) (by omega) rfl gX12_splits_13.2.2.2.2.1 (fun x65 mx65 lx65 ux65 => ?_)
                          replace hF := hF.trans (congrArg (dv_k f_X12_splits_7b) (congrArg (dv_k f_X12_splits_169b) (dv_bn (dv_aldI hB.1 hU hb23 ow_56 (z := x18.toInt) mx65 (by omega)))))
                          have qx65 : x65.toInt = x51.toInt := by rw [show x65 = x51 from Value.int.inj (mx65.symm.trans mx51)]
                          refine lv_goto (tgt := 240) hx hb gX12_splits_13.2.2.2.2.2.1 (by decide) ?_
                          exact jn240 locs ls x65 hB (lv_sub hl [0, 1, 2, 3, 4] rfl) hF
                exact lp169 ((2147483648 : Int) - (j7_2.toInt)).toNat H165 locs ls j7_2 hB hR (lv_sub hl [1, 2, 3, 5, 0] rfl) hF (by omega) (by omega) (by omega) (by omega) mm34 (by omega)
              refine tr_if_eq (tgt := 145) hx hb gX12_splits_8.2.2.2.2.1 (by decide) (Eq.refl _) (fun c132 => ?_) (fun c132 => ?_)
              · replace hF := hF.trans (congrArg (dv_k f_X12_splits_7b) (if_pos c132))
                refine lv_iload_n hx hb gX12_splits_9.2.2.1 rfl (lv_at hl 0 rfl) ?_
                refine th_call (th_runS (As := [.int x13]) (rest := [.int x18, .ref b29]) hC mf_X12_isDigit km_X12_181 st_X12_isDigit (c_X12_isDigit l G Γ H119 hB.1 hU x13) rfl rfl ⟨Nat.le_of_ble_eq_true rfl, Nat.le_of_ble_eq_true rfl⟩ rfl hl.1 rfl (Nat.le_of_ble_eq_true rfl) gX12_splits_9.2.2.2.1 ⟨Nat.le_refl _, Nat.le_refl _⟩) hB.2.1 (fun v146 H146 locs hp hz hS => ?_)
                obtain ⟨x66, rfl, lx66, ux66, q146_0, rfl⟩ := hp
                have hB := th_B_s hB hS
                replace hF := hF.trans (congrArg (dv_k f_X12_splits_7b) (dv_bn2 (q146_0)))
                refine W.eq (g2 := F0 m 149 ls [.int x66, .int x18, .ref b29]) rfl ?_
                refine tr_if_eq (tgt := 157) hx hb gX12_splits_9.2.2.2.2.1 (by decide) (Eq.refl _) (fun c149 => ?_) (fun c149 => ?_)
                · replace hF := hF.trans (congrArg (dv_k f_X12_splits_7b) (if_pos c149))
                  refine lv_bipush (v := 100) hx hb gX12_splits_9.2.2.2.2.2.2.2 (by decide) ?_
                  refine lv_iload_n hx hb gX12_splits_10.1 rfl (lv_at hl 0 rfl) ?_
                  refine lv_sipush (v := 255) hx hb gX12_splits_10.2.1 (by decide) ?_
                  refine lv_iand hx hb gX12_splits_10.2.2.1 ?_
                  refine lv_topi (fun x67 ex67 => ?_)
                  have lx67 := ti_lo x67; have ux67 := ti_hi x67
                  replace hF := hF.trans (congrArg (dv_k f_X12_splits_7b) (dv_bn (dv_and_e (Eq.refl _) tk_255 ex67)))
                  have fx67 := ti_and x13 8 (m := 255) (by decide) (by decide)
                  rw [← ex67] at fx67
                  refine tr_iadd hx hb gX12_splits_10.2.2.2.1 tk_100 (Eq.refl _) (by omega) (by omega) (fun x68 ex68 => ?_)
                  replace hF := hF.trans (congrArg (dv_k f_X12_splits_7b) (dv_bn (ex68.symm)))
                  exact jn165 locs ls x68 hB (lv_sub hl [0, 1, 2, 3, 4] rfl) hF
                · replace hF := hF.trans (congrArg (dv_k f_X12_splits_7b) (if_neg c149))
                  refine lv_bipush (v := 50) hx hb gX12_splits_9.2.2.2.2.2.1 (by decide) ?_
                  refine lv_goto (tgt := 165) hx hb gX12_splits_9.2.2.2.2.2.2.1 (by decide) ?_
                  exact jn165 locs ls 50 hB (lv_sub hl [0, 1, 2, 3, 4] rfl) (by rw [tk_50]; exact hF)
              · replace hF := hF.trans (congrArg (dv_k f_X12_splits_7b) (if_neg c132))
                refine lv_aload_n hx hb gX12_splits_8.2.2.2.2.2.1 rfl (lv_at hl 1 rfl) ?_
                refine lv_iload_n hx hb gX12_splits_8.2.2.2.2.2.2.1 rfl (lv_at hl 3 rfl) ?_
                refine lv_iload hx hb gX12_splits_8.2.2.2.2.2.2.2 (lv_at hl 4 rfl) ?_
                refine th_call (th_runV (As := [.int j7_2, .int j100_4]) (rest := [.int x18, .ref b29]) hC mf_X12_wordOf km_X12_184 im_X12_wordOf se_X12_wordOf (c_X12_wordOf l G Γ H119 hB.1 hU a0 h0 j7_2 (by omega) (by omega) j100_4 (by omega) (by omega)) rfl rfl ⟨Nat.le_of_ble_eq_true rfl, Nat.le_of_ble_eq_true rfl⟩ hB.1 h0 ro_46 rfl rfl hl.1 rfl (Nat.le_of_ble_eq_true rfl) gX12_splits_9.1 ⟨Nat.le_refl _, Nat.le_refl _⟩) hB.2.1 (fun v139 H139 locs hp hz hS => ?_)
                obtain ⟨x69, rfl, q139_0, rfl⟩ := hp
                have hB := th_B_s hB hS
                replace hF := hF.trans (congrArg (dv_k f_X12_splits_7b) (dv_bn2 (q139_0)))
                refine W.eq (g2 := F0 m 142 ls [.int x69, .int x18, .ref b29]) rfl ?_
                refine lv_goto (tgt := 165) hx hb gX12_splits_9.2.1 (by decide) ?_
                exact jn165 locs ls x69 hB (lv_sub hl [0, 1, 2, 3, 4] rfl) hF
            refine tr_if_eq (tgt := 100) hx hb gX12_splits_4.2.2.2.2.2.2.1 (by decide) (Eq.refl _) (fun c72 => ?_) (fun c72 => ?_)
            · replace hF := hF.trans (congrArg (dv_k f_X12_splits_7b) (if_pos c72))
              exact jn100 locs ls j68_4 hB (lv_sub hl [0, 1, 2, 3, 4] rfl) hF (by omega) (by omega) (by omega) (by omega)
            · replace hF := hF.trans (congrArg (dv_k f_X12_splits_7b) (if_neg c72))
              have lp75 : ∀ (n75 : Nat) (locs : List Loc) (ls : Array Slot) (j75_4 : Int32), th_B G Γ Γ [(46, 18), (57, 0), (56, 0), (55, 0)] H0 H7 locs → lv_has ls 6 [(3, .int x13), (0, .ref a0), (1, .int p1), (2, .int j7_2), (4, .int j75_4)] → F = dv_k f_X12_splits_7b (dv_lp f_X12_splits_75b (dv G Γ H7, x13.toInt, (a0 : Int), p1.toInt, j7_2.toInt, j75_4.toInt)) → 1 ≤ j75_4.toInt → j75_4.toInt ≤ 400 → j7_2.toInt + 1 ≤ j75_4.toInt → j75_4.toInt ≤ p1.toInt → (2147483648 : Int) - j75_4.toInt ≤ (n75 : Int) → W p l e ({ frames := 1, cells := 0, slots := 0, locals := 27 } : Room) s m ([.ref a0, .int p1] : List Value).toArray below meth c H7 locs 0 0 (MQ below (th_Q (fun (v : Option Value) (H1 : Heap) => v = none ∧ th_I G Γ H1 ∧ th_F G Γ [(46, 18), (57, 0), (56, 0), (55, 0)] H0 H1 ∧ th_RC G Γ H1 ∧ (mo_v G H1 a0 15 (mo_f G H1 a0 18) = 0) ∧ (f_X12_splits (dv G Γ H0) (a0 : Int) p1.toInt = (dv G Γ H1, 0))) G) ([.ref a0, .int p1] : List Value).toArray s 0 0 (fun q => G.1.2.2 ≤ q)) (F0 m 75 ls []) := by
                intro n75
                induction n75 with
                | zero => intro locs ls j75_4 hB hl hF g75_0 g75_1 g75_2 g75_3 hm75; exact absurd hm75 (by have := ti_hi j75_4; omega)
                | succ n75 ih75 =>
                  intro locs ls j75_4 hB hl hF g75_0 g75_1 g75_2 g75_3 hm75
                  have lj75_4 := ti_lo j75_4; have uj75_4 := ti_hi j75_4
                  have hm75 : (2147483648 : Int) - j75_4.toInt ≤ (n75 : Int) + 1 := by omega
                  replace hF := hF.trans (congrArg (dv_k f_X12_splits_7b) (dv_lp_eq))
                  replace hF := hF.trans (congrArg (dv_k f_X12_splits_7b) (congrArg (dv_k f_X12_splits_75b) (f_X12_splits_75c.eq_1 (dv G Γ H7) (x13.toInt) ((a0 : Int)) (p1.toInt) (j7_2.toInt) (j75_4.toInt))))
                  refine lv_iload hx hb gX12_splits_4.2.2.2.2.2.2.2 (lv_at hl 4 rfl) ?_
                  refine lv_iload_n hx hb gX12_splits_5.1 rfl (lv_at hl 2 rfl) ?_
                  refine tr_icmp_ge (tgt := 100) hx hb gX12_splits_5.2.1 (by decide) (Eq.refl _) (Eq.refl _) (fun c78 => ?_) (fun c78 => ?_)
                  · replace hF := hF.trans (congrArg (dv_k f_X12_splits_7b) (congrArg (dv_k f_X12_splits_75b) (if_pos c78)))
                    replace hF := hF.trans (congrArg (dv_k f_X12_splits_7b) (dv_kr))
                    exact jn100 locs ls j75_4 hB (lv_sub hl [0, 1, 2, 3, 4] rfl) hF (by omega) (by omega) (by omega) (by omega)
                  · replace hF := hF.trans (congrArg (dv_k f_X12_splits_7b) (congrArg (dv_k f_X12_splits_75b) (if_neg (Int.not_le.mpr c78))))
                    refine lv_aload_n hx hb gX12_splits_5.2.2.1 rfl (lv_at hl 1 rfl) ?_
                    refine th_getK hC cf_X12 hB.1 h0 ro_46 rfl (j := 11) (by decide) mb12 kf_X12_45 gX12_splits_5.2.2.2.1 ?_
                    refine lv_iload hx hb gX12_splits_5.2.2.2.2.1 (lv_at hl 4 rfl) ?_
                    refine th_baldF hC hB.1 hb12 ro_53 rfl (Eq.refl _) (by omega) (by omega) rfl gX12_splits_5.2.2.2.2.2.1 (fun x70 mx70 lx70 ux70 => ?_)
                    replace hF := hF.trans (congrArg (dv_k f_X12_splits_7b) (congrArg (dv_k f_X12_splits_75b) (dv_bn (dv_aldI hB.1 hU hb12 ow_53 (z := j75_4.toInt) mx70 (by omega)))))
                    refine th_call (th_runS (As := [.int x70]) (rest := []) hC mf_X12_isDigit km_X12_181 st_X12_isDigit (c_X12_isDigit l G Γ H7 hB.1 hU x70) rfl rfl ⟨Nat.le_of_ble_eq_true rfl, Nat.le_of_ble_eq_true rfl⟩ rfl hl.1 rfl (Nat.le_of_ble_eq_true rfl) gX12_splits_5.2.2.2.2.2.2.1 ⟨Nat.le_refl _, Nat.le_refl _⟩) hB.2.1 (fun v88 H88 locs hp hz hS => ?_)
                    obtain ⟨x71, rfl, lx71, ux71, q88_0, rfl⟩ := hp
                    have hB := th_B_s hB hS
                    replace hF := hF.trans (congrArg (dv_k f_X12_splits_7b) (congrArg (dv_k f_X12_splits_75b) (dv_bn2 (q88_0))))
                    refine W.eq (g2 := F0 m 91 ls [.int x71]) rfl ?_
                    refine tr_if_eq (tgt := 100) hx hb gX12_splits_5.2.2.2.2.2.2.2 (by decide) (Eq.refl _) (fun c91 => ?_) (fun c91 => ?_)
                    · replace hF := hF.trans (congrArg (dv_k f_X12_splits_7b) (congrArg (dv_k f_X12_splits_75b) (if_pos c91)))
                      replace hF := hF.trans (congrArg (dv_k f_X12_splits_7b) (dv_kr))
                      exact jn100 locs ls j75_4 hB (lv_sub hl [0, 1, 2, 3, 4] rfl) hF (by omega) (by omega) (by omega) (by omega)
                    · replace hF := hF.trans (congrArg (dv_k f_X12_splits_7b) (congrArg (dv_k f_X12_splits_75b) (if_neg c91)))
                      refine tr_iinc (fun x72 => [(4, .int x72), (3, .int x13), (0, .ref a0), (1, .int p1), (2, .int j7_2)]) hx hb gX12_splits_6.1 hl (k := 4) rfl (Eq.refl _) tk_1 (by omega) (by omega) (by decide) (fun _ => rfl) (fun x72 ls ex72 hl => ?_)
                      replace hF := hF.trans (congrArg (dv_k f_X12_splits_7b) (congrArg (dv_k f_X12_splits_75b) (dv_bn (ex72.symm))))
                      refine lv_goto (tgt := 75) hx hb gX12_splits_6.2.1 (by decide) ?_
                      replace hF := hF.trans (congrArg (dv_k f_X12_splits_7b) (dv_kl))
                      exact ih75 locs ls x72 hB (lv_sub hl [1, 2, 3, 4, 0] rfl) hF (by omega) (by omega) (by omega) (by omega) (by omega)
              exact lp75 ((2147483648 : Int) - (j68_4.toInt)).toNat locs ls j68_4 hB (lv_sub hl [0, 1, 2, 3, 4] rfl) hF (by omega) (by omega) (by omega) (by omega) (by omega)
          refine tr_if_eq (tgt := 68) hx hb gX12_splits_3.1 (by decide) (Eq.refl _) (fun c40 => ?_) (fun c40 => ?_)
          · replace hF := hF.trans (congrArg (dv_k f_X12_splits_7b) (if_pos c40))
            exact jn68 locs ls x14 hB (lv_sub hl [1, 2, 3, 4, 0] rfl) hF (by omega) (by omega) (by omega) (by omega)
          · replace hF := hF.trans (congrArg (dv_k f_X12_splits_7b) (if_neg c40))
            have lp43 : ∀ (n43 : Nat) (locs : List Loc) (ls : Array Slot) (j43_4 : Int32), th_B G Γ Γ [(46, 18), (57, 0), (56, 0), (55, 0)] H0 H7 locs → lv_has ls 6 [(3, .int x13), (0, .ref a0), (1, .int p1), (2, .int j7_2), (4, .int j43_4)] → F = dv_k f_X12_splits_7b (dv_lp f_X12_splits_43b (dv G Γ H7, x13.toInt, (a0 : Int), p1.toInt, j7_2.toInt, j43_4.toInt)) → 1 ≤ j43_4.toInt → j43_4.toInt ≤ 400 → j7_2.toInt + 1 ≤ j43_4.toInt → j43_4.toInt ≤ p1.toInt → (2147483648 : Int) - j43_4.toInt ≤ (n43 : Int) → W p l e ({ frames := 1, cells := 0, slots := 0, locals := 27 } : Room) s m ([.ref a0, .int p1] : List Value).toArray below meth c H7 locs 0 0 (MQ below (th_Q (fun (v : Option Value) (H1 : Heap) => v = none ∧ th_I G Γ H1 ∧ th_F G Γ [(46, 18), (57, 0), (56, 0), (55, 0)] H0 H1 ∧ th_RC G Γ H1 ∧ (mo_v G H1 a0 15 (mo_f G H1 a0 18) = 0) ∧ (f_X12_splits (dv G Γ H0) (a0 : Int) p1.toInt = (dv G Γ H1, 0))) G) ([.ref a0, .int p1] : List Value).toArray s 0 0 (fun q => G.1.2.2 ≤ q)) (F0 m 43 ls []) := by
              intro n43
              induction n43 with
              | zero => intro locs ls j43_4 hB hl hF g43_0 g43_1 g43_2 g43_3 hm43; exact absurd hm43 (by have := ti_hi j43_4; omega)
              | succ n43 ih43 =>
                intro locs ls j43_4 hB hl hF g43_0 g43_1 g43_2 g43_3 hm43
                have lj43_4 := ti_lo j43_4; have uj43_4 := ti_hi j43_4
                have hm43 : (2147483648 : Int) - j43_4.toInt ≤ (n43 : Int) + 1 := by omega
                replace hF := hF.trans (congrArg (dv_k f_X12_splits_7b) (dv_lp_eq))
                replace hF := hF.trans (congrArg (dv_k f_X12_splits_7b) (congrArg (dv_k f_X12_splits_43b) (f_X12_splits_43c.eq_1 (dv G Γ H7) (x13.toInt) ((a0 : Int)) (p1.toInt) (j7_2.toInt) (j43_4.toInt))))
                refine lv_iload hx hb gX12_splits_3.2.1 (lv_at hl 4 rfl) ?_
                refine lv_iload_n hx hb gX12_splits_3.2.2.1 rfl (lv_at hl 2 rfl) ?_
                refine tr_icmp_ge (tgt := 68) hx hb gX12_splits_3.2.2.2.1 (by decide) (Eq.refl _) (Eq.refl _) (fun c46 => ?_) (fun c46 => ?_)
                · replace hF := hF.trans (congrArg (dv_k f_X12_splits_7b) (congrArg (dv_k f_X12_splits_43b) (if_pos c46)))
                  replace hF := hF.trans (congrArg (dv_k f_X12_splits_7b) (dv_kr))
                  exact jn68 locs ls j43_4 hB (lv_sub hl [0, 1, 2, 3, 4] rfl) hF (by omega) (by omega) (by omega) (by omega)
                · replace hF := hF.trans (congrArg (dv_k f_X12_splits_7b) (congrArg (dv_k f_X12_splits_43b) (if_neg (Int.not_le.mpr c46))))
                  refine lv_aload_n hx hb gX12_splits_3.2.2.2.2.1 rfl (lv_at hl 1 rfl) ?_
                  refine th_getK hC cf_X12 hB.1 h0 ro_46 rfl (j := 11) (by decide) mb12 kf_X12_45 gX12_splits_3.2.2.2.2.2.1 ?_
                  refine lv_iload hx hb gX12_splits_3.2.2.2.2.2.2.1 (lv_at hl 4 rfl) ?_
                  refine th_baldF hC hB.1 hb12 ro_53 rfl (Eq.refl _) (by omega) (by omega) rfl gX12_splits_3.2.2.2.2.2.2.2 (fun x73 mx73 lx73 ux73 => ?_)
                  replace hF := hF.trans (congrArg (dv_k f_X12_splits_7b) (congrArg (dv_k f_X12_splits_43b) (dv_bn (dv_aldI hB.1 hU hb12 ow_53 (z := j43_4.toInt) mx73 (by omega)))))
                  refine th_call (th_runS (As := [.int x73]) (rest := []) hC mf_X12_isSmall km_X12_178 st_X12_isSmall (c_X12_isSmall l G Γ H7 hB.1 hU x73) rfl rfl ⟨Nat.le_of_ble_eq_true rfl, Nat.le_of_ble_eq_true rfl⟩ rfl hl.1 rfl (Nat.le_of_ble_eq_true rfl) gX12_splits_4.1 ⟨Nat.le_refl _, Nat.le_refl _⟩) hB.2.1 (fun v56 H56 locs hp hz hS => ?_)
                  obtain ⟨x74, rfl, lx74, ux74, q56_0, rfl⟩ := hp
                  have hB := th_B_s hB hS
                  replace hF := hF.trans (congrArg (dv_k f_X12_splits_7b) (congrArg (dv_k f_X12_splits_43b) (dv_bn2 (q56_0))))
                  refine W.eq (g2 := F0 m 59 ls [.int x74]) rfl ?_
                  refine tr_if_eq (tgt := 68) hx hb gX12_splits_4.2.1 (by decide) (Eq.refl _) (fun c59 => ?_) (fun c59 => ?_)
                  · replace hF := hF.trans (congrArg (dv_k f_X12_splits_7b) (congrArg (dv_k f_X12_splits_43b) (if_pos c59)))
                    replace hF := hF.trans (congrArg (dv_k f_X12_splits_7b) (dv_kr))
                    exact jn68 locs ls j43_4 hB (lv_sub hl [0, 1, 2, 3, 4] rfl) hF (by omega) (by omega) (by omega) (by omega)
                  · replace hF := hF.trans (congrArg (dv_k f_X12_splits_7b) (congrArg (dv_k f_X12_splits_43b) (if_neg c59)))
                    refine tr_iinc (fun x75 => [(4, .int x75), (3, .int x13), (0, .ref a0), (1, .int p1), (2, .int j7_2)]) hx hb gX12_splits_4.2.2.1 hl (k := 4) rfl (Eq.refl _) tk_1 (by omega) (by omega) (by decide) (fun _ => rfl) (fun x75 ls ex75 hl => ?_)
                    replace hF := hF.trans (congrArg (dv_k f_X12_splits_7b) (congrArg (dv_k f_X12_splits_43b) (dv_bn (ex75.symm))))
                    refine lv_goto (tgt := 43) hx hb gX12_splits_4.2.2.2.1 (by decide) ?_
                    replace hF := hF.trans (congrArg (dv_k f_X12_splits_7b) (dv_kl))
                    exact ih43 locs ls x75 hB (lv_sub hl [1, 2, 3, 4, 0] rfl) hF (by omega) (by omega) (by omega) (by omega) (by omega)
            exact lp43 ((2147483648 : Int) - (x14.toInt)).toNat locs ls x14 hB (lv_sub hl [1, 2, 3, 4, 0] rfl) hF (by omega) (by omega) (by omega) (by omega) (by omega)
        · replace hF := hF.trans (congrArg (dv_k f_X12_splits_7b) (if_neg (not_not_intro c22)))
          refine tr_iinc (fun x76 => [(2, .int x76), (3, .int x13), (0, .ref a0), (1, .int p1)]) hx hb gX12_splits_2.1 hl (k := 3) rfl (Eq.refl _) tk_1 (by omega) (by omega) (by decide) (fun _ => rfl) (fun x76 ls ex76 hl => ?_)
          replace hF := hF.trans (congrArg (dv_k f_X12_splits_7b) (dv_bn (ex76.symm)))
          refine lv_goto (tgt := 7) hx hb gX12_splits_2.2.1 (by decide) ?_
          replace hF := hF.trans (dv_kl)
          exact ih7 H7 locs ls x76 hB hR (lv_sub hl [2, 3, 0] rfl) hF (by omega) (by omega) (by omega) (by omega) (by omega)
  exact lp7 ((401 : Int) - (0)).toNat H2 locs ls 0 hB hR (lv_sub hl [1, 2, 0] rfl) (by rw [tk_0]; exact hF) (by decide) (by decide) (by have w0 := tk_0; omega) (by have w0 := tk_0; omega) (by have w0 := tk_0; omega)

set_option maxHeartbeats 4000000 in
set_option maxRecDepth 100000 in
theorem c_X12_reads (l : Launch) (G : th_G) (Γ : th_Ga) (H0 : Heap) (hI : th_I G Γ H0) (hR : th_RC G Γ H0) (hU : dv_U Γ) (a0 : Nat) (h0 : Γ a0 = (46, 0)) (o : Int) (k1 : mo_wd G H0 a0 o) : Met l yX12_reads (.code yX12_reads cX12_reads 2 (some FieldType.boolean) :: th_tb) ({ frames := 73, cells := 0, slots := 0, locals := 2205 } : Room) (th_P [.ref a0] G H0) (th_Q (fun (v : Option Value) (H1 : Heap) => ∃ r : Int32, v = some (.int r) ∧ 0 ≤ r.toInt ∧ r.toInt ≤ 1 ∧ th_I G Γ H1 ∧ th_F G Γ [(46, 19), (46, 20), (46, 21), (46, 18), (57, 0), (56, 0), (55, 0), (46, 13), (46, 14)] H0 H1 ∧ th_RC G Γ H1 ∧ (r.toInt = 1 → mo_text o (mo_cr G H1 a0) (mo_f G H1 a0 18)) ∧ (f_X12_reads (dv G Γ H0) (a0 : Int) = (dv G Γ H1, r.toInt))) G) 0 0 (fun q => G.1.2.2 ≤ q) := by
  refine th_met RX12 (by decide) rfl (Nat.le_of_ble_eq_true rfl) ?_
  intro p e s m below meth c hC hH hr hlocks hnm ls hl
  have hx := hC.1
  have hb := hC.2.1
  have hB : th_B G Γ Γ [(46, 19), (46, 20), (46, 21), (46, 18), (57, 0), (56, 0), (55, 0), (46, 13), (46, 14)] H0 H0 [] := ⟨hI, va_S.rf, th_F_rf⟩
  have hl : lv_has ls 2 [(0, .ref a0)] := hl
  obtain ⟨F, hF0⟩ : ∃ F, F = f_X12_reads (dv G Γ H0) ((a0 : Int)) := ⟨_, rfl⟩
  have hF := hF0.trans (f_X12_reads.eq_1 (dv G Γ H0) ((a0 : Int)))
  refine lv_aload_n hx hb gX12_reads_0.1 rfl (lv_at hl 0 rfl) ?_
  refine lv_aload_n hx hb gX12_reads_0.2.1 rfl (lv_at hl 0 rfl) ?_
  refine th_getI (j := 13) hC cf_X12 hB.1 h0 ro_46 rfl rfl kf_X12_169 gX12_reads_0.2.2.1 (fun x1 mx1 lx1 ux1 => ?_)
  replace hF := hF.trans (dv_bn (dv_getI h0 ro_46 (j := 13) rfl mx1 (by decide)))
  refine th_call (th_runV (As := [.int x1]) (rest := []) hC mf_X12_splits km_X12_259 im_X12_splits se_X12_splits (c_X12_splits l G Γ H0 hB.1 hR hU a0 h0 x1 (by omega) (by omega)) rfl rfl ⟨Nat.le_of_ble_eq_true rfl, Nat.le_of_ble_eq_true rfl⟩ hB.1 h0 ro_46 rfl rfl hl.1 rfl (Nat.le_of_ble_eq_true rfl) gX12_reads_0.2.2.2.1 ⟨Nat.le_refl _, Nat.le_refl _⟩) hB.2.1 (fun v5 H5 locs hp hz hS => ?_)
  obtain ⟨rfl, hI1, hf, hR, z5_0, z5_1⟩ := hp
  have hB := th_B_c hB hI1 hS hf (by decide)
  have fv_H5_19 : mo_f G H5 a0 19 = mo_f G H0 a0 19 := mo_f_F hf h0 (by decide) (by decide)
  have fv_H5_21 : mo_f G H5 a0 21 = mo_f G H0 a0 21 := mo_f_F hf h0 (by decide) (by decide)
  replace hF := hF.trans (dv_bn2 (z5_1))
  refine W.eq (g2 := F0 m 8 ls []) rfl ?_
  refine lv_aload_n hx hb gX12_reads_0.2.2.2.2.1 rfl (lv_at hl 0 rfl) ?_
  refine lv_iconst (v := 0) hx hb gX12_reads_0.2.2.2.2.2.1 (by decide) ?_
  refine th_put hC cf_X12 hB h0 (Or.inl h0) ro_46 rfl (j := 13) rfl (th_sI (by decide) (by decide)) (by decide) rfl rfl rfl kf_X12_169 gX12_reads_0.2.2.2.2.2.2.1 (fun H10 locs hB hf hst10 => ?_)
  have hR := th_RC_F hB.1 hR hf (th_T_s h0 ro_46 hst10) (by decide)
  have fv_H10_18 : mo_f G H10 a0 18 = mo_f G H5 a0 18 := mo_f_F hf h0 (by decide) (by decide)
  have fv_H10_19 : mo_f G H10 a0 19 = mo_f G H5 a0 19 := mo_f_F hf h0 (by decide) (by decide)
  have fv_H10_21 : mo_f G H10 a0 21 = mo_f G H5 a0 21 := mo_f_F hf h0 (by decide) (by decide)
  have vv_H10_15 : mo_v G H10 a0 15 = mo_v G H5 a0 15 := mo_v_F (r := 55) hB.1 hf h0 rfl ro_55 (by decide) (by decide)
  replace hF := hF.trans (dv_bn (dv_putI hB.1 h0 ro_46 (j := 13) rfl (th_apart hC cf_X12) hst10 tk_0 (by decide)))
  refine lv_aload_n hx hb gX12_reads_0.2.2.2.2.2.2.2 rfl (lv_at hl 0 rfl) ?_
  refine lv_iconst (v := 0) hx hb gX12_reads_1.1 (by decide) ?_
  refine th_put hC cf_X12 hB h0 (Or.inl h0) ro_46 rfl (j := 19) rfl (th_sI (by decide) (by decide)) (by decide) rfl rfl rfl kf_X12_196 gX12_reads_1.2.1 (fun H15 locs hB hf hst15 => ?_)
  have hR := th_RC_F hB.1 hR hf (th_T_s h0 ro_46 hst15) (by decide)
  have fv_H15_18 : mo_f G H15 a0 18 = mo_f G H10 a0 18 := mo_f_F hf h0 (by decide) (by decide)
  have fv_H15_21 : mo_f G H15 a0 21 = mo_f G H10 a0 21 := mo_f_F hf h0 (by decide) (by decide)
  have vv_H15_15 : mo_v G H15 a0 15 = mo_v G H10 a0 15 := mo_v_F (r := 55) hB.1 hf h0 rfl ro_55 (by decide) (by decide)
  replace hF := hF.trans (dv_bn (dv_putI hB.1 h0 ro_46 (j := 19) rfl (th_apart hC cf_X12) hst15 tk_0 (by decide)))
  have fp15 : mo_f G H15 a0 19 = 0 := (mo_f_St hst15).trans tk_0
  have mm2 := hst15.2.1
  refine lv_aload_n hx hb gX12_reads_1.2.2.1 rfl (lv_at hl 0 rfl) ?_
  refine lv_iconst (v := 0) hx hb gX12_reads_1.2.2.2.1 (by decide) ?_
  refine th_put hC cf_X12 hB h0 (Or.inl h0) ro_46 rfl (j := 20) rfl th_sIa (by decide) rfl rfl rfl kf_X12_205 gX12_reads_1.2.2.2.2.1 (fun H20 locs hB hf hst20 => ?_)
  have mm3 := (th_F_o hf h0 ro_46 (j := 19) (by decide) (by decide)).trans mm2
  have hR := th_RC_F hB.1 hR hf (th_T_s h0 ro_46 hst20) (by decide)
  have fv_H20_18 : mo_f G H20 a0 18 = mo_f G H15 a0 18 := mo_f_F hf h0 (by decide) (by decide)
  have fv_H20_19 : mo_f G H20 a0 19 = mo_f G H15 a0 19 := mo_f_F hf h0 (by decide) (by decide)
  have fv_H20_21 : mo_f G H20 a0 21 = mo_f G H15 a0 21 := mo_f_F hf h0 (by decide) (by decide)
  have vv_H20_15 : mo_v G H20 a0 15 = mo_v G H15 a0 15 := mo_v_F (r := 55) hB.1 hf h0 rfl ro_55 (by decide) (by decide)
  replace hF := hF.trans (dv_bn (dv_putI hB.1 h0 ro_46 (j := 20) rfl (th_apart hC cf_X12) hst20 tk_0 (by decide)))
  refine lv_aload_n hx hb gX12_reads_1.2.2.2.2.2.1 rfl (lv_at hl 0 rfl) ?_
  refine lv_iconst (v := (-1)) hx hb gX12_reads_1.2.2.2.2.2.2.1 (by decide) ?_
  refine th_put hC cf_X12 hB h0 (Or.inl h0) ro_46 rfl (j := 21) rfl (th_sI (by decide) (by decide)) (by decide) rfl rfl rfl kf_X12_189 gX12_reads_1.2.2.2.2.2.2.2 (fun H25 locs hB hf hst25 => ?_)
  have mm4 := (th_F_o hf h0 ro_46 (j := 19) (by decide) (by decide)).trans mm3
  have hR := th_RC_F hB.1 hR hf (th_T_s h0 ro_46 hst25) (by decide)
  have fv_H25_18 : mo_f G H25 a0 18 = mo_f G H20 a0 18 := mo_f_F hf h0 (by decide) (by decide)
  have fv_H25_19 : mo_f G H25 a0 19 = mo_f G H20 a0 19 := mo_f_F hf h0 (by decide) (by decide)
  have vv_H25_15 : mo_v G H25 a0 15 = mo_v G H20 a0 15 := mo_v_F (r := 55) hB.1 hf h0 rfl ro_55 (by decide) (by decide)
  replace hF := hF.trans (dv_bn (dv_putI hB.1 h0 ro_46 (j := 21) rfl (th_apart hC cf_X12) hst25 tk_m1 (by decide)))
  have fp25 : mo_f G H25 a0 21 = (-1) := (mo_f_St hst25).trans tk_m1
  have mm5 := hst25.2.1
  obtain ⟨cv, ecv⟩ : ∃ cv, mo_cr G H25 a0 = cv := ⟨_, rfl⟩
  have cr_H25 : mo_rd G H25 a0 cv := ⟨ecv, by rw [vv_H25_15, vv_H20_15, vv_H15_15, vv_H10_15, show mo_f G H25 a0 18 = mo_f G H5 a0 18 by omega]; exact z5_0⟩
  have t18 := mo_f_rg hB.1 h0 (j := 18) rfl
  obtain ⟨n0, en0⟩ : ∃ n : Int, n = mo_f G H25 a0 18 := ⟨_, rfl⟩
  refine lv_aload_n hx hb gX12_reads_2.1 rfl (lv_at hl 0 rfl) ?_
  refine th_call (th_runV (As := []) (rest := []) hC mf_X12_readOne km_X12_262 im_X12_readOne se_X12_readOne (c_X12_readOne l G Γ H25 hB.1 hR hU a0 h0 o cv 0 cr_H25 ⟨by omega, by omega, by omega⟩ (mo_wd_F hB.2.2 h0 (by decide) k1)) rfl rfl ⟨Nat.le_of_ble_eq_true rfl, Nat.le_of_ble_eq_true rfl⟩ hB.1 h0 ro_46 rfl rfl hl.1 rfl (Nat.le_of_ble_eq_true rfl) gX12_reads_2.2.1 ⟨Nat.le_refl _, Nat.le_refl _⟩) hB.2.1 (fun v29 H29 locs hp hz hS => ?_)
  obtain ⟨rfl, hI1, hf, hR, z29_0, z29_1, z29_2⟩ := hp
  have hB := th_B_c hB hI1 hS hf (by decide)
  have fv_H29_18 : mo_f G H29 a0 18 = mo_f G H25 a0 18 := mo_f_F hf h0 (by decide) (by decide)
  have vv_H29_15 : mo_v G H29 a0 15 = mo_v G H25 a0 15 := mo_v_F (r := 55) hB.1 hf h0 rfl ro_55 (by decide) (by decide)
  replace hF := hF.trans (dv_bn2 (z29_2))
  refine W.eq (g2 := F0 m 32 ls []) rfl ?_
  have cr_H29 : mo_rd G H29 a0 cv := mo_rd_F hB.1 hf h0 (by decide) cr_H25
  refine lv_iconst (v := 1) hx hb gX12_reads_2.2.2.1 (by decide) ?_
  refine lv_istore_n (lv' := [(1, .int 1), (0, .ref a0)]) hx hb gX12_reads_2.2.2.2.1 rfl hl (by decide) rfl (fun ls hl => ?_)
  have lp34 : ∀ (n34 : Nat) (H34 : Heap) (locs : List Loc) (ls : Array Slot) (j34_1 : Int32), th_B G Γ Γ [(46, 19), (46, 20), (46, 21), (46, 18), (57, 0), (56, 0), (55, 0), (46, 13), (46, 14)] H0 H34 locs → th_RC G Γ H34 → lv_has ls 2 [(0, .ref a0), (1, .int j34_1)] → F = dv_lp f_X12_reads_34b (dv G Γ H34, (a0 : Int), j34_1.toInt) → mo_rd G H34 a0 cv → (∃ m : Int, mo_f G H34 a0 19 = m ∧ 0 ≤ m ∧ m ≤ n0 ∧ (mo_f G H34 a0 21 = -1 → mo_pre cv (mo_clause o cv) (mo_is 159) 0 m)) → mo_f G H34 a0 18 = n0 → n0 - mo_f G H34 a0 19 + 1 ≤ (n34 : Int) → W p l e ({ frames := 73, cells := 0, slots := 0, locals := 2205 } : Room) s m ([.ref a0] : List Value).toArray below meth c H34 locs 0 0 (MQ below (th_Q (fun (v : Option Value) (H1 : Heap) => ∃ r : Int32, v = some (.int r) ∧ 0 ≤ r.toInt ∧ r.toInt ≤ 1 ∧ th_I G Γ H1 ∧ th_F G Γ [(46, 19), (46, 20), (46, 21), (46, 18), (57, 0), (56, 0), (55, 0), (46, 13), (46, 14)] H0 H1 ∧ th_RC G Γ H1 ∧ (r.toInt = 1 → mo_text o (mo_cr G H1 a0) (mo_f G H1 a0 18)) ∧ (f_X12_reads (dv G Γ H0) (a0 : Int) = (dv G Γ H1, r.toInt))) G) ([.ref a0] : List Value).toArray s 0 0 (fun q => G.1.2.2 ≤ q)) (F0 m 34 ls []) := by
    intro n34
    induction n34 with
    | zero => intro H34 locs ls j34_1 hB hR hl hF g34_0 g34_1 g34_2 hm34; exact absurd hm34 (by have := mo_lpr g34_1; omega)
    | succ n34 ih34 =>
      intro H34 locs ls j34_1 hB hR hl hF g34_0 g34_1 g34_2 hm34
      have lj34_1 := ti_lo j34_1; have uj34_1 := ti_hi j34_1
      have hm34 : n0 - mo_f G H34 a0 19 + 1 ≤ (n34 : Int) + 1 := by omega
      replace hF := hF.trans (dv_lp_eq)
      replace hF := hF.trans (congrArg (dv_k f_X12_reads_34b) (f_X12_reads_34c.eq_1 (dv G Γ H34) ((a0 : Int)) (j34_1.toInt)))
      refine lv_aload_n hx hb gX12_reads_2.2.2.2.2.1 rfl (lv_at hl 0 rfl) ?_
      have cr_H34 := g34_0
      obtain ⟨m5, a5, b5, c5, e5⟩ := g34_1
      have n18 := g34_2
      refine lv_bipush (v := 59) hx hb gX12_reads_2.2.2.2.2.2.1 (by decide) ?_
      refine th_call (th_runS (As := [.int 59]) (rest := [.ref a0]) hC mf_X12_sign km_X12_240 st_X12_sign (c_X12_sign l G Γ H34 hB.1 hU 59 (by decide) (by decide)) rfl rfl ⟨Nat.le_of_ble_eq_true rfl, Nat.le_of_ble_eq_true rfl⟩ rfl hl.1 rfl (Nat.le_of_ble_eq_true rfl) gX12_reads_2.2.2.2.2.2.2.1 ⟨Nat.le_refl _, Nat.le_refl _⟩) hB.2.1 (fun v37 H37 locs hp hz hS => ?_)
      obtain ⟨x6, rfl, lx6, ux6, q37_0, q37_1, rfl⟩ := hp
      have hB := th_B_s hB hS
      have w37_0 := tk_59
      have zf37 := q37_1
      rw [tk_59] at zf37
      replace hF := hF.trans (congrArg (dv_k f_X12_reads_34b) (dv_bn2 (zf37)))
      refine W.eq (g2 := F0 m 40 ls [.int x6, .ref a0]) rfl ?_
      refine th_call (th_runV (As := [.int x6]) (rest := []) hC mf_X12_takes0 km_X12_199 im_X12_takes0 se_X12_takes0 (c_X12_takes0 l G Γ H34 hB.1 hR hU a0 h0 x6 (by omega) cv m5 cr_H34 ⟨by omega, by omega, by omega⟩) rfl rfl ⟨Nat.le_of_ble_eq_true rfl, Nat.le_of_ble_eq_true rfl⟩ hB.1 h0 ro_46 rfl rfl hl.1 rfl (Nat.le_of_ble_eq_true rfl) gX12_reads_2.2.2.2.2.2.2.2 ⟨Nat.le_refl _, Nat.le_refl _⟩) hB.2.1 (fun v40 H40 locs hp hz hS => ?_)
      obtain ⟨x7, rfl, lx7, ux7, hI1, hf, hR, z40_0, z40_1, z40_2, z40_3⟩ := hp
      have hB := th_B_c hB hI1 hS hf (by decide)
      have fv_H40_18 : mo_f G H40 a0 18 = mo_f G H34 a0 18 := mo_f_F hf h0 (by decide) (by decide)
      have fv_H40_21 : mo_f G H40 a0 21 = mo_f G H34 a0 21 := mo_f_F hf h0 (by decide) (by decide)
      have vv_H40_15 : mo_v G H40 a0 15 = mo_v G H34 a0 15 := mo_v_F (r := 55) hB.1 hf h0 rfl ro_55 (by decide) (by decide)
      replace hF := hF.trans (congrArg (dv_k f_X12_reads_34b) (dv_bn2 (z40_3)))
      refine W.eq (g2 := F0 m 43 ls [.int x7]) rfl ?_
      have cr_H40 : mo_rd G H40 a0 cv := mo_rd_F hB.1 hf h0 (by decide) cr_H34
      have tks := tk_59
      refine tr_if_eq (tgt := 73) hx hb gX12_reads_3.1 (by decide) (Eq.refl _) (fun c43 => ?_) (fun c43 => ?_)
      · specialize z40_1 (by omega); clear z40_0
        replace hF := hF.trans (congrArg (dv_k f_X12_reads_34b) (if_pos c43))
        refine lv_aload_n hx hb gX12_reads_4.2.2.2.2.2.1 rfl (lv_at hl 0 rfl) ?_
        refine th_call (th_runV (As := []) (rest := []) hC mf_X12_fine km_X12_192 im_X12_fine se_X12_fine (c_X12_fine l G Γ H40 hB.1 hU a0 h0) rfl rfl ⟨Nat.le_of_ble_eq_true rfl, Nat.le_of_ble_eq_true rfl⟩ hB.1 h0 ro_46 rfl rfl hl.1 rfl (Nat.le_of_ble_eq_true rfl) gX12_reads_4.2.2.2.2.2.2.1 ⟨Nat.le_refl _, Nat.le_refl _⟩) hB.2.1 (fun v74 H74 locs hp hz hS => ?_)
        obtain ⟨x8, rfl, lx8, ux8, q74_0, q74_1, q74_2, rfl⟩ := hp
        have hB := th_B_s hB hS
        replace hF := hF.trans (congrArg (dv_k f_X12_reads_34b) (dv_bn2 (q74_2)))
        refine W.eq (g2 := F0 m 77 ls [.int x8]) rfl ?_
        refine tr_if_eq (tgt := 95) hx hb gX12_reads_4.2.2.2.2.2.2.2 (by decide) (Eq.refl _) (fun c77 => ?_) (fun c77 => ?_)
        · specialize q74_1 (by omega); clear q74_0
          replace hF := hF.trans (congrArg (dv_k f_X12_reads_34b) (if_pos c77))
          refine lv_aload_n hx hb gX12_reads_5.2.2.2.2.2.2.2 rfl (lv_at hl 0 rfl) ?_
          refine lv_aload_n hx hb gX12_reads_6.1 rfl (lv_at hl 0 rfl) ?_
          refine th_getI (j := 21) hC cf_X12 hB.1 h0 ro_46 rfl rfl kf_X12_189 gX12_reads_6.2.1 (fun x9 mx9 lx9 ux9 => ?_)
          replace hF := hF.trans (congrArg (dv_k f_X12_reads_34b) (dv_bn (dv_getI h0 ro_46 (j := 21) rfl mx9 (by decide))))
          have fg10 : mo_f G H40 a0 21 = x9.toInt := mo_fat mx9
          refine th_put hC cf_X12 hB h0 (Or.inl h0) ro_46 rfl (j := 14) rfl th_sIa (by decide) rfl rfl rfl kf_X12_51 gX12_reads_6.2.2.1 (fun H100 locs hB hf hst100 => ?_)
          have hR := th_RC_F hB.1 hR hf (th_T_s h0 ro_46 hst100) (by decide)
          have fv_H100_18 : mo_f G H100 a0 18 = mo_f G H40 a0 18 := mo_f_F hf h0 (by decide) (by decide)
          have fv_H100_19 : mo_f G H100 a0 19 = mo_f G H40 a0 19 := mo_f_F hf h0 (by decide) (by decide)
          have fv_H100_21 : mo_f G H100 a0 21 = mo_f G H40 a0 21 := mo_f_F hf h0 (by decide) (by decide)
          have vv_H100_15 : mo_v G H100 a0 15 = mo_v G H40 a0 15 := mo_v_F (r := 55) hB.1 hf h0 rfl ro_55 (by decide) (by decide)
          replace hF := hF.trans (congrArg (dv_k f_X12_reads_34b) (dv_bn (dv_putI hB.1 h0 ro_46 (j := 14) rfl (th_apart hC cf_X12) hst100 (Eq.refl _) (by decide))))
          have hf100x := hf
          refine lv_aload_n hx hb gX12_reads_6.2.2.2.1 rfl (lv_at hl 0 rfl) ?_
          refine th_call (th_runV (As := []) (rest := []) hC mf_X12_fine km_X12_192 im_X12_fine se_X12_fine (c_X12_fine l G Γ H100 hB.1 hU a0 h0) rfl rfl ⟨Nat.le_of_ble_eq_true rfl, Nat.le_of_ble_eq_true rfl⟩ hB.1 h0 ro_46 rfl rfl hl.1 rfl (Nat.le_of_ble_eq_true rfl) gX12_reads_6.2.2.2.2.1 ⟨Nat.le_refl _, Nat.le_refl _⟩) hB.2.1 (fun v104 H104 locs hp hz hS => ?_)
          obtain ⟨x11, rfl, lx11, ux11, q104_0, q104_1, q104_2, rfl⟩ := hp
          have hB := th_B_s hB hS
          replace hF := hF.trans (congrArg (dv_k f_X12_reads_34b) (dv_bn2 (q104_2)))
          refine W.eq (g2 := F0 m 107 ls [.int x11]) rfl ?_
          replace hF := hF.trans (dv_kr)
          exact th_iret hC hH hr hlocks (th_nb (by omega) (by omega)) hB.2.1 ⟨_, rfl, by omega, by omega, hB.1, hB.2.2, hR, fun h9 => absurd (q104_0 h9) (by omega), (hF0.symm.trans hF)⟩ gX12_reads_6.2.2.2.2.2
        · specialize q74_0 (by omega); clear q74_1
          replace hF := hF.trans (congrArg (dv_k f_X12_reads_34b) (if_neg c77))
          refine lv_aload_n hx hb gX12_reads_5.1 rfl (lv_at hl 0 rfl) ?_
          refine th_getI (j := 19) hC cf_X12 hB.1 h0 ro_46 rfl rfl kf_X12_196 gX12_reads_5.2.1 (fun x12 mx12 lx12 ux12 => ?_)
          replace hF := hF.trans (congrArg (dv_k f_X12_reads_34b) (dv_bn (dv_getI h0 ro_46 (j := 19) rfl mx12 (by decide))))
          have fg13 : mo_f G H40 a0 19 = x12.toInt := mo_fat mx12
          refine lv_aload_n hx hb gX12_reads_5.2.2.1 rfl (lv_at hl 0 rfl) ?_
          refine th_getI (j := 18) hC cf_X12 hB.1 h0 ro_46 rfl rfl kf_X12_175 gX12_reads_5.2.2.2.1 (fun x14 mx14 lx14 ux14 => ?_)
          replace hF := hF.trans (congrArg (dv_k f_X12_reads_34b) (dv_bn (dv_getI h0 ro_46 (j := 18) rfl mx14 (by decide))))
          have fg15 : mo_f G H40 a0 18 = x14.toInt := mo_fat mx14
          refine tr_icmp_ge (tgt := 95) hx hb gX12_reads_5.2.2.2.2.1 (by decide) (Eq.refl _) (Eq.refl _) (fun c88 => ?_) (fun c88 => ?_)
          · replace hF := hF.trans (congrArg (dv_k f_X12_reads_34b) (if_pos c88))
            refine lv_aload_n hx hb gX12_reads_5.2.2.2.2.2.2.2 rfl (lv_at hl 0 rfl) ?_
            refine lv_aload_n hx hb gX12_reads_6.1 rfl (lv_at hl 0 rfl) ?_
            refine th_getI (j := 21) hC cf_X12 hB.1 h0 ro_46 rfl rfl kf_X12_189 gX12_reads_6.2.1 (fun x16 mx16 lx16 ux16 => ?_)
            replace hF := hF.trans (congrArg (dv_k f_X12_reads_34b) (dv_bn (dv_getI h0 ro_46 (j := 21) rfl mx16 (by decide))))
            have fg17 : mo_f G H40 a0 21 = x16.toInt := mo_fat mx16
            refine th_put hC cf_X12 hB h0 (Or.inl h0) ro_46 rfl (j := 14) rfl th_sIa (by decide) rfl rfl rfl kf_X12_51 gX12_reads_6.2.2.1 (fun H100 locs hB hf hst100 => ?_)
            have hR := th_RC_F hB.1 hR hf (th_T_s h0 ro_46 hst100) (by decide)
            have fv_H100_18 : mo_f G H100 a0 18 = mo_f G H40 a0 18 := mo_f_F hf h0 (by decide) (by decide)
            have fv_H100_19 : mo_f G H100 a0 19 = mo_f G H40 a0 19 := mo_f_F hf h0 (by decide) (by decide)
            have fv_H100_21 : mo_f G H100 a0 21 = mo_f G H40 a0 21 := mo_f_F hf h0 (by decide) (by decide)
            have vv_H100_15 : mo_v G H100 a0 15 = mo_v G H40 a0 15 := mo_v_F (r := 55) hB.1 hf h0 rfl ro_55 (by decide) (by decide)
            replace hF := hF.trans (congrArg (dv_k f_X12_reads_34b) (dv_bn (dv_putI hB.1 h0 ro_46 (j := 14) rfl (th_apart hC cf_X12) hst100 (Eq.refl _) (by decide))))
            have hf100x := hf
            refine lv_aload_n hx hb gX12_reads_6.2.2.2.1 rfl (lv_at hl 0 rfl) ?_
            refine th_call (th_runV (As := []) (rest := []) hC mf_X12_fine km_X12_192 im_X12_fine se_X12_fine (c_X12_fine l G Γ H100 hB.1 hU a0 h0) rfl rfl ⟨Nat.le_of_ble_eq_true rfl, Nat.le_of_ble_eq_true rfl⟩ hB.1 h0 ro_46 rfl rfl hl.1 rfl (Nat.le_of_ble_eq_true rfl) gX12_reads_6.2.2.2.2.1 ⟨Nat.le_refl _, Nat.le_refl _⟩) hB.2.1 (fun v104 H104 locs hp hz hS => ?_)
            obtain ⟨x18, rfl, lx18, ux18, q104_0, q104_1, q104_2, rfl⟩ := hp
            have hB := th_B_s hB hS
            replace hF := hF.trans (congrArg (dv_k f_X12_reads_34b) (dv_bn2 (q104_2)))
            refine W.eq (g2 := F0 m 107 ls [.int x18]) rfl ?_
            replace hF := hF.trans (dv_kr)
            exact th_iret hC hH hr hlocks (th_nb (by omega) (by omega)) hB.2.1 ⟨_, rfl, by omega, by omega, hB.1, hB.2.2, hR, fun h9 => by have q1 := q104_0 h9; obtain ⟨q2, q3⟩ := z40_1; have q4 := mo_pre_e (e5 (by omega)) (show ¬ (cv m5 = 159) by have q5 := q3 (by omega); omega); have q6 := mo_rd_F hB.1 hf100x h0 (by decide) cr_H40; rw [q6.1, show mo_f G H100 a0 18 = m5 by omega]; exact q4, (hF0.symm.trans hF)⟩ gX12_reads_6.2.2.2.2.2
          · replace hF := hF.trans (congrArg (dv_k f_X12_reads_34b) (if_neg (Int.not_le.mpr c88)))
            refine lv_aload_n hx hb gX12_reads_5.2.2.2.2.2.1 rfl (lv_at hl 0 rfl) ?_
            refine th_call (th_runV (As := []) (rest := []) hC mf_X12_faults km_X12_202 im_X12_faults se_X12_faults (c_X12_faults l G Γ H40 hB.1 hR hU a0 h0) rfl rfl ⟨Nat.le_of_ble_eq_true rfl, Nat.le_of_ble_eq_true rfl⟩ hB.1 h0 ro_46 rfl rfl hl.1 rfl (Nat.le_of_ble_eq_true rfl) gX12_reads_5.2.2.2.2.2.2.1 ⟨Nat.le_refl _, Nat.le_refl _⟩) hB.2.1 (fun v92 H92 locs hp hz hS => ?_)
            obtain ⟨rfl, hI1, hf, hR, z92_0, z92_1⟩ := hp
            have hB := th_B_c hB hI1 hS hf (by decide)
            have fv_H92_18 : mo_f G H92 a0 18 = mo_f G H40 a0 18 := mo_f_F hf h0 (by decide) (by decide)
            have fv_H92_19 : mo_f G H92 a0 19 = mo_f G H40 a0 19 := mo_f_F hf h0 (by decide) (by decide)
            have vv_H92_15 : mo_v G H92 a0 15 = mo_v G H40 a0 15 := mo_v_F (r := 55) hB.1 hf h0 rfl ro_55 (by decide) (by decide)
            replace hF := hF.trans (congrArg (dv_k f_X12_reads_34b) (dv_bn2 (z92_1)))
            refine W.eq (g2 := F0 m 95 ls []) rfl ?_
            refine lv_aload_n hx hb gX12_reads_5.2.2.2.2.2.2.2 rfl (lv_at hl 0 rfl) ?_
            refine lv_aload_n hx hb gX12_reads_6.1 rfl (lv_at hl 0 rfl) ?_
            refine th_getI (j := 21) hC cf_X12 hB.1 h0 ro_46 rfl rfl kf_X12_189 gX12_reads_6.2.1 (fun x19 mx19 lx19 ux19 => ?_)
            replace hF := hF.trans (congrArg (dv_k f_X12_reads_34b) (dv_bn (dv_getI h0 ro_46 (j := 21) rfl mx19 (by decide))))
            have fg20 : mo_f G H92 a0 21 = x19.toInt := mo_fat mx19
            refine th_put hC cf_X12 hB h0 (Or.inl h0) ro_46 rfl (j := 14) rfl th_sIa (by decide) rfl rfl rfl kf_X12_51 gX12_reads_6.2.2.1 (fun H100 locs hB hf hst100 => ?_)
            have hR := th_RC_F hB.1 hR hf (th_T_s h0 ro_46 hst100) (by decide)
            have fv_H100_18 : mo_f G H100 a0 18 = mo_f G H92 a0 18 := mo_f_F hf h0 (by decide) (by decide)
            have fv_H100_19 : mo_f G H100 a0 19 = mo_f G H92 a0 19 := mo_f_F hf h0 (by decide) (by decide)
            have fv_H100_21 : mo_f G H100 a0 21 = mo_f G H92 a0 21 := mo_f_F hf h0 (by decide) (by decide)
            have vv_H100_15 : mo_v G H100 a0 15 = mo_v G H92 a0 15 := mo_v_F (r := 55) hB.1 hf h0 rfl ro_55 (by decide) (by decide)
            replace hF := hF.trans (congrArg (dv_k f_X12_reads_34b) (dv_bn (dv_putI hB.1 h0 ro_46 (j := 14) rfl (th_apart hC cf_X12) hst100 (Eq.refl _) (by decide))))
            have hf100x := hf
            refine lv_aload_n hx hb gX12_reads_6.2.2.2.1 rfl (lv_at hl 0 rfl) ?_
            refine th_call (th_runV (As := []) (rest := []) hC mf_X12_fine km_X12_192 im_X12_fine se_X12_fine (c_X12_fine l G Γ H100 hB.1 hU a0 h0) rfl rfl ⟨Nat.le_of_ble_eq_true rfl, Nat.le_of_ble_eq_true rfl⟩ hB.1 h0 ro_46 rfl rfl hl.1 rfl (Nat.le_of_ble_eq_true rfl) gX12_reads_6.2.2.2.2.1 ⟨Nat.le_refl _, Nat.le_refl _⟩) hB.2.1 (fun v104 H104 locs hp hz hS => ?_)
            obtain ⟨x21, rfl, lx21, ux21, q104_0, q104_1, q104_2, rfl⟩ := hp
            have hB := th_B_s hB hS
            replace hF := hF.trans (congrArg (dv_k f_X12_reads_34b) (dv_bn2 (q104_2)))
            refine W.eq (g2 := F0 m 107 ls [.int x21]) rfl ?_
            replace hF := hF.trans (dv_kr)
            exact th_iret hC hH hr hlocks (th_nb (by omega) (by omega)) hB.2.1 ⟨_, rfl, by omega, by omega, hB.1, hB.2.2, hR, fun h9 => absurd (q104_0 h9) (by omega), (hF0.symm.trans hF)⟩ gX12_reads_6.2.2.2.2.2
      · specialize z40_0 (by omega); clear z40_1
        replace hF := hF.trans (congrArg (dv_k f_X12_reads_34b) (if_neg c43))
        refine lv_iload_n hx hb gX12_reads_3.2.1 rfl (lv_at hl 1 rfl) ?_
        refine lv_bipush (v := 12) hx hb gX12_reads_3.2.2.1 (by decide) ?_
        refine tr_icmp_ne (tgt := 56) hx hb gX12_reads_3.2.2.2.1 (by decide) (Eq.refl _) tk_12 (fun c49 => ?_) (fun c49 => ?_)
        · replace hF := hF.trans (congrArg (dv_k f_X12_reads_34b) (if_pos c49))
          refine lv_aload_n hx hb gX12_reads_3.2.2.2.2.2.2.1 rfl (lv_at hl 0 rfl) ?_
          refine th_call (th_runV (As := []) (rest := []) hC mf_X12_fine km_X12_192 im_X12_fine se_X12_fine (c_X12_fine l G Γ H40 hB.1 hU a0 h0) rfl rfl ⟨Nat.le_of_ble_eq_true rfl, Nat.le_of_ble_eq_true rfl⟩ hB.1 h0 ro_46 rfl rfl hl.1 rfl (Nat.le_of_ble_eq_true rfl) gX12_reads_3.2.2.2.2.2.2.2 ⟨Nat.le_refl _, Nat.le_refl _⟩) hB.2.1 (fun v57 H57 locs hp hz hS => ?_)
          obtain ⟨x22, rfl, lx22, ux22, q57_0, q57_1, q57_2, rfl⟩ := hp
          have hB := th_B_s hB hS
          replace hF := hF.trans (congrArg (dv_k f_X12_reads_34b) (dv_bn2 (q57_2)))
          refine W.eq (g2 := F0 m 60 ls [.int x22]) rfl ?_
          refine tr_if_eq (tgt := 67) hx hb gX12_reads_4.1 (by decide) (Eq.refl _) (fun c60 => ?_) (fun c60 => ?_)
          · specialize q57_1 (by omega); clear q57_0
            replace hF := hF.trans (congrArg (dv_k f_X12_reads_34b) (if_pos c60))
            refine tr_iincE (fun x23 => [(1, .int x23), (0, .ref a0)]) hx hb gX12_reads_4.2.2.2.1 hl (k := 1) rfl (Eq.refl _) (by decide) (fun _ => rfl) (fun x23 ls ex23 hl => ?_)
            have lx23 := ti_lo x23; have ux23 := ti_hi x23
            replace hF := hF.trans (congrArg (dv_k f_X12_reads_34b) (dv_bn (ex23)))
            refine lv_goto (tgt := 34) hx hb gX12_reads_4.2.2.2.2.1 (by decide) ?_
            replace hF := hF.trans (dv_kl)
            exact ih34 H40 locs ls x23 hB hR (lv_sub hl [1, 0] rfl) hF cr_H40 ⟨_, rfl, by omega, by omega, fun h9 => absurd h9 (by omega)⟩ (by omega) (by omega)
          · specialize q57_0 (by omega); clear q57_1
            replace hF := hF.trans (congrArg (dv_k f_X12_reads_34b) (if_neg c60))
            refine lv_aload_n hx hb gX12_reads_4.2.1 rfl (lv_at hl 0 rfl) ?_
            refine th_call (th_runV (As := []) (rest := []) hC mf_X12_readOne km_X12_262 im_X12_readOne se_X12_readOne (c_X12_readOne l G Γ H40 hB.1 hR hU a0 h0 o cv (m5 + 1) cr_H40 ⟨by omega, by omega, by omega⟩ (mo_wd_F hB.2.2 h0 (by decide) k1)) rfl rfl ⟨Nat.le_of_ble_eq_true rfl, Nat.le_of_ble_eq_true rfl⟩ hB.1 h0 ro_46 rfl rfl hl.1 rfl (Nat.le_of_ble_eq_true rfl) gX12_reads_4.2.2.1 ⟨Nat.le_refl _, Nat.le_refl _⟩) hB.2.1 (fun v64 H64 locs hp hz hS => ?_)
            obtain ⟨rfl, hI1, hf, hR, z64_0, z64_1, z64_2⟩ := hp
            have hB := th_B_c hB hI1 hS hf (by decide)
            have fv_H64_18 : mo_f G H64 a0 18 = mo_f G H40 a0 18 := mo_f_F hf h0 (by decide) (by decide)
            have vv_H64_15 : mo_v G H64 a0 15 = mo_v G H40 a0 15 := mo_v_F (r := 55) hB.1 hf h0 rfl ro_55 (by decide) (by decide)
            replace hF := hF.trans (congrArg (dv_k f_X12_reads_34b) (dv_bn2 (z64_2)))
            refine W.eq (g2 := F0 m 67 ls []) rfl ?_
            have cr_H64 : mo_rd G H64 a0 cv := mo_rd_F hB.1 hf h0 (by decide) cr_H40
            refine tr_iincE (fun x24 => [(1, .int x24), (0, .ref a0)]) hx hb gX12_reads_4.2.2.2.1 hl (k := 1) rfl (Eq.refl _) (by decide) (fun _ => rfl) (fun x24 ls ex24 hl => ?_)
            have lx24 := ti_lo x24; have ux24 := ti_hi x24
            replace hF := hF.trans (congrArg (dv_k f_X12_reads_34b) (dv_bn (ex24)))
            refine lv_goto (tgt := 34) hx hb gX12_reads_4.2.2.2.2.1 (by decide) ?_
            replace hF := hF.trans (dv_kl)
            exact ih34 H64 locs ls x24 hB hR (lv_sub hl [1, 0] rfl) hF cr_H64 ⟨_, rfl, by omega, by omega, fun h9 => by obtain ⟨q1, q2⟩ := z64_1 h9; obtain ⟨q3, q4, q5⟩ := z40_0; exact mo_pre_s (e5 (by omega)) (show cv m5 = 159 by omega) q2⟩ (by omega) (by omega)
        · replace hF := hF.trans (congrArg (dv_k f_X12_reads_34b) (if_neg (not_not_intro c49)))
          refine lv_aload_n hx hb gX12_reads_3.2.2.2.2.1 rfl (lv_at hl 0 rfl) ?_
          refine th_call (th_runV (As := []) (rest := []) hC mf_X12_faults km_X12_202 im_X12_faults se_X12_faults (c_X12_faults l G Γ H40 hB.1 hR hU a0 h0) rfl rfl ⟨Nat.le_of_ble_eq_true rfl, Nat.le_of_ble_eq_true rfl⟩ hB.1 h0 ro_46 rfl rfl hl.1 rfl (Nat.le_of_ble_eq_true rfl) gX12_reads_3.2.2.2.2.2.1 ⟨Nat.le_refl _, Nat.le_refl _⟩) hB.2.1 (fun v53 H53 locs hp hz hS => ?_)
          obtain ⟨rfl, hI1, hf, hR, z53_0, z53_1⟩ := hp
          have hB := th_B_c hB hI1 hS hf (by decide)
          have fv_H53_18 : mo_f G H53 a0 18 = mo_f G H40 a0 18 := mo_f_F hf h0 (by decide) (by decide)
          have fv_H53_19 : mo_f G H53 a0 19 = mo_f G H40 a0 19 := mo_f_F hf h0 (by decide) (by decide)
          have vv_H53_15 : mo_v G H53 a0 15 = mo_v G H40 a0 15 := mo_v_F (r := 55) hB.1 hf h0 rfl ro_55 (by decide) (by decide)
          replace hF := hF.trans (congrArg (dv_k f_X12_reads_34b) (dv_bn2 (z53_1)))
          refine W.eq (g2 := F0 m 56 ls []) rfl ?_
          have cr_H53 : mo_rd G H53 a0 cv := mo_rd_F hB.1 hf h0 (by decide) cr_H40
          refine lv_aload_n hx hb gX12_reads_3.2.2.2.2.2.2.1 rfl (lv_at hl 0 rfl) ?_
          refine th_call (th_runV (As := []) (rest := []) hC mf_X12_fine km_X12_192 im_X12_fine se_X12_fine (c_X12_fine l G Γ H53 hB.1 hU a0 h0) rfl rfl ⟨Nat.le_of_ble_eq_true rfl, Nat.le_of_ble_eq_true rfl⟩ hB.1 h0 ro_46 rfl rfl hl.1 rfl (Nat.le_of_ble_eq_true rfl) gX12_reads_3.2.2.2.2.2.2.2 ⟨Nat.le_refl _, Nat.le_refl _⟩) hB.2.1 (fun v57 H57 locs hp hz hS => ?_)
          obtain ⟨x25, rfl, lx25, ux25, q57_0, q57_1, q57_2, rfl⟩ := hp
          have hB := th_B_s hB hS
          replace hF := hF.trans (congrArg (dv_k f_X12_reads_34b) (dv_bn2 (q57_2)))
          refine W.eq (g2 := F0 m 60 ls [.int x25]) rfl ?_
          refine tr_if_eq (tgt := 67) hx hb gX12_reads_4.1 (by decide) (Eq.refl _) (fun c60 => ?_) (fun c60 => ?_)
          · specialize q57_1 (by omega); clear q57_0
            replace hF := hF.trans (congrArg (dv_k f_X12_reads_34b) (if_pos c60))
            refine tr_iinc (fun x26 => [(1, .int x26), (0, .ref a0)]) hx hb gX12_reads_4.2.2.2.1 hl (k := 1) rfl (Eq.refl _) tk_1 (by omega) (by omega) (by decide) (fun _ => rfl) (fun x26 ls ex26 hl => ?_)
            replace hF := hF.trans (congrArg (dv_k f_X12_reads_34b) (dv_bn (ex26.symm)))
            refine lv_goto (tgt := 34) hx hb gX12_reads_4.2.2.2.2.1 (by decide) ?_
            replace hF := hF.trans (dv_kl)
            exact ih34 H53 locs ls x26 hB hR (lv_sub hl [1, 0] rfl) hF cr_H53 ⟨_, rfl, by omega, by omega, fun h9 => absurd h9 (by omega)⟩ (by omega) (by omega)
          · specialize q57_0 (by omega); clear q57_1
            replace hF := hF.trans (congrArg (dv_k f_X12_reads_34b) (if_neg c60))
            refine lv_aload_n hx hb gX12_reads_4.2.1 rfl (lv_at hl 0 rfl) ?_
            refine th_call (th_runV (As := []) (rest := []) hC mf_X12_readOne km_X12_262 im_X12_readOne se_X12_readOne (c_X12_readOne l G Γ H53 hB.1 hR hU a0 h0 o cv (m5 + 1) cr_H53 ⟨by omega, by omega, by omega⟩ (mo_wd_F hB.2.2 h0 (by decide) k1)) rfl rfl ⟨Nat.le_of_ble_eq_true rfl, Nat.le_of_ble_eq_true rfl⟩ hB.1 h0 ro_46 rfl rfl hl.1 rfl (Nat.le_of_ble_eq_true rfl) gX12_reads_4.2.2.1 ⟨Nat.le_refl _, Nat.le_refl _⟩) hB.2.1 (fun v64 H64 locs hp hz hS => ?_)
            obtain ⟨rfl, hI1, hf, hR, z64_0, z64_1, z64_2⟩ := hp
            have hB := th_B_c hB hI1 hS hf (by decide)
            have fv_H64_18 : mo_f G H64 a0 18 = mo_f G H53 a0 18 := mo_f_F hf h0 (by decide) (by decide)
            have vv_H64_15 : mo_v G H64 a0 15 = mo_v G H53 a0 15 := mo_v_F (r := 55) hB.1 hf h0 rfl ro_55 (by decide) (by decide)
            replace hF := hF.trans (congrArg (dv_k f_X12_reads_34b) (dv_bn2 (z64_2)))
            refine W.eq (g2 := F0 m 67 ls []) rfl ?_
            have cr_H64 : mo_rd G H64 a0 cv := mo_rd_F hB.1 hf h0 (by decide) cr_H53
            refine tr_iinc (fun x27 => [(1, .int x27), (0, .ref a0)]) hx hb gX12_reads_4.2.2.2.1 hl (k := 1) rfl (Eq.refl _) tk_1 (by omega) (by omega) (by decide) (fun _ => rfl) (fun x27 ls ex27 hl => ?_)
            replace hF := hF.trans (congrArg (dv_k f_X12_reads_34b) (dv_bn (ex27.symm)))
            refine lv_goto (tgt := 34) hx hb gX12_reads_4.2.2.2.2.1 (by decide) ?_
            replace hF := hF.trans (dv_kl)
            exact ih34 H64 locs ls x27 hB hR (lv_sub hl [1, 0] rfl) hF cr_H64 ⟨_, rfl, by omega, by omega, fun h9 => by obtain ⟨q1, q2⟩ := z64_1 h9; obtain ⟨q3, q4, q5⟩ := z40_0; exact mo_pre_s (e5 (by omega)) (show cv m5 = 159 by omega) q2⟩ (by omega) (by omega)
  exact lp34 (n0 - mo_f G H29 a0 19 + 1).toNat H29 locs ls 1 hB hR (lv_sub hl [1, 0] rfl) (by rw [tk_1]; exact hF) cr_H29 ⟨_, rfl, by omega, by omega, fun h9 => mo_pre_0 (z29_1 h9).2⟩ (by have w0 := tk_1; omega) (by have w0 := tk_1; omega)
end
