section MO6
variable {G : th_G} {Γ : th_Ga} {H H1 : Heap} {L : List (Nat × Nat)} {a : Nat} {cv : Int → Int}
/-- the tokens that are read are cv, and behind the last there is none -/
def mo_rd (G : th_G) (H : Heap) (a : Nat) (cv : Int → Int) : Prop := mo_cr G H a = cv ∧ mo_v G H a 15 (mo_f G H a 18) = 0
theorem mo_rd_F (hI : th_I G Γ H1) (hF : th_F G Γ L H H1) (ha : Γ a = (46, 0)) (hL : th_in L 46 15 = false ∧ th_in L 55 0 = false ∧ th_in L 46 18 = false) (h : mo_rd G H a cv) : mo_rd G H1 a cv := by
  unfold mo_rd
  rw [mo_cr_F hI hF ha hL, mo_v_F (r := 55) hI hF ha rfl ro_55 hL.1 hL.2.1, mo_f_F hF ha (by decide) hL.2.2]
  exact h
theorem mo_rd_at {z x : Int} (h : mo_rd G H a cv) (hv : mo_v G H a 15 z = x) (h0 : 0 ≤ z) (h1 : z ≤ mo_f G H a 18) : cv z = x := by
  rw [← h.1]
  unfold mo_cr mo_tf
  by_cases q : 0 ≤ z ∧ z < mo_f G H a 18
  · rw [if_pos q, Int.zero_add]
    exact hv
  · rw [if_neg q, ← hv, show z = mo_f G H a 18 by omega]
    exact h.2.symm
theorem mo_rd_nz {z : Int} (h : mo_rd G H a cv) (hz : cv z ≠ 0) : 0 ≤ z ∧ z < mo_f G H a 18 := by
  rw [← h.1] at hz
  exact mo_tf_nz hz
theorem mo_lpr {f n : Int} {A X : Int → Prop} (h : ∃ m : Int, f = m ∧ A m ∧ m ≤ n ∧ X m) : f ≤ n := by
  obtain ⟨m, h1, -, h2, -⟩ := h
  omega
theorem mo_f_rg (hI : th_I G Γ H) (ha : Γ a = (46, 0)) {j : Nat} {lo hi : Int} (hq : th_f46[j]? = some (0, lo, hi)) : lo ≤ mo_f G H a j ∧ mo_f G H a j ≤ hi := by
  obtain ⟨-, -, h⟩ := hI a 46 0 _ ha ro_46
  obtain ⟨x, e1, e2, e3⟩ := h j _ hq
  rw [mo_fat e1]
  exact ⟨e2, e3⟩
/-- the words of the language o -/
def mo_wd (G : th_G) (H : Heap) (a : Nat) (o : Int) : Prop := mo_f G H a 10 = o ∧ ((o = 0 ∧ mo_f G H a 8 = 8 ∧ mo_f G H a 9 = 15) ∨ (o = 1 ∧ mo_f G H a 8 = 14 ∧ mo_f G H a 9 = 20))
theorem mo_wd_F {o : Int} (hF : th_F G Γ L H H1) (ha : Γ a = (46, 0)) (hL : th_in L 46 8 = false ∧ th_in L 46 9 = false ∧ th_in L 46 10 = false) (h : mo_wd G H a o) : mo_wd G H1 a o := by
  unfold mo_wd
  rw [mo_f_F hF ha (by decide) hL.1, mo_f_F hF ha (by decide) hL.2.1, mo_f_F hF ha (by decide) hL.2.2]
  exact h
def mo_clh (cv : Int → Int) (t m : Int) : Prop := ((cv t = 1 ∨ cv t = 2) ∧ mo_sum 0 cv 8 (t + 1) m) ∨ (cv t = 3 ∧ m = t + 1)
theorem mo_cla_h {t m j : Int} (h : mo_clh cv t m) (hi : mo_if 0 cv m j) : mo_cla cv t j := by
  rcases h with ⟨h1, h2⟩ | ⟨h1, h2⟩
  · exact Or.inl ⟨h1, m, h2, hi⟩
  · subst h2
    exact Or.inr ⟨h1, hi⟩
theorem mo_if_y {o m a j : Int} (h : cv m = 4) (ha : a = m + 1) (ht : mo_test o cv 8 a j) : mo_if o cv m j := by
  subst ha
  exact Or.inl ⟨h, ht⟩
theorem mo_if_n {o m j : Int} (h : cv m ≠ 4) (hj : j = m) : mo_if o cv m j := Or.inr ⟨h, hj⟩
theorem mo_tim_y {m a j : Int} (h : cv m = 27) (h2 : cv a = 50) (ha : a = m + 1 ∧ j = m + 2) : mo_tim cv m j := by
  obtain ⟨ha, hj⟩ := ha
  subst ha
  exact Or.inl ⟨h, h2, hj⟩
theorem mo_tim_n {m j : Int} (h : cv m ≠ 27) (hj : j = m) : mo_tim cv m j := Or.inr ⟨h, hj⟩
end MO6
set_option maxHeartbeats 4000000 in
set_option maxRecDepth 100000 in
theorem c_X12_faults (l : Launch) (G : th_G) (Γ : th_Ga) (H0 : Heap) (hI : th_I G Γ H0) (hR : th_RC G Γ H0) (hU : dv_U Γ) (a0 : Nat) (h0 : Γ a0 = (46, 0)) : Met l yX12_faults (.code yX12_faults cX12_faults 1 (none) :: th_tb) ({ frames := 1, cells := 0, slots := 0, locals := 20 } : Room) (th_P [.ref a0] G H0) (th_Q (fun (v : Option Value) (H1 : Heap) => v = none ∧ th_I G Γ H1 ∧ th_F G Γ [(46, 21)] H0 H1 ∧ th_RC G Γ H1 ∧ (mo_f G H1 a0 21 ≠ -1) ∧ (f_X12_faults (dv G Γ H0) (a0 : Int) = (dv G Γ H1, 0))) G) 0 0 (fun q => G.2.2 ≤ q) := by
  refine th_met RX12 (by decide) rfl (Nat.le_of_ble_eq_true rfl) ?_
  intro p e s m below meth c hC hH hr hlocks hnm ls hl
  have hx := hC.1
  have hb := hC.2.1
  have hB : th_B G Γ Γ [(46, 21)] H0 H0 [] := ⟨hI, va_S.rf, th_F_rf⟩
  have hl : lv_has ls 1 [(0, .ref a0)] := hl
  obtain ⟨F, hF0⟩ : ∃ F, F = f_X12_faults (dv G Γ H0) ((a0 : Int)) := ⟨_, rfl⟩
  have hF := hF0.trans (f_X12_faults.eq_1 (dv G Γ H0) ((a0 : Int)))
  refine lv_aload_n hx hb dX12_faults_0 rfl (lv_at hl 0 rfl) ?_
  refine th_call (th_runV (As := []) (rest := []) hC mf_X12_fine km_X12_192 im_X12_fine se_X12_fine (c_X12_fine l G Γ H0 hB.1 hU a0 h0) rfl rfl ⟨Nat.le_of_ble_eq_true rfl, Nat.le_of_ble_eq_true rfl⟩ hB.1 h0 ro_46 rfl rfl hl.1 rfl (Nat.le_of_ble_eq_true rfl) dX12_faults_1 ⟨Nat.le_refl _, Nat.le_refl _⟩) hB.2.1 (fun v1 H1 locs hp hz hS => ?_)
  obtain ⟨x1, rfl, lx1, ux1, q1_0, q1_1, q1_2, rfl⟩ := hp
  have hB := th_B_s hB hS
  replace hF := hF.trans (dv_bn2 (q1_2))
  refine W.eq (g2 := F0 m 4 ls [.int x1]) rfl ?_
  refine tr_if_eq (tgt := 20) hx hb dX12_faults_4 (by decide) (Eq.refl _) (fun c4 => ?_) (fun c4 => ?_)
  · specialize q1_1 (by omega); clear q1_0
    replace hF := hF.trans (if_pos c4)
    exact th_vret hC hH hr hlocks hB.2.1 ⟨rfl, hB.1, hB.2.2, hR, by omega, (hF0.symm.trans hF)⟩ dX12_faults_20
  · specialize q1_0 (by omega); clear q1_1
    replace hF := hF.trans (if_neg c4)
    refine lv_aload_n hx hb dX12_faults_7 rfl (lv_at hl 0 rfl) ?_
    refine lv_aload_n hx hb dX12_faults_8 rfl (lv_at hl 0 rfl) ?_
    refine th_getO (j := 17) (r2 := 57) hC cf_X12 hB.1 h0 ro_46 rfl rfl kf_X12_60 dX12_faults_9 (fun b2 mb2 hb2 => ?_)
    refine lv_aload_n hx hb dX12_faults_12 rfl (lv_at hl 0 rfl) ?_
    refine th_getI (j := 19) hC cf_X12 hB.1 h0 ro_46 rfl rfl kf_X12_196 dX12_faults_13 (fun x3 mx3 lx3 ux3 => ?_)
    replace hF := hF.trans (dv_bn (dv_getI h0 ro_46 (j := 19) rfl mx3 (by decide)))
    refine th_ialdF hC hB.1 hb2 ro_57 rfl (Eq.refl _) (by omega) (by omega) rfl dX12_faults_16 (fun x4 mx4 lx4 ux4 => ?_)
    replace hF := hF.trans (dv_bn (dv_aldI hB.1 hU hb2 ow_57 (z := x3.toInt) mx4 (by omega)))
    refine th_put hC cf_X12 hB h0 (Or.inl h0) ro_46 rfl (j := 21) rfl (th_sI (by omega) (by omega)) (by decide) rfl rfl rfl kf_X12_189 dX12_faults_17 (fun H17 locs hB hf hst17 => ?_)
    have hR := th_RC_F hB.1 hR hf (th_T_s h0 ro_46 hst17) (by decide)
    replace hF := hF.trans (dv_bn (dv_putI hB.1 h0 ro_46 (j := 21) rfl (th_apart hC cf_X12) hst17 (Eq.refl _) (by decide)))
    have fp17 : mo_f G H17 a0 21 = x4.toInt := mo_f_St hst17
    exact th_vret hC hH hr hlocks hB.2.1 ⟨rfl, hB.1, hB.2.2, hR, by omega, (hF0.symm.trans hF)⟩ dX12_faults_20

set_option maxHeartbeats 4000000 in
set_option maxRecDepth 100000 in
theorem c_X12_takes0 (l : Launch) (G : th_G) (Γ : th_Ga) (H0 : Heap) (hI : th_I G Γ H0) (hR : th_RC G Γ H0) (hU : dv_U Γ) (a0 : Nat) (h0 : Γ a0 = (46, 0)) (p1 : Int32) (f1 : 1 ≤ p1.toInt) (cv : Int → Int) (t : Int) (k1 : mo_rd G H0 a0 cv) (k2 : mo_f G H0 a0 19 = t ∧ 0 ≤ t ∧ t ≤ mo_f G H0 a0 18) : Met l yX12_takes0 (.code yX12_takes0 cX12_takes0 3 (some FieldType.boolean) :: th_tb) ({ frames := 1, cells := 0, slots := 0, locals := 20 } : Room) (th_P [.ref a0, .int p1] G H0) (th_Q (fun (v : Option Value) (H1 : Heap) => ∃ r : Int32, v = some (.int r) ∧ 0 ≤ r.toInt ∧ r.toInt ≤ 1 ∧ th_I G Γ H1 ∧ th_F G Γ [(46, 19)] H0 H1 ∧ th_RC G Γ H1 ∧ (r.toInt = 1 → mo_f G H0 a0 21 = -1 ∧ cv t = p1.toInt ∧ mo_f G H1 a0 19 = t + 1) ∧ (r.toInt = 0 → mo_f G H1 a0 19 = t ∧ (mo_f G H0 a0 21 = -1 → cv t ≠ p1.toInt)) ∧ (mo_f G H1 a0 19 ≤ mo_f G H0 a0 18) ∧ (f_X12_takes0 (dv G Γ H0) (a0 : Int) p1.toInt = (dv G Γ H1, r.toInt))) G) 0 0 (fun q => G.2.2 ≤ q) := by
  refine th_met RX12 (by decide) rfl (Nat.le_of_ble_eq_true rfl) ?_
  intro p e s m below meth c hC hH hr hlocks hnm ls hl
  have hx := hC.1
  have hb := hC.2.1
  have hB : th_B G Γ Γ [(46, 19)] H0 H0 [] := ⟨hI, va_S.rf, th_F_rf⟩
  have hl : lv_has ls 3 [(0, .ref a0), (1, .int p1)] := hl
  have lp1 := ti_lo p1; have up1 := ti_hi p1
  obtain ⟨F, hF0⟩ : ∃ F, F = f_X12_takes0 (dv G Γ H0) ((a0 : Int)) (p1.toInt) := ⟨_, rfl⟩
  have hF := hF0.trans (f_X12_takes0.eq_1 (dv G Γ H0) ((a0 : Int)) (p1.toInt))
  refine lv_aload_n hx hb dX12_takes0_0 rfl (lv_at hl 0 rfl) ?_
  refine th_call (th_runV (As := []) (rest := []) hC mf_X12_fine km_X12_192 im_X12_fine se_X12_fine (c_X12_fine l G Γ H0 hB.1 hU a0 h0) rfl rfl ⟨Nat.le_of_ble_eq_true rfl, Nat.le_of_ble_eq_true rfl⟩ hB.1 h0 ro_46 rfl rfl hl.1 rfl (Nat.le_of_ble_eq_true rfl) dX12_takes0_1 ⟨Nat.le_refl _, Nat.le_refl _⟩) hB.2.1 (fun v1 H1 locs hp hz hS => ?_)
  obtain ⟨x1, rfl, lx1, ux1, q1_0, q1_1, q1_2, rfl⟩ := hp
  have hB := th_B_s hB hS
  replace hF := hF.trans (dv_bn2 (q1_2))
  refine W.eq (g2 := F0 m 4 ls [.int x1]) rfl ?_
  refine tr_if_eq (tgt := 24) hx hb dX12_takes0_4 (by decide) (Eq.refl _) (fun c4 => ?_) (fun c4 => ?_)
  · specialize q1_1 (by omega); clear q1_0
    replace hF := hF.trans (if_pos c4)
    refine lv_iconst (v := 0) hx hb dX12_takes0_24 (by decide) ?_
    refine lv_istore_n (lv' := [(2, .int 0), (0, .ref a0), (1, .int p1)]) hx hb dX12_takes0_25 rfl hl (by decide) rfl (fun ls hl => ?_)
    refine lv_iload_n hx hb dX12_takes0_26 rfl (lv_at hl 0 rfl) ?_
    refine tr_if_eq (tgt := 40) hx hb dX12_takes0_27 (by decide) tk_0 (fun c27 => ?_) (fun c27 => ?_)
    · refine lv_iload_n hx hb dX12_takes0_40 rfl (lv_at hl 0 rfl) ?_
      exact th_iret hC hH hr hlocks narrow_b0 hB.2.1 ⟨_, rfl, by decide, by decide, hB.1, hB.2.2, hR, by first | (intro h9; exact absurd h9 (by decide)) | (intro _; omega), by first | (intro h9; exact absurd h9 (by decide)) | (intro _; omega), by omega, (hF0.symm.trans (hF.trans (by rw [tk_0])))⟩ dX12_takes0_41
    · exfalso; omega
  · specialize q1_0 (by omega); clear q1_1
    replace hF := hF.trans (if_neg c4)
    refine lv_aload_n hx hb dX12_takes0_7 rfl (lv_at hl 0 rfl) ?_
    refine th_getO (j := 15) (r2 := 55) hC cf_X12 hB.1 h0 ro_46 rfl rfl kf_X12_54 dX12_takes0_8 (fun b2 mb2 hb2 => ?_)
    refine lv_aload_n hx hb dX12_takes0_11 rfl (lv_at hl 0 rfl) ?_
    refine th_getI (j := 19) hC cf_X12 hB.1 h0 ro_46 rfl rfl kf_X12_196 dX12_takes0_12 (fun x3 mx3 lx3 ux3 => ?_)
    replace hF := hF.trans (dv_bn (dv_getI h0 ro_46 (j := 19) rfl mx3 (by decide)))
    have fg4 : mo_f G H0 a0 19 = x3.toInt := mo_fat mx3
    refine th_ialdF hC hB.1 hb2 ro_55 rfl (Eq.refl _) (by omega) (by omega) rfl dX12_takes0_15 (fun x5 mx5 lx5 ux5 => ?_)
    replace hF := hF.trans (dv_bn (dv_aldI hB.1 hU hb2 ow_55 (z := x3.toInt) mx5 (by omega)))
    have vgx5 : mo_v G H0 a0 15 x3.toInt = x5.toInt := by rw [show (x3.toInt : Int) = x3.toInt by omega]; exact mo_vat mb2 mx5 (by omega)
    have rc15 : cv t = x5.toInt := by have q9 := mo_rd_at k1 vgx5 (by omega) (by omega); rw [← q9]; congr 1; omega
    refine lv_iload_n hx hb dX12_takes0_16 rfl (lv_at hl 1 rfl) ?_
    refine tr_icmp_ne (tgt := 24) hx hb dX12_takes0_17 (by decide) (Eq.refl _) (Eq.refl _) (fun c17 => ?_) (fun c17 => ?_)
    · replace hF := hF.trans (if_pos c17)
      refine lv_iconst (v := 0) hx hb dX12_takes0_24 (by decide) ?_
      refine lv_istore_n (lv' := [(2, .int 0), (0, .ref a0), (1, .int p1)]) hx hb dX12_takes0_25 rfl hl (by decide) rfl (fun ls hl => ?_)
      refine lv_iload_n hx hb dX12_takes0_26 rfl (lv_at hl 0 rfl) ?_
      refine tr_if_eq (tgt := 40) hx hb dX12_takes0_27 (by decide) tk_0 (fun c27 => ?_) (fun c27 => ?_)
      · refine lv_iload_n hx hb dX12_takes0_40 rfl (lv_at hl 0 rfl) ?_
        exact th_iret hC hH hr hlocks narrow_b0 hB.2.1 ⟨_, rfl, by decide, by decide, hB.1, hB.2.2, hR, by first | (intro h9; exact absurd h9 (by decide)) | (intro _; omega), by first | (intro h9; exact absurd h9 (by decide)) | (intro _; omega), by omega, (hF0.symm.trans (hF.trans (by rw [tk_0])))⟩ dX12_takes0_41
      · exfalso; omega
    · replace hF := hF.trans (if_neg (not_not_intro c17))
      refine lv_iconst (v := 1) hx hb dX12_takes0_20 (by decide) ?_
      refine lv_goto (tgt := 25) hx hb dX12_takes0_21 (by decide) ?_
      refine lv_istore_n (lv' := [(2, .int 1), (0, .ref a0), (1, .int p1)]) hx hb dX12_takes0_25 rfl hl (by decide) rfl (fun ls hl => ?_)
      refine lv_iload_n hx hb dX12_takes0_26 rfl (lv_at hl 0 rfl) ?_
      refine tr_if_eq (tgt := 40) hx hb dX12_takes0_27 (by decide) tk_1 (fun c27 => ?_) (fun c27 => ?_)
      · exfalso; omega
      · refine lv_aload_n hx hb dX12_takes0_30 rfl (lv_at hl 1 rfl) ?_
        refine lv_dup hx hb dX12_takes0_31 rfl ?_
        refine th_getK hC cf_X12 hB.1 h0 ro_46 rfl (j := 19) (by decide) mx3 kf_X12_196 dX12_takes0_32 ?_
        replace hF := hF.trans (dv_bn (dv_getI h0 ro_46 (j := 19) rfl mx3 (by decide)))
        have fg6 : mo_f G H0 a0 19 = x3.toInt := mo_fat mx3
        have nz32 := mo_rd_nz k1 (show cv t ≠ 0 by omega)
        have t18 := mo_f_rg hI h0 (j := 18) rfl
        refine lv_iconst (v := 1) hx hb dX12_takes0_35 (by decide) ?_
        refine tr_iadd hx hb dX12_takes0_36 (Eq.refl _) tk_1 (by omega) (by omega) (fun x7 ex7 => ?_)
        replace hF := hF.trans (dv_bn (ex7.symm))
        refine th_put hC cf_X12 hB h0 (Or.inl h0) ro_46 rfl (j := 19) rfl (th_sI (by omega) (by omega)) (by decide) rfl rfl rfl kf_X12_196 dX12_takes0_37 (fun H37 locs hB hf hst37 => ?_)
        have hR := th_RC_F hB.1 hR hf (th_T_s h0 ro_46 hst37) (by decide)
        have fv_H37_18 : mo_f G H37 a0 18 = mo_f G H0 a0 18 := mo_f_F hf h0 (by decide) (by decide)
        have fv_H37_21 : mo_f G H37 a0 21 = mo_f G H0 a0 21 := mo_f_F hf h0 (by decide) (by decide)
        have vv_H37_15 : mo_v G H37 a0 15 = mo_v G H0 a0 15 := mo_v_F (r := 55) hB.1 hf h0 rfl ro_55 (by decide) (by decide)
        have cr_H37 : mo_rd G H37 a0 cv := mo_rd_F hB.1 hB.2.2 h0 (by decide) k1
        replace hF := hF.trans (dv_bn (dv_putI hB.1 h0 ro_46 (j := 19) rfl (th_apart hC cf_X12) hst37 (Eq.refl _) (by decide)))
        have fp37 : mo_f G H37 a0 19 = x7.toInt := mo_f_St hst37
        refine lv_iload_n hx hb dX12_takes0_40 rfl (lv_at hl 0 rfl) ?_
        exact th_iret hC hH hr hlocks narrow_b1 hB.2.1 ⟨_, rfl, by decide, by decide, hB.1, hB.2.2, hR, by first | (intro h9; exact absurd h9 (by decide)) | (intro _; omega), by first | (intro h9; exact absurd h9 (by decide)) | (intro _; omega), by omega, (hF0.symm.trans (hF.trans (by rw [tk_1])))⟩ dX12_takes0_41

set_option maxHeartbeats 4000000 in
set_option maxRecDepth 100000 in
theorem c_X12_must (l : Launch) (G : th_G) (Γ : th_Ga) (H0 : Heap) (hI : th_I G Γ H0) (hR : th_RC G Γ H0) (hU : dv_U Γ) (a0 : Nat) (h0 : Γ a0 = (46, 0)) (p1 : Int32) (f1 : 1 ≤ p1.toInt) (cv : Int → Int) (t : Int) (k1 : mo_rd G H0 a0 cv) (k2 : mo_f G H0 a0 19 = t ∧ 0 ≤ t ∧ t ≤ mo_f G H0 a0 18) : Met l yX12_must (.code yX12_must cX12_must 2 (none) :: th_tb) ({ frames := 2, cells := 0, slots := 0, locals := 42 } : Room) (th_P [.ref a0, .int p1] G H0) (th_Q (fun (v : Option Value) (H1 : Heap) => v = none ∧ th_I G Γ H1 ∧ th_F G Γ [(46, 19), (46, 21)] H0 H1 ∧ th_RC G Γ H1 ∧ (t ≤ mo_f G H1 a0 19 ∧ mo_f G H1 a0 19 ≤ mo_f G H0 a0 18) ∧ (mo_f G H1 a0 21 = -1 → mo_f G H0 a0 21 = -1 ∧ cv t = p1.toInt ∧ mo_f G H1 a0 19 = t + 1) ∧ (f_X12_must (dv G Γ H0) (a0 : Int) p1.toInt = (dv G Γ H1, 0))) G) 0 0 (fun q => G.2.2 ≤ q) := by
  refine th_met RX12 (by decide) rfl (Nat.le_of_ble_eq_true rfl) ?_
  intro p e s m below meth c hC hH hr hlocks hnm ls hl
  have hx := hC.1
  have hb := hC.2.1
  have hB : th_B G Γ Γ [(46, 19), (46, 21)] H0 H0 [] := ⟨hI, va_S.rf, th_F_rf⟩
  have hl : lv_has ls 2 [(0, .ref a0), (1, .int p1)] := hl
  have lp1 := ti_lo p1; have up1 := ti_hi p1
  obtain ⟨F, hF0⟩ : ∃ F, F = f_X12_must (dv G Γ H0) ((a0 : Int)) (p1.toInt) := ⟨_, rfl⟩
  have hF := hF0.trans (f_X12_must.eq_1 (dv G Γ H0) ((a0 : Int)) (p1.toInt))
  refine lv_aload_n hx hb dX12_must_0 rfl (lv_at hl 0 rfl) ?_
  refine lv_iload_n hx hb dX12_must_1 rfl (lv_at hl 1 rfl) ?_
  refine th_call (th_runV (As := [.int p1]) (rest := []) hC mf_X12_takes0 km_X12_199 im_X12_takes0 se_X12_takes0 (c_X12_takes0 l G Γ H0 hB.1 hR hU a0 h0 p1 (by omega) cv t k1 ⟨by omega, by omega, by omega⟩) rfl rfl ⟨Nat.le_of_ble_eq_true rfl, Nat.le_of_ble_eq_true rfl⟩ hB.1 h0 ro_46 rfl rfl hl.1 rfl (Nat.le_of_ble_eq_true rfl) dX12_must_2 ⟨Nat.le_refl _, Nat.le_refl _⟩) hB.2.1 (fun v2 H2 locs hp hz hS => ?_)
  obtain ⟨x1, rfl, lx1, ux1, hI1, hf, hR, z2_0, z2_1, z2_2, z2_3⟩ := hp
  have hB := th_B_c hB hI1 hS hf (by decide)
  have fv_H2_18 : mo_f G H2 a0 18 = mo_f G H0 a0 18 := mo_f_F hf h0 (by decide) (by decide)
  have fv_H2_21 : mo_f G H2 a0 21 = mo_f G H0 a0 21 := mo_f_F hf h0 (by decide) (by decide)
  have vv_H2_15 : mo_v G H2 a0 15 = mo_v G H0 a0 15 := mo_v_F (r := 55) hB.1 hf h0 rfl ro_55 (by decide) (by decide)
  have cr_H2 : mo_rd G H2 a0 cv := mo_rd_F hB.1 hB.2.2 h0 (by decide) k1
  replace hF := hF.trans (dv_bn2 (z2_3))
  refine W.eq (g2 := F0 m 5 ls [.int x1]) rfl ?_
  refine tr_if_ne (tgt := 12) hx hb dX12_must_5 (by decide) (Eq.refl _) (fun c5 => ?_) (fun c5 => ?_)
  · specialize z2_0 (by omega); clear z2_1
    replace hF := hF.trans (if_pos c5)
    exact th_vret hC hH hr hlocks hB.2.1 ⟨rfl, hB.1, hB.2.2, hR, ⟨by omega, by omega⟩, by intro h9; omega, (hF0.symm.trans hF)⟩ dX12_must_12
  · specialize z2_1 (by omega); clear z2_0
    replace hF := hF.trans (if_neg (not_not_intro c5))
    refine lv_aload_n hx hb dX12_must_8 rfl (lv_at hl 0 rfl) ?_
    refine th_call (th_runV (As := []) (rest := []) hC mf_X12_faults km_X12_202 im_X12_faults se_X12_faults (c_X12_faults l G Γ H2 hB.1 hR hU a0 h0) rfl rfl ⟨Nat.le_of_ble_eq_true rfl, Nat.le_of_ble_eq_true rfl⟩ hB.1 h0 ro_46 rfl rfl hl.1 rfl (Nat.le_of_ble_eq_true rfl) dX12_must_9 ⟨Nat.le_refl _, Nat.le_refl _⟩) hB.2.1 (fun v9 H9 locs hp hz hS => ?_)
    obtain ⟨rfl, hI1, hf, hR, z9_0, z9_1⟩ := hp
    have hB := th_B_c hB hI1 hS hf (by decide)
    have fv_H9_18 : mo_f G H9 a0 18 = mo_f G H2 a0 18 := mo_f_F hf h0 (by decide) (by decide)
    have fv_H9_19 : mo_f G H9 a0 19 = mo_f G H2 a0 19 := mo_f_F hf h0 (by decide) (by decide)
    have vv_H9_15 : mo_v G H9 a0 15 = mo_v G H2 a0 15 := mo_v_F (r := 55) hB.1 hf h0 rfl ro_55 (by decide) (by decide)
    have cr_H9 : mo_rd G H9 a0 cv := mo_rd_F hB.1 hB.2.2 h0 (by decide) k1
    replace hF := hF.trans (dv_bn2 (z9_1))
    refine W.eq (g2 := F0 m 12 ls []) rfl ?_
    exact th_vret hC hH hr hlocks hB.2.1 ⟨rfl, hB.1, hB.2.2, hR, ⟨by omega, by omega⟩, fun h9 => absurd h9 z9_0, (hF0.symm.trans hF)⟩ dX12_must_12

set_option maxHeartbeats 4000000 in
set_option maxRecDepth 100000 in
theorem c_X12_leaf (l : Launch) (G : th_G) (Γ : th_Ga) (H0 : Heap) (hI : th_I G Γ H0) (hR : th_RC G Γ H0) (hU : dv_U Γ) (a0 : Nat) (h0 : Γ a0 = (46, 0)) (cv : Int → Int) (t : Int) (k1 : mo_rd G H0 a0 cv) (k2 : mo_f G H0 a0 19 = t ∧ 0 ≤ t ∧ t ≤ mo_f G H0 a0 18) (k3 : mo_f G H0 a0 21 = -1 → cv t ≠ 0) : Met l yX12_leaf (.code yX12_leaf cX12_leaf 1 (none) :: th_tb) ({ frames := 2, cells := 0, slots := 0, locals := 40 } : Room) (th_P [.ref a0] G H0) (th_Q (fun (v : Option Value) (H1 : Heap) => v = none ∧ th_I G Γ H1 ∧ th_F G Γ [(46, 19), (46, 20), (46, 21)] H0 H1 ∧ th_RC G Γ H1 ∧ (t ≤ mo_f G H1 a0 19 ∧ mo_f G H1 a0 19 ≤ mo_f G H0 a0 18) ∧ (mo_f G H1 a0 21 = -1 → mo_f G H0 a0 21 = -1 ∧ mo_f G H1 a0 19 = t + 1) ∧ (f_X12_leaf (dv G Γ H0) (a0 : Int) = (dv G Γ H1, 0))) G) 0 0 (fun q => G.2.2 ≤ q) := by
  refine th_met RX12 (by decide) rfl (Nat.le_of_ble_eq_true rfl) ?_
  intro p e s m below meth c hC hH hr hlocks hnm ls hl
  have hx := hC.1
  have hb := hC.2.1
  have hB : th_B G Γ Γ [(46, 19), (46, 20), (46, 21)] H0 H0 [] := ⟨hI, va_S.rf, th_F_rf⟩
  have hl : lv_has ls 1 [(0, .ref a0)] := hl
  obtain ⟨F, hF0⟩ : ∃ F, F = f_X12_leaf (dv G Γ H0) ((a0 : Int)) := ⟨_, rfl⟩
  have hF := hF0.trans (f_X12_leaf.eq_1 (dv G Γ H0) ((a0 : Int)))
  refine lv_aload_n hx hb dX12_leaf_0 rfl (lv_at hl 0 rfl) ?_
  refine th_getI (j := 20) hC cf_X12 hB.1 h0 ro_46 rfl rfl kf_X12_205 dX12_leaf_1 (fun x1 mx1 lx1 ux1 => ?_)
  replace hF := hF.trans (dv_bn (dv_getI h0 ro_46 (j := 20) rfl mx1 (by decide)))
  refine lv_bipush (v := 50) hx hb dX12_leaf_4 (by decide) ?_
  refine tr_icmp_ne (tgt := 13) hx hb dX12_leaf_6 (by decide) (Eq.refl _) tk_50 (fun c6 => ?_) (fun c6 => ?_)
  · replace hF := hF.trans (if_pos c6)
    refine lv_aload_n hx hb dX12_leaf_13 rfl (lv_at hl 0 rfl) ?_
    refine lv_dup hx hb dX12_leaf_14 rfl ?_
    refine th_getK hC cf_X12 hB.1 h0 ro_46 rfl (j := 20) (by decide) mx1 kf_X12_205 dX12_leaf_15 ?_
    replace hF := hF.trans (dv_bn (dv_getI h0 ro_46 (j := 20) rfl mx1 (by decide)))
    refine lv_iconst (v := 1) hx hb dX12_leaf_18 (by decide) ?_
    refine lv_iadd hx hb dX12_leaf_19 ?_
    refine lv_topi (fun x2 ex2 => ?_)
    have lx2 := ti_lo x2; have ux2 := ti_hi x2
    replace hF := hF.trans (dv_bn (dv_add_e (Eq.refl _) tk_1 ex2))
    refine th_put hC cf_X12 hB h0 (Or.inl h0) ro_46 rfl (j := 20) rfl th_sIa (by decide) rfl rfl rfl kf_X12_205 dX12_leaf_20 (fun H20 locs hB hf hst20 => ?_)
    have hR := th_RC_F hB.1 hR hf (th_T_s h0 ro_46 hst20) (by decide)
    have fv_H20_18 : mo_f G H20 a0 18 = mo_f G H0 a0 18 := mo_f_F hf h0 (by decide) (by decide)
    have fv_H20_19 : mo_f G H20 a0 19 = mo_f G H0 a0 19 := mo_f_F hf h0 (by decide) (by decide)
    have fv_H20_21 : mo_f G H20 a0 21 = mo_f G H0 a0 21 := mo_f_F hf h0 (by decide) (by decide)
    have vv_H20_15 : mo_v G H20 a0 15 = mo_v G H0 a0 15 := mo_v_F (r := 55) hB.1 hf h0 rfl ro_55 (by decide) (by decide)
    have cr_H20 : mo_rd G H20 a0 cv := mo_rd_F hB.1 hB.2.2 h0 (by decide) k1
    replace hF := hF.trans (dv_bn (dv_putI hB.1 h0 ro_46 (j := 20) rfl (th_apart hC cf_X12) hst20 (Eq.refl _) (by decide)))
    refine lv_aload_n hx hb dX12_leaf_23 rfl (lv_at hl 0 rfl) ?_
    refine th_call (th_runV (As := []) (rest := []) hC mf_X12_fine km_X12_192 im_X12_fine se_X12_fine (c_X12_fine l G Γ H20 hB.1 hU a0 h0) rfl rfl ⟨Nat.le_of_ble_eq_true rfl, Nat.le_of_ble_eq_true rfl⟩ hB.1 h0 ro_46 rfl rfl hl.1 rfl (Nat.le_of_ble_eq_true rfl) dX12_leaf_24 ⟨Nat.le_refl _, Nat.le_refl _⟩) hB.2.1 (fun v24 H24 locs hp hz hS => ?_)
    obtain ⟨x3, rfl, lx3, ux3, q24_0, q24_1, q24_2, rfl⟩ := hp
    have hB := th_B_s hB hS
    replace hF := hF.trans (dv_bn2 (q24_2))
    refine W.eq (g2 := F0 m 27 ls [.int x3]) rfl ?_
    refine tr_if_eq (tgt := 40) hx hb dX12_leaf_27 (by decide) (Eq.refl _) (fun c27 => ?_) (fun c27 => ?_)
    · specialize q24_1 (by omega); clear q24_0
      replace hF := hF.trans (if_pos c27)
      exact th_vret hC hH hr hlocks hB.2.1 ⟨rfl, hB.1, hB.2.2, hR, ⟨by omega, by omega⟩, by intro h9; omega, (hF0.symm.trans hF)⟩ dX12_leaf_40
    · specialize q24_0 (by omega); clear q24_1
      replace hF := hF.trans (if_neg c27)
      refine lv_aload_n hx hb dX12_leaf_30 rfl (lv_at hl 0 rfl) ?_
      refine lv_dup hx hb dX12_leaf_31 rfl ?_
      refine th_getI (j := 19) hC cf_X12 hB.1 h0 ro_46 rfl rfl kf_X12_196 dX12_leaf_32 (fun x4 mx4 lx4 ux4 => ?_)
      replace hF := hF.trans (dv_bn (dv_getI h0 ro_46 (j := 19) rfl mx4 (by decide)))
      have fg5 : mo_f G H20 a0 19 = x4.toInt := mo_fat mx4
      have nz32 := mo_rd_nz k1 (show cv t ≠ 0 by omega)
      have t18 := mo_f_rg hI h0 (j := 18) rfl
      refine lv_iconst (v := 1) hx hb dX12_leaf_35 (by decide) ?_
      refine tr_iadd hx hb dX12_leaf_36 (Eq.refl _) tk_1 (by omega) (by omega) (fun x6 ex6 => ?_)
      replace hF := hF.trans (dv_bn (ex6.symm))
      refine th_put hC cf_X12 hB h0 (Or.inl h0) ro_46 rfl (j := 19) rfl (th_sI (by omega) (by omega)) (by decide) rfl rfl rfl kf_X12_196 dX12_leaf_37 (fun H37 locs hB hf hst37 => ?_)
      have hR := th_RC_F hB.1 hR hf (th_T_s h0 ro_46 hst37) (by decide)
      have fv_H37_18 : mo_f G H37 a0 18 = mo_f G H20 a0 18 := mo_f_F hf h0 (by decide) (by decide)
      have fv_H37_21 : mo_f G H37 a0 21 = mo_f G H20 a0 21 := mo_f_F hf h0 (by decide) (by decide)
      have vv_H37_15 : mo_v G H37 a0 15 = mo_v G H20 a0 15 := mo_v_F (r := 55) hB.1 hf h0 rfl ro_55 (by decide) (by decide)
      have cr_H37 : mo_rd G H37 a0 cv := mo_rd_F hB.1 hB.2.2 h0 (by decide) k1
      replace hF := hF.trans (dv_bn (dv_putI hB.1 h0 ro_46 (j := 19) rfl (th_apart hC cf_X12) hst37 (Eq.refl _) (by decide)))
      have fp37 : mo_f G H37 a0 19 = x6.toInt := mo_f_St hst37
      exact th_vret hC hH hr hlocks hB.2.1 ⟨rfl, hB.1, hB.2.2, hR, ⟨by omega, by omega⟩, by intro h9; omega, (hF0.symm.trans hF)⟩ dX12_leaf_40
  · replace hF := hF.trans (if_neg (not_not_intro c6))
    refine lv_aload_n hx hb dX12_leaf_9 rfl (lv_at hl 0 rfl) ?_
    refine th_call (th_runV (As := []) (rest := []) hC mf_X12_faults km_X12_202 im_X12_faults se_X12_faults (c_X12_faults l G Γ H0 hB.1 hR hU a0 h0) rfl rfl ⟨Nat.le_of_ble_eq_true rfl, Nat.le_of_ble_eq_true rfl⟩ hB.1 h0 ro_46 rfl rfl hl.1 rfl (Nat.le_of_ble_eq_true rfl) dX12_leaf_10 ⟨Nat.le_refl _, Nat.le_refl _⟩) hB.2.1 (fun v10 H10 locs hp hz hS => ?_)
    obtain ⟨rfl, hI1, hf, hR, z10_0, z10_1⟩ := hp
    have hB := th_B_c hB hI1 hS hf (by decide)
    have mm7 := (th_F_o hf h0 ro_46 (j := 20) (by decide) (by decide)).trans mx1
    have fv_H10_18 : mo_f G H10 a0 18 = mo_f G H0 a0 18 := mo_f_F hf h0 (by decide) (by decide)
    have fv_H10_19 : mo_f G H10 a0 19 = mo_f G H0 a0 19 := mo_f_F hf h0 (by decide) (by decide)
    have vv_H10_15 : mo_v G H10 a0 15 = mo_v G H0 a0 15 := mo_v_F (r := 55) hB.1 hf h0 rfl ro_55 (by decide) (by decide)
    have cr_H10 : mo_rd G H10 a0 cv := mo_rd_F hB.1 hB.2.2 h0 (by decide) k1
    replace hF := hF.trans (dv_bn2 (z10_1))
    refine W.eq (g2 := F0 m 13 ls []) rfl ?_
    refine lv_aload_n hx hb dX12_leaf_13 rfl (lv_at hl 0 rfl) ?_
    refine lv_dup hx hb dX12_leaf_14 rfl ?_
    refine th_getK hC cf_X12 hB.1 h0 ro_46 rfl (j := 20) (by decide) mm7 kf_X12_205 dX12_leaf_15 ?_
    replace hF := hF.trans (dv_bn (dv_getI h0 ro_46 (j := 20) rfl mm7 (by decide)))
    refine lv_iconst (v := 1) hx hb dX12_leaf_18 (by decide) ?_
    refine tr_iadd hx hb dX12_leaf_19 (Eq.refl _) tk_1 (by omega) (by omega) (fun x8 ex8 => ?_)
    replace hF := hF.trans (dv_bn (ex8.symm))
    refine th_put hC cf_X12 hB h0 (Or.inl h0) ro_46 rfl (j := 20) rfl th_sIa (by decide) rfl rfl rfl kf_X12_205 dX12_leaf_20 (fun H20 locs hB hf hst20 => ?_)
    have hR := th_RC_F hB.1 hR hf (th_T_s h0 ro_46 hst20) (by decide)
    have fv_H20_18 : mo_f G H20 a0 18 = mo_f G H10 a0 18 := mo_f_F hf h0 (by decide) (by decide)
    have fv_H20_19 : mo_f G H20 a0 19 = mo_f G H10 a0 19 := mo_f_F hf h0 (by decide) (by decide)
    have fv_H20_21 : mo_f G H20 a0 21 = mo_f G H10 a0 21 := mo_f_F hf h0 (by decide) (by decide)
    have vv_H20_15 : mo_v G H20 a0 15 = mo_v G H10 a0 15 := mo_v_F (r := 55) hB.1 hf h0 rfl ro_55 (by decide) (by decide)
    have cr_H20 : mo_rd G H20 a0 cv := mo_rd_F hB.1 hB.2.2 h0 (by decide) k1
    replace hF := hF.trans (dv_bn (dv_putI hB.1 h0 ro_46 (j := 20) rfl (th_apart hC cf_X12) hst20 (Eq.refl _) (by decide)))
    refine lv_aload_n hx hb dX12_leaf_23 rfl (lv_at hl 0 rfl) ?_
    refine th_call (th_runV (As := []) (rest := []) hC mf_X12_fine km_X12_192 im_X12_fine se_X12_fine (c_X12_fine l G Γ H20 hB.1 hU a0 h0) rfl rfl ⟨Nat.le_of_ble_eq_true rfl, Nat.le_of_ble_eq_true rfl⟩ hB.1 h0 ro_46 rfl rfl hl.1 rfl (Nat.le_of_ble_eq_true rfl) dX12_leaf_24 ⟨Nat.le_refl _, Nat.le_refl _⟩) hB.2.1 (fun v24 H24 locs hp hz hS => ?_)
    obtain ⟨x9, rfl, lx9, ux9, q24_0, q24_1, q24_2, rfl⟩ := hp
    have hB := th_B_s hB hS
    replace hF := hF.trans (dv_bn2 (q24_2))
    refine W.eq (g2 := F0 m 27 ls [.int x9]) rfl ?_
    refine tr_if_eq (tgt := 40) hx hb dX12_leaf_27 (by decide) (Eq.refl _) (fun c27 => ?_) (fun c27 => ?_)
    · specialize q24_1 (by omega); clear q24_0
      replace hF := hF.trans (if_pos c27)
      exact th_vret hC hH hr hlocks hB.2.1 ⟨rfl, hB.1, hB.2.2, hR, ⟨by omega, by omega⟩, by intro h9; omega, (hF0.symm.trans hF)⟩ dX12_leaf_40
    · specialize q24_0 (by omega); clear q24_1
      replace hF := hF.trans (if_neg c27)
      refine lv_aload_n hx hb dX12_leaf_30 rfl (lv_at hl 0 rfl) ?_
      refine lv_dup hx hb dX12_leaf_31 rfl ?_
      refine th_getI (j := 19) hC cf_X12 hB.1 h0 ro_46 rfl rfl kf_X12_196 dX12_leaf_32 (fun x10 mx10 lx10 ux10 => ?_)
      replace hF := hF.trans (dv_bn (dv_getI h0 ro_46 (j := 19) rfl mx10 (by decide)))
      have fg11 : mo_f G H20 a0 19 = x10.toInt := mo_fat mx10
      have nz32 := mo_rd_nz k1 (show cv t ≠ 0 by omega)
      have t18 := mo_f_rg hI h0 (j := 18) rfl
      refine lv_iconst (v := 1) hx hb dX12_leaf_35 (by decide) ?_
      refine tr_iadd hx hb dX12_leaf_36 (Eq.refl _) tk_1 (by omega) (by omega) (fun x12 ex12 => ?_)
      replace hF := hF.trans (dv_bn (ex12.symm))
      refine th_put hC cf_X12 hB h0 (Or.inl h0) ro_46 rfl (j := 19) rfl (th_sI (by omega) (by omega)) (by decide) rfl rfl rfl kf_X12_196 dX12_leaf_37 (fun H37 locs hB hf hst37 => ?_)
      have hR := th_RC_F hB.1 hR hf (th_T_s h0 ro_46 hst37) (by decide)
      have fv_H37_18 : mo_f G H37 a0 18 = mo_f G H20 a0 18 := mo_f_F hf h0 (by decide) (by decide)
      have fv_H37_21 : mo_f G H37 a0 21 = mo_f G H20 a0 21 := mo_f_F hf h0 (by decide) (by decide)
      have vv_H37_15 : mo_v G H37 a0 15 = mo_v G H20 a0 15 := mo_v_F (r := 55) hB.1 hf h0 rfl ro_55 (by decide) (by decide)
      have cr_H37 : mo_rd G H37 a0 cv := mo_rd_F hB.1 hB.2.2 h0 (by decide) k1
      replace hF := hF.trans (dv_bn (dv_putI hB.1 h0 ro_46 (j := 19) rfl (th_apart hC cf_X12) hst37 (Eq.refl _) (by decide)))
      have fp37 : mo_f G H37 a0 19 = x12.toInt := mo_f_St hst37
      exact th_vret hC hH hr hlocks hB.2.1 ⟨rfl, hB.1, hB.2.2, hR, ⟨by omega, by omega⟩, by intro h9; omega, (hF0.symm.trans hF)⟩ dX12_leaf_40

set_option maxHeartbeats 4000000 in
set_option maxRecDepth 100000 in
theorem c_X12_mustNumber (l : Launch) (G : th_G) (Γ : th_Ga) (H0 : Heap) (hI : th_I G Γ H0) (hR : th_RC G Γ H0) (hU : dv_U Γ) (a0 : Nat) (h0 : Γ a0 = (46, 0)) (p1 : Int32) (p2 : Int32) (cv : Int → Int) (t : Int) (k1 : mo_rd G H0 a0 cv) (k2 : mo_f G H0 a0 19 = t ∧ 0 ≤ t ∧ t ≤ mo_f G H0 a0 18) : Met l yX12_mustNumber (.code yX12_mustNumber cX12_mustNumber 3 (none) :: th_tb) ({ frames := 2, cells := 0, slots := 0, locals := 40 } : Room) (th_P [.ref a0, .int p1, .int p2] G H0) (th_Q (fun (v : Option Value) (H1 : Heap) => v = none ∧ th_I G Γ H1 ∧ th_F G Γ [(46, 19), (46, 21)] H0 H1 ∧ th_RC G Γ H1 ∧ (t ≤ mo_f G H1 a0 19 ∧ mo_f G H1 a0 19 ≤ mo_f G H0 a0 18) ∧ (mo_f G H1 a0 21 = -1 → mo_f G H0 a0 21 = -1 ∧ cv t = 50 ∧ mo_f G H1 a0 19 = t + 1) ∧ (f_X12_mustNumber (dv G Γ H0) (a0 : Int) p1.toInt p2.toInt = (dv G Γ H1, 0))) G) 0 0 (fun q => G.2.2 ≤ q) := by
  refine th_met RX12 (by decide) rfl (Nat.le_of_ble_eq_true rfl) ?_
  intro p e s m below meth c hC hH hr hlocks hnm ls hl
  have hx := hC.1
  have hb := hC.2.1
  have hB : th_B G Γ Γ [(46, 19), (46, 21)] H0 H0 [] := ⟨hI, va_S.rf, th_F_rf⟩
  have hl : lv_has ls 3 [(0, .ref a0), (1, .int p1), (2, .int p2)] := hl
  have lp1 := ti_lo p1; have up1 := ti_hi p1
  have lp2 := ti_lo p2; have up2 := ti_hi p2
  obtain ⟨F, hF0⟩ : ∃ F, F = f_X12_mustNumber (dv G Γ H0) ((a0 : Int)) (p1.toInt) (p2.toInt) := ⟨_, rfl⟩
  have hF := hF0.trans (f_X12_mustNumber.eq_1 (dv G Γ H0) ((a0 : Int)) (p1.toInt) (p2.toInt))
  refine lv_aload_n hx hb dX12_mustNumber_0 rfl (lv_at hl 0 rfl) ?_
  refine th_call (th_runV (As := []) (rest := []) hC mf_X12_fine km_X12_192 im_X12_fine se_X12_fine (c_X12_fine l G Γ H0 hB.1 hU a0 h0) rfl rfl ⟨Nat.le_of_ble_eq_true rfl, Nat.le_of_ble_eq_true rfl⟩ hB.1 h0 ro_46 rfl rfl hl.1 rfl (Nat.le_of_ble_eq_true rfl) dX12_mustNumber_1 ⟨Nat.le_refl _, Nat.le_refl _⟩) hB.2.1 (fun v1 H1 locs hp hz hS => ?_)
  obtain ⟨x1, rfl, lx1, ux1, q1_0, q1_1, q1_2, rfl⟩ := hp
  have hB := th_B_s hB hS
  replace hF := hF.trans (dv_bn2 (q1_2))
  refine W.eq (g2 := F0 m 4 ls [.int x1]) rfl ?_
  refine tr_if_eq (tgt := 42) hx hb dX12_mustNumber_4 (by decide) (Eq.refl _) (fun c4 => ?_) (fun c4 => ?_)
  · specialize q1_1 (by omega); clear q1_0
    replace hF := hF.trans (if_pos c4)
    refine lv_aload_n hx hb dX12_mustNumber_42 rfl (lv_at hl 0 rfl) ?_
    refine th_call (th_runV (As := []) (rest := []) hC mf_X12_fine km_X12_192 im_X12_fine se_X12_fine (c_X12_fine l G Γ H0 hB.1 hU a0 h0) rfl rfl ⟨Nat.le_of_ble_eq_true rfl, Nat.le_of_ble_eq_true rfl⟩ hB.1 h0 ro_46 rfl rfl hl.1 rfl (Nat.le_of_ble_eq_true rfl) dX12_mustNumber_43 ⟨Nat.le_refl _, Nat.le_refl _⟩) hB.2.1 (fun v43 H43 locs hp hz hS => ?_)
    obtain ⟨x2, rfl, lx2, ux2, q43_0, q43_1, q43_2, rfl⟩ := hp
    have hB := th_B_s hB hS
    replace hF := hF.trans (dv_bn2 (q43_2))
    refine W.eq (g2 := F0 m 46 ls [.int x2]) rfl ?_
    refine tr_if_eq (tgt := 59) hx hb dX12_mustNumber_46 (by decide) (Eq.refl _) (fun c46 => ?_) (fun c46 => ?_)
    · specialize q43_1 (by omega); clear q43_0
      replace hF := hF.trans (if_pos c46)
      exact th_vret hC hH hr hlocks hB.2.1 ⟨rfl, hB.1, hB.2.2, hR, ⟨by omega, by omega⟩, by intro h9; omega, (hF0.symm.trans hF)⟩ dX12_mustNumber_59
    · specialize q43_0 (by omega); clear q43_1
      replace hF := hF.trans (if_neg c46)
      refine lv_aload_n hx hb dX12_mustNumber_49 rfl (lv_at hl 0 rfl) ?_
      refine lv_dup hx hb dX12_mustNumber_50 rfl ?_
      refine th_getI (j := 19) hC cf_X12 hB.1 h0 ro_46 rfl rfl kf_X12_196 dX12_mustNumber_51 (fun x3 mx3 lx3 ux3 => ?_)
      replace hF := hF.trans (dv_bn (dv_getI h0 ro_46 (j := 19) rfl mx3 (by decide)))
      have fg4 : mo_f G H0 a0 19 = x3.toInt := mo_fat mx3
      have nz51 := mo_rd_nz k1 (show cv t ≠ 0 by omega)
      have t18 := mo_f_rg hI h0 (j := 18) rfl
      refine lv_iconst (v := 1) hx hb dX12_mustNumber_54 (by decide) ?_
      refine tr_iadd hx hb dX12_mustNumber_55 (Eq.refl _) tk_1 (by omega) (by omega) (fun x5 ex5 => ?_)
      replace hF := hF.trans (dv_bn (ex5.symm))
      refine th_put hC cf_X12 hB h0 (Or.inl h0) ro_46 rfl (j := 19) rfl (th_sI (by omega) (by omega)) (by decide) rfl rfl rfl kf_X12_196 dX12_mustNumber_56 (fun H56 locs hB hf hst56 => ?_)
      have hR := th_RC_F hB.1 hR hf (th_T_s h0 ro_46 hst56) (by decide)
      have fv_H56_18 : mo_f G H56 a0 18 = mo_f G H0 a0 18 := mo_f_F hf h0 (by decide) (by decide)
      have fv_H56_21 : mo_f G H56 a0 21 = mo_f G H0 a0 21 := mo_f_F hf h0 (by decide) (by decide)
      have vv_H56_15 : mo_v G H56 a0 15 = mo_v G H0 a0 15 := mo_v_F (r := 55) hB.1 hf h0 rfl ro_55 (by decide) (by decide)
      have cr_H56 : mo_rd G H56 a0 cv := mo_rd_F hB.1 hB.2.2 h0 (by decide) k1
      replace hF := hF.trans (dv_bn (dv_putI hB.1 h0 ro_46 (j := 19) rfl (th_apart hC cf_X12) hst56 (Eq.refl _) (by decide)))
      have fp56 : mo_f G H56 a0 19 = x5.toInt := mo_f_St hst56
      exact th_vret hC hH hr hlocks hB.2.1 ⟨rfl, hB.1, hB.2.2, hR, ⟨by omega, by omega⟩, by intro h9; omega, (hF0.symm.trans hF)⟩ dX12_mustNumber_59
  · specialize q1_0 (by omega); clear q1_1
    replace hF := hF.trans (if_neg c4)
    refine lv_aload_n hx hb dX12_mustNumber_7 rfl (lv_at hl 0 rfl) ?_
    refine th_getO (j := 15) (r2 := 55) hC cf_X12 hB.1 h0 ro_46 rfl rfl kf_X12_54 dX12_mustNumber_8 (fun b6 mb6 hb6 => ?_)
    refine lv_aload_n hx hb dX12_mustNumber_11 rfl (lv_at hl 0 rfl) ?_
    refine th_getI (j := 19) hC cf_X12 hB.1 h0 ro_46 rfl rfl kf_X12_196 dX12_mustNumber_12 (fun x7 mx7 lx7 ux7 => ?_)
    replace hF := hF.trans (dv_bn (dv_getI h0 ro_46 (j := 19) rfl mx7 (by decide)))
    have fg8 : mo_f G H0 a0 19 = x7.toInt := mo_fat mx7
    refine th_ialdF hC hB.1 hb6 ro_55 rfl (Eq.refl _) (by omega) (by omega) rfl dX12_mustNumber_15 (fun x9 mx9 lx9 ux9 => ?_)
    replace hF := hF.trans (dv_bn (dv_aldI hB.1 hU hb6 ow_55 (z := x7.toInt) mx9 (by omega)))
    have vgx9 : mo_v G H0 a0 15 x7.toInt = x9.toInt := by rw [show (x7.toInt : Int) = x7.toInt by omega]; exact mo_vat mb6 mx9 (by omega)
    have rc15 : cv t = x9.toInt := by have q9 := mo_rd_at k1 vgx9 (by omega) (by omega); rw [← q9]; congr 1; omega
    refine lv_bipush (v := 50) hx hb dX12_mustNumber_16 (by decide) ?_
    refine tr_icmp_ne (tgt := 38) hx hb dX12_mustNumber_18 (by decide) (Eq.refl _) tk_50 (fun c18 => ?_) (fun c18 => ?_)
    · replace hF := hF.trans (if_pos c18)
      refine lv_aload_n hx hb dX12_mustNumber_38 rfl (lv_at hl 0 rfl) ?_
      refine th_call (th_runV (As := []) (rest := []) hC mf_X12_faults km_X12_202 im_X12_faults se_X12_faults (c_X12_faults l G Γ H0 hB.1 hR hU a0 h0) rfl rfl ⟨Nat.le_of_ble_eq_true rfl, Nat.le_of_ble_eq_true rfl⟩ hB.1 h0 ro_46 rfl rfl hl.1 rfl (Nat.le_of_ble_eq_true rfl) dX12_mustNumber_39 ⟨Nat.le_refl _, Nat.le_refl _⟩) hB.2.1 (fun v39 H39 locs hp hz hS => ?_)
      obtain ⟨rfl, hI1, hf, hR, z39_0, z39_1⟩ := hp
      have hB := th_B_c hB hI1 hS hf (by decide)
      have mm10 := (th_F_o hf h0 ro_46 (j := 19) (by decide) (by decide)).trans mx7
      have fv_H39_18 : mo_f G H39 a0 18 = mo_f G H0 a0 18 := mo_f_F hf h0 (by decide) (by decide)
      have fv_H39_19 : mo_f G H39 a0 19 = mo_f G H0 a0 19 := mo_f_F hf h0 (by decide) (by decide)
      have vv_H39_15 : mo_v G H39 a0 15 = mo_v G H0 a0 15 := mo_v_F (r := 55) hB.1 hf h0 rfl ro_55 (by decide) (by decide)
      have cr_H39 : mo_rd G H39 a0 cv := mo_rd_F hB.1 hB.2.2 h0 (by decide) k1
      replace hF := hF.trans (dv_bn2 (z39_1))
      refine W.eq (g2 := F0 m 42 ls []) rfl ?_
      refine lv_aload_n hx hb dX12_mustNumber_42 rfl (lv_at hl 0 rfl) ?_
      refine th_call (th_runV (As := []) (rest := []) hC mf_X12_fine km_X12_192 im_X12_fine se_X12_fine (c_X12_fine l G Γ H39 hB.1 hU a0 h0) rfl rfl ⟨Nat.le_of_ble_eq_true rfl, Nat.le_of_ble_eq_true rfl⟩ hB.1 h0 ro_46 rfl rfl hl.1 rfl (Nat.le_of_ble_eq_true rfl) dX12_mustNumber_43 ⟨Nat.le_refl _, Nat.le_refl _⟩) hB.2.1 (fun v43 H43 locs hp hz hS => ?_)
      obtain ⟨x11, rfl, lx11, ux11, q43_0, q43_1, q43_2, rfl⟩ := hp
      have hB := th_B_s hB hS
      replace hF := hF.trans (dv_bn2 (q43_2))
      refine W.eq (g2 := F0 m 46 ls [.int x11]) rfl ?_
      refine tr_if_eq (tgt := 59) hx hb dX12_mustNumber_46 (by decide) (Eq.refl _) (fun c46 => ?_) (fun c46 => ?_)
      · specialize q43_1 (by omega); clear q43_0
        replace hF := hF.trans (if_pos c46)
        exact th_vret hC hH hr hlocks hB.2.1 ⟨rfl, hB.1, hB.2.2, hR, ⟨by omega, by omega⟩, by intro h9; omega, (hF0.symm.trans hF)⟩ dX12_mustNumber_59
      · specialize q43_0 (by omega); clear q43_1
        replace hF := hF.trans (if_neg c46)
        refine lv_aload_n hx hb dX12_mustNumber_49 rfl (lv_at hl 0 rfl) ?_
        refine lv_dup hx hb dX12_mustNumber_50 rfl ?_
        refine th_getK hC cf_X12 hB.1 h0 ro_46 rfl (j := 19) (by decide) mm10 kf_X12_196 dX12_mustNumber_51 ?_
        replace hF := hF.trans (dv_bn (dv_getI h0 ro_46 (j := 19) rfl mm10 (by decide)))
        have fg12 : mo_f G H39 a0 19 = x7.toInt := mo_fat mm10
        have nz51 := mo_rd_nz k1 (show cv t ≠ 0 by omega)
        have t18 := mo_f_rg hI h0 (j := 18) rfl
        refine lv_iconst (v := 1) hx hb dX12_mustNumber_54 (by decide) ?_
        refine tr_iadd hx hb dX12_mustNumber_55 (Eq.refl _) tk_1 (by omega) (by omega) (fun x13 ex13 => ?_)
        replace hF := hF.trans (dv_bn (ex13.symm))
        refine th_put hC cf_X12 hB h0 (Or.inl h0) ro_46 rfl (j := 19) rfl (th_sI (by omega) (by omega)) (by decide) rfl rfl rfl kf_X12_196 dX12_mustNumber_56 (fun H56 locs hB hf hst56 => ?_)
        have hR := th_RC_F hB.1 hR hf (th_T_s h0 ro_46 hst56) (by decide)
        have fv_H56_18 : mo_f G H56 a0 18 = mo_f G H39 a0 18 := mo_f_F hf h0 (by decide) (by decide)
        have fv_H56_21 : mo_f G H56 a0 21 = mo_f G H39 a0 21 := mo_f_F hf h0 (by decide) (by decide)
        have vv_H56_15 : mo_v G H56 a0 15 = mo_v G H39 a0 15 := mo_v_F (r := 55) hB.1 hf h0 rfl ro_55 (by decide) (by decide)
        have cr_H56 : mo_rd G H56 a0 cv := mo_rd_F hB.1 hB.2.2 h0 (by decide) k1
        replace hF := hF.trans (dv_bn (dv_putI hB.1 h0 ro_46 (j := 19) rfl (th_apart hC cf_X12) hst56 (Eq.refl _) (by decide)))
        have fp56 : mo_f G H56 a0 19 = x13.toInt := mo_f_St hst56
        exact th_vret hC hH hr hlocks hB.2.1 ⟨rfl, hB.1, hB.2.2, hR, ⟨by omega, by omega⟩, by intro h9; omega, (hF0.symm.trans hF)⟩ dX12_mustNumber_59
    · replace hF := hF.trans (if_neg (not_not_intro c18))
      refine lv_aload_n hx hb dX12_mustNumber_21 rfl (lv_at hl 0 rfl) ?_
      refine th_getO (j := 16) (r2 := 56) hC cf_X12 hB.1 h0 ro_46 rfl rfl kf_X12_57 dX12_mustNumber_22 (fun b14 mb14 hb14 => ?_)
      refine lv_aload_n hx hb dX12_mustNumber_25 rfl (lv_at hl 0 rfl) ?_
      refine th_getK hC cf_X12 hB.1 h0 ro_46 rfl (j := 19) (by decide) mx7 kf_X12_196 dX12_mustNumber_26 ?_
      replace hF := hF.trans (dv_bn (dv_getI h0 ro_46 (j := 19) rfl mx7 (by decide)))
      have fg15 : mo_f G H0 a0 19 = x7.toInt := mo_fat mx7
      refine th_ialdF hC hB.1 hb14 ro_56 rfl (Eq.refl _) (by omega) (by omega) rfl dX12_mustNumber_29 (fun x16 mx16 lx16 ux16 => ?_)
      replace hF := hF.trans (dv_bn (dv_aldI hB.1 hU hb14 ow_56 (z := x7.toInt) mx16 (by omega)))
      refine lv_iload_n hx hb dX12_mustNumber_30 rfl (lv_at hl 1 rfl) ?_
      refine lv_iload_n hx hb dX12_mustNumber_31 rfl (lv_at hl 2 rfl) ?_
      refine th_call (th_runS (As := [.int x16, .int p1, .int p2]) (rest := []) hC mf_X12_lies km_X12_18 st_X12_lies (c_X12_lies l G Γ H0 hB.1 hU x16 p1 p2) rfl rfl ⟨Nat.le_of_ble_eq_true rfl, Nat.le_of_ble_eq_true rfl⟩ rfl hl.1 rfl (Nat.le_of_ble_eq_true rfl) dX12_mustNumber_32 ⟨Nat.le_refl _, Nat.le_refl _⟩) hB.2.1 (fun v32 H32 locs hp hz hS => ?_)
      obtain ⟨x17, rfl, lx17, ux17, q32_0, q32_1, q32_2, rfl⟩ := hp
      have hB := th_B_s hB hS
      replace hF := hF.trans (dv_bn2 (q32_2))
      refine W.eq (g2 := F0 m 35 ls [.int x17]) rfl ?_
      refine tr_if_ne (tgt := 42) hx hb dX12_mustNumber_35 (by decide) (Eq.refl _) (fun c35 => ?_) (fun c35 => ?_)
      · replace hF := hF.trans (if_pos c35)
        refine lv_aload_n hx hb dX12_mustNumber_42 rfl (lv_at hl 0 rfl) ?_
        refine th_call (th_runV (As := []) (rest := []) hC mf_X12_fine km_X12_192 im_X12_fine se_X12_fine (c_X12_fine l G Γ H0 hB.1 hU a0 h0) rfl rfl ⟨Nat.le_of_ble_eq_true rfl, Nat.le_of_ble_eq_true rfl⟩ hB.1 h0 ro_46 rfl rfl hl.1 rfl (Nat.le_of_ble_eq_true rfl) dX12_mustNumber_43 ⟨Nat.le_refl _, Nat.le_refl _⟩) hB.2.1 (fun v43 H43 locs hp hz hS => ?_)
        obtain ⟨x18, rfl, lx18, ux18, q43_0, q43_1, q43_2, rfl⟩ := hp
        have hB := th_B_s hB hS
        replace hF := hF.trans (dv_bn2 (q43_2))
        refine W.eq (g2 := F0 m 46 ls [.int x18]) rfl ?_
        refine tr_if_eq (tgt := 59) hx hb dX12_mustNumber_46 (by decide) (Eq.refl _) (fun c46 => ?_) (fun c46 => ?_)
        · specialize q43_1 (by omega); clear q43_0
          replace hF := hF.trans (if_pos c46)
          exact th_vret hC hH hr hlocks hB.2.1 ⟨rfl, hB.1, hB.2.2, hR, ⟨by omega, by omega⟩, by intro h9; omega, (hF0.symm.trans hF)⟩ dX12_mustNumber_59
        · specialize q43_0 (by omega); clear q43_1
          replace hF := hF.trans (if_neg c46)
          refine lv_aload_n hx hb dX12_mustNumber_49 rfl (lv_at hl 0 rfl) ?_
          refine lv_dup hx hb dX12_mustNumber_50 rfl ?_
          refine th_getK hC cf_X12 hB.1 h0 ro_46 rfl (j := 19) (by decide) mx7 kf_X12_196 dX12_mustNumber_51 ?_
          replace hF := hF.trans (dv_bn (dv_getI h0 ro_46 (j := 19) rfl mx7 (by decide)))
          have fg19 : mo_f G H0 a0 19 = x7.toInt := mo_fat mx7
          have nz51 := mo_rd_nz k1 (show cv t ≠ 0 by omega)
          have t18 := mo_f_rg hI h0 (j := 18) rfl
          refine lv_iconst (v := 1) hx hb dX12_mustNumber_54 (by decide) ?_
          refine tr_iadd hx hb dX12_mustNumber_55 (Eq.refl _) tk_1 (by omega) (by omega) (fun x20 ex20 => ?_)
          replace hF := hF.trans (dv_bn (ex20.symm))
          refine th_put hC cf_X12 hB h0 (Or.inl h0) ro_46 rfl (j := 19) rfl (th_sI (by omega) (by omega)) (by decide) rfl rfl rfl kf_X12_196 dX12_mustNumber_56 (fun H56 locs hB hf hst56 => ?_)
          have hR := th_RC_F hB.1 hR hf (th_T_s h0 ro_46 hst56) (by decide)
          have fv_H56_18 : mo_f G H56 a0 18 = mo_f G H0 a0 18 := mo_f_F hf h0 (by decide) (by decide)
          have fv_H56_21 : mo_f G H56 a0 21 = mo_f G H0 a0 21 := mo_f_F hf h0 (by decide) (by decide)
          have vv_H56_15 : mo_v G H56 a0 15 = mo_v G H0 a0 15 := mo_v_F (r := 55) hB.1 hf h0 rfl ro_55 (by decide) (by decide)
          have cr_H56 : mo_rd G H56 a0 cv := mo_rd_F hB.1 hB.2.2 h0 (by decide) k1
          replace hF := hF.trans (dv_bn (dv_putI hB.1 h0 ro_46 (j := 19) rfl (th_apart hC cf_X12) hst56 (Eq.refl _) (by decide)))
          have fp56 : mo_f G H56 a0 19 = x20.toInt := mo_f_St hst56
          exact th_vret hC hH hr hlocks hB.2.1 ⟨rfl, hB.1, hB.2.2, hR, ⟨by omega, by omega⟩, by intro h9; omega, (hF0.symm.trans hF)⟩ dX12_mustNumber_59
      · replace hF := hF.trans (if_neg (not_not_intro c35))
        refine lv_aload_n hx hb dX12_mustNumber_38 rfl (lv_at hl 0 rfl) ?_
        refine th_call (th_runV (As := []) (rest := []) hC mf_X12_faults km_X12_202 im_X12_faults se_X12_faults (c_X12_faults l G Γ H0 hB.1 hR hU a0 h0) rfl rfl ⟨Nat.le_of_ble_eq_true rfl, Nat.le_of_ble_eq_true rfl⟩ hB.1 h0 ro_46 rfl rfl hl.1 rfl (Nat.le_of_ble_eq_true rfl) dX12_mustNumber_39 ⟨Nat.le_refl _, Nat.le_refl _⟩) hB.2.1 (fun v39 H39 locs hp hz hS => ?_)
        obtain ⟨rfl, hI1, hf, hR, z39_0, z39_1⟩ := hp
        have hB := th_B_c hB hI1 hS hf (by decide)
        have mm21 := (th_F_o hf h0 ro_46 (j := 19) (by decide) (by decide)).trans mx7
        have fv_H39_18 : mo_f G H39 a0 18 = mo_f G H0 a0 18 := mo_f_F hf h0 (by decide) (by decide)
        have fv_H39_19 : mo_f G H39 a0 19 = mo_f G H0 a0 19 := mo_f_F hf h0 (by decide) (by decide)
        have vv_H39_15 : mo_v G H39 a0 15 = mo_v G H0 a0 15 := mo_v_F (r := 55) hB.1 hf h0 rfl ro_55 (by decide) (by decide)
        have cr_H39 : mo_rd G H39 a0 cv := mo_rd_F hB.1 hB.2.2 h0 (by decide) k1
        replace hF := hF.trans (dv_bn2 (z39_1))
        refine W.eq (g2 := F0 m 42 ls []) rfl ?_
        refine lv_aload_n hx hb dX12_mustNumber_42 rfl (lv_at hl 0 rfl) ?_
        refine th_call (th_runV (As := []) (rest := []) hC mf_X12_fine km_X12_192 im_X12_fine se_X12_fine (c_X12_fine l G Γ H39 hB.1 hU a0 h0) rfl rfl ⟨Nat.le_of_ble_eq_true rfl, Nat.le_of_ble_eq_true rfl⟩ hB.1 h0 ro_46 rfl rfl hl.1 rfl (Nat.le_of_ble_eq_true rfl) dX12_mustNumber_43 ⟨Nat.le_refl _, Nat.le_refl _⟩) hB.2.1 (fun v43 H43 locs hp hz hS => ?_)
        obtain ⟨x22, rfl, lx22, ux22, q43_0, q43_1, q43_2, rfl⟩ := hp
        have hB := th_B_s hB hS
        replace hF := hF.trans (dv_bn2 (q43_2))
        refine W.eq (g2 := F0 m 46 ls [.int x22]) rfl ?_
        refine tr_if_eq (tgt := 59) hx hb dX12_mustNumber_46 (by decide) (Eq.refl _) (fun c46 => ?_) (fun c46 => ?_)
        · specialize q43_1 (by omega); clear q43_0
          replace hF := hF.trans (if_pos c46)
          exact th_vret hC hH hr hlocks hB.2.1 ⟨rfl, hB.1, hB.2.2, hR, ⟨by omega, by omega⟩, by intro h9; omega, (hF0.symm.trans hF)⟩ dX12_mustNumber_59
        · specialize q43_0 (by omega); clear q43_1
          replace hF := hF.trans (if_neg c46)
          refine lv_aload_n hx hb dX12_mustNumber_49 rfl (lv_at hl 0 rfl) ?_
          refine lv_dup hx hb dX12_mustNumber_50 rfl ?_
          refine th_getK hC cf_X12 hB.1 h0 ro_46 rfl (j := 19) (by decide) mm21 kf_X12_196 dX12_mustNumber_51 ?_
          replace hF := hF.trans (dv_bn (dv_getI h0 ro_46 (j := 19) rfl mm21 (by decide)))
          have fg23 : mo_f G H39 a0 19 = x7.toInt := mo_fat mm21
          have nz51 := mo_rd_nz k1 (show cv t ≠ 0 by omega)
          have t18 := mo_f_rg hI h0 (j := 18) rfl
          refine lv_iconst (v := 1) hx hb dX12_mustNumber_54 (by decide) ?_
          refine tr_iadd hx hb dX12_mustNumber_55 (Eq.refl _) tk_1 (by omega) (by omega) (fun x24 ex24 => ?_)
          replace hF := hF.trans (dv_bn (ex24.symm))
          refine th_put hC cf_X12 hB h0 (Or.inl h0) ro_46 rfl (j := 19) rfl (th_sI (by omega) (by omega)) (by decide) rfl rfl rfl kf_X12_196 dX12_mustNumber_56 (fun H56 locs hB hf hst56 => ?_)
          have hR := th_RC_F hB.1 hR hf (th_T_s h0 ro_46 hst56) (by decide)
          have fv_H56_18 : mo_f G H56 a0 18 = mo_f G H39 a0 18 := mo_f_F hf h0 (by decide) (by decide)
          have fv_H56_21 : mo_f G H56 a0 21 = mo_f G H39 a0 21 := mo_f_F hf h0 (by decide) (by decide)
          have vv_H56_15 : mo_v G H56 a0 15 = mo_v G H39 a0 15 := mo_v_F (r := 55) hB.1 hf h0 rfl ro_55 (by decide) (by decide)
          have cr_H56 : mo_rd G H56 a0 cv := mo_rd_F hB.1 hB.2.2 h0 (by decide) k1
          replace hF := hF.trans (dv_bn (dv_putI hB.1 h0 ro_46 (j := 19) rfl (th_apart hC cf_X12) hst56 (Eq.refl _) (by decide)))
          have fp56 : mo_f G H56 a0 19 = x24.toInt := mo_f_St hst56
          exact th_vret hC hH hr hlocks hB.2.1 ⟨rfl, hB.1, hB.2.2, hR, ⟨by omega, by omega⟩, by intro h9; omega, (hF0.symm.trans hF)⟩ dX12_mustNumber_59
