section MO10
variable {T : Int → Int}
def mo_go (i p q m k : Int) : Int := if k = 0 then i + 1 else if k = 1 then p else if k = 2 then q else m
def mo_st (i p q k : Int) : Int := if k = 0 then i + 1 else if k = 1 then p + 1 else q + 1
def mo_en (p q m k : Int) : Int := if k = 0 then p else if k = 1 then q else m
/-- the sums of an order, n of them, then how often, then its test -/
def mo_os (T : Int → Int) (i j p q m n : Int) : Prop := (0 ≤ n ∧ n ≤ 3 ∧ i + 1 ≤ m) ∧ (∀ k, 0 ≤ k → k < n → mo_sum 1 T 8 (mo_st i p q k) (mo_en p q m k)) ∧ mo_go i p q m n = m ∧ ∃ m2, mo_tim T m m2 ∧ mo_if 1 T m2 j
theorem mo_ord_os {i j : Int} (h : mo_ord T i j) : (T i = 21 → ∃ p q m, mo_os T i j p q m 3) ∧ (T i = 24 → ∃ p q m, mo_os T i j p q m 1) ∧ (T i ≠ 21 → T i ≠ 24 → ∃ p q m, mo_os T i j p q m 0) := by
  obtain ⟨m, hh, m2, ht, hi⟩ := h
  refine ⟨fun e => ?_, fun e => ?_, fun e e' => ?_⟩
  · rcases hh with ⟨-, p, q, h4, -, h5, -, h6⟩ | ⟨w, -⟩ | ⟨w, -⟩
    · have l4 := mo_sum_lt _ _ _ _ _ h4
      have l5 := mo_sum_lt _ _ _ _ _ h5
      have l6 := mo_sum_lt _ _ _ _ _ h6
      refine ⟨p, q, m, ⟨by omega, by omega, by omega⟩, fun k k0 k1 => ?_, rfl, m2, ht, hi⟩
      have hk : k = 0 ∨ k = 1 ∨ k = 2 := by omega
      rcases hk with rfl | rfl | rfl
      · exact h4
      · exact h5
      · exact h6
    · omega
    · omega
  · rcases hh with ⟨w, -⟩ | ⟨-, h4⟩ | ⟨w, -⟩
    · omega
    · have l4 := mo_sum_lt _ _ _ _ _ h4
      refine ⟨m, m, m, ⟨by omega, by omega, by omega⟩, fun k k0 k1 => ?_, rfl, m2, ht, hi⟩
      have hk : k = 0 := by omega
      subst hk
      exact h4
    · omega
  · rcases hh with ⟨w, -⟩ | ⟨w, -⟩ | ⟨w, h4⟩
    · exact absurd w e
    · exact absurd w e'
    · exact ⟨m, m, m, ⟨by omega, by omega, by omega⟩, fun k k0 k1 => by omega, by unfold mo_go; rw [if_pos rfl]; exact h4.symm, m2, ht, hi⟩
theorem mo_tim_le {m m2 : Int} (h : mo_tim T m m2) : m ≤ m2 := by
  rcases h with ⟨-, -, h⟩ | ⟨-, h⟩ <;> omega
theorem mo_ord_nz {i j : Int} (h : mo_ord T i j) : T i ≠ 0 := by
  obtain ⟨m, hh, -⟩ := h
  rcases hh with ⟨w, -⟩ | ⟨w, -⟩ | ⟨w, -⟩ <;> omega
theorem mo_gs_0 {i p q m : Int} : mo_go i p q m 0 = i + 1 ∧ mo_st i p q 0 = i + 1 := ⟨rfl, rfl⟩
theorem mo_gs_s {i p q m k : Int} (h0 : 1 ≤ k) (h1 : k ≤ 2) : mo_st i p q k = mo_go i p q m k + 1 := by
  unfold mo_st mo_go
  (repeat' split) <;> omega
theorem mo_gs_e {i p q m k : Int} (h0 : 0 ≤ k) (h1 : k ≤ 2) : mo_en p q m k = mo_go i p q m (k + 1) := by
  unfold mo_en mo_go
  (repeat' split) <;> omega
theorem mo_tf_29 {k k' : Int → Int} {b n : Int} (h : ∀ z : Int, 29 ≤ z → k' z = k z) (hb : 29 ≤ b) : mo_tf k' b n = mo_tf k b n := by
  funext i
  unfold mo_tf
  by_cases w : 0 ≤ i ∧ i < n
  · rw [if_pos w, if_pos w]
    exact h _ (by omega)
  · rw [if_neg w, if_neg w]
/-- orders are laid where no law is -/
theorem mo_ok_6 {k k' c im has l : Int → Int} {u n : Int} (hk : mo_ok k im has l u) (n1 : n ≤ 400) (h : ∀ z, z < 2880 → k' z = mo_ly k c 6 n n z) : mo_ok k' im has l u := by
  have e : ∀ z, z < 2480 → z ≠ 79 → k' z = k z := by
    intro z a b
    rw [h z (by omega)]
    unfold mo_ly
    rw [if_neg (by omega), if_neg (by omega)]
  refine mo_ok_gx hk ⟨fun i a b => e i (by omega) (by omega), fun i a b => e i (by omega) (by omega), e _ (by omega) (by omega), e _ (by omega) (by omega), e _ (by omega) (by omega)⟩ ?_
  obtain ⟨h1, h2, h3⟩ := hk.1.1
  unfold mo_lw
  rw [e 71 (by omega) (by omega), e 72 (by omega) (by omega)]
  refine ⟨h1, h2, fun t t0 t1 => ?_⟩
  obtain ⟨w1, w2⟩ := h3 t t0 t1
  rw [e (73 + t) (by omega) (by omega)]
  refine ⟨w1, ?_⟩
  have ef : mo_tf k' (80 + 400 * t) (k (73 + t)) = mo_tf k (80 + 400 * t) (k (73 + t)) := by
    funext i
    unfold mo_tf
    by_cases w : 0 ≤ i ∧ i < k (73 + t)
    · rw [if_pos w, if_pos w]
      exact e _ (by omega) (by omega)
    · rw [if_neg w, if_neg w]
  rw [ef]
  exact w2
theorem mo_tf_6 {k k' c : Int → Int} {n : Int} (n1 : n ≤ 400) (h : ∀ z, z < 2880 → k' z = mo_ly k c 6 n n z) : mo_tf k' 2480 n = mo_tf c 0 n := by
  funext i
  unfold mo_tf
  by_cases w : 0 ≤ i ∧ i < n
  · rw [if_pos w, if_pos w, h _ (by omega)]
    unfold mo_ly
    rw [if_neg (by omega), if_pos (by omega)]
    congr 1
    omega
  · rw [if_neg w, if_neg w]
end MO10
set_option maxHeartbeats 4000000 in
set_option maxRecDepth 100000 in
theorem c_X12_isMovable (l : Launch) (G : th_G) (Γ : th_Ga) (H0 : Heap) (hI : th_I G Γ H0) (hU : dv_U Γ) (a0 : Nat) (h0 : Γ a0 = (46, 0)) (hR : th_RK a0 G Γ H0) (p1 : Int32) (f1 : 0 ≤ p1.toInt) (g1 : p1.toInt ≤ 8) : Met l yX12_isMovable (.code yX12_isMovable cX12_isMovable 4 (some FieldType.boolean) :: th_tb) ({ frames := 54, cells := 0, slots := 0, locals := 1697 } : Room) (th_P [.ref a0, .int p1] G H0) (th_Q (fun (v : Option Value) (H1 : Heap) => ∃ r : Int32, v = some (.int r) ∧ 0 ≤ r.toInt ∧ r.toInt ≤ 1 ∧ th_I G Γ H1 ∧ th_F G Γ [(46, 41), (46, 42), (46, 43), (67, 0), (66, 0), (59, 0), (64, 0), (65, 0), (46, 39), (46, 40), (63, 0), (46, 44), (46, 45), (46, 22), (46, 24), (58, 0), (46, 23), (46, 25), (48, 0)] H0 H1 ∧ th_RK a0 G Γ H1 ∧ (mo_v G H1 a0 2 = mo_v G H0 a0 2) ∧ (f_X12_isMovable (dv G Γ H0) (a0 : Int) p1.toInt = (dv G Γ H1, r.toInt))) G) 0 0 (fun q => G.2.2 ≤ q) := by
  refine th_met RX12 (by decide) rfl (Nat.le_of_ble_eq_true rfl) ?_
  intro p e s m below meth c hC hH hr hlocks hnm ls hl
  have hx := hC.1
  have hb := hC.2.1
  have hB : th_B G Γ Γ [(46, 41), (46, 42), (46, 43), (67, 0), (66, 0), (59, 0), (64, 0), (65, 0), (46, 39), (46, 40), (63, 0), (46, 44), (46, 45), (46, 22), (46, 24), (58, 0), (46, 23), (46, 25), (48, 0)] H0 H0 [] := ⟨hI, va_S.rf, th_F_rf⟩
  have hl : lv_has ls 4 [(0, .ref a0), (1, .int p1)] := hl
  have lp1 := ti_lo p1; have up1 := ti_hi p1
  obtain ⟨F, hF0⟩ : ∃ F, F = f_X12_isMovable (dv G Γ H0) ((a0 : Int)) (p1.toInt) := ⟨_, rfl⟩
  have hF := hF0.trans (f_X12_isMovable.eq_1 (dv G Γ H0) ((a0 : Int)) (p1.toInt))
  refine lv_aload_n hx hb dX12_isMovable_0 rfl (lv_at hl 0 rfl) ?_
  have hR0 := hR
  refine th_getO (j := 2) (r2 := 48) hC cf_X12 hB.1 h0 ro_46 rfl rfl kf_X12_28 dX12_isMovable_1 (fun b1 mb1 hb1 => ?_)
  refine lv_bipush (v := 9) hx hb dX12_isMovable_4 (by decide) ?_
  refine lv_iload_n hx hb dX12_isMovable_6 rfl (lv_at hl 1 rfl) ?_
  refine tr_iadd hx hb dX12_isMovable_7 tk_9 (Eq.refl _) (by omega) (by omega) (fun x2 ex2 => ?_)
  replace hF := hF.trans (dv_bn (ex2.symm))
  refine th_ialdF hC hB.1 hb1 ro_48 rfl (Eq.refl _) (by omega) (by omega) (ek_a (by omega) (by omega)) dX12_isMovable_8 (fun x3 mx3 lx3 ux3 => ?_)
  replace hF := hF.trans (dv_bn (dv_aldI hB.1 hU hb1 ow_48 (z := x2.toInt) mx3 (by omega)))
  have vgx3 : mo_v G H0 a0 2 (9 + p1.toInt) = x3.toInt := by rw [show ((9 + p1.toInt) : Int) = x2.toInt by omega]; exact mo_vat mb1 mx3 (by omega)
  refine lv_istore_n (lv' := [(2, .int x3), (0, .ref a0), (1, .int p1)]) hx hb dX12_isMovable_9 rfl hl (by decide) rfl (fun ls hl => ?_)
  refine lv_aload_n hx hb dX12_isMovable_10 rfl (lv_at hl 1 rfl) ?_
  refine th_getK hC cf_X12 hB.1 h0 ro_46 rfl (j := 2) (by decide) mb1 kf_X12_28 dX12_isMovable_11 ?_
  refine lv_bipush (v := 18) hx hb dX12_isMovable_14 (by decide) ?_
  refine lv_iload_n hx hb dX12_isMovable_16 rfl (lv_at hl 2 rfl) ?_
  refine tr_iadd hx hb dX12_isMovable_17 tk_18 (Eq.refl _) (by omega) (by omega) (fun x4 ex4 => ?_)
  replace hF := hF.trans (dv_bn (ex4.symm))
  refine th_ialdF hC hB.1 hb1 ro_48 rfl (Eq.refl _) (by omega) (by omega) (ek_a (by omega) (by omega)) dX12_isMovable_18 (fun x5 mx5 lx5 ux5 => ?_)
  replace hF := hF.trans (dv_bn (dv_aldI hB.1 hU hb1 ow_48 (z := x4.toInt) mx5 (by omega)))
  have vgx5 : mo_v G H0 a0 2 (18 + p1.toInt) = x5.toInt := by rw [show ((18 + p1.toInt) : Int) = x4.toInt by omega]; exact mo_vat mb1 mx5 (by omega)
  refine lv_istore_n (lv' := [(3, .int x5), (2, .int x3), (0, .ref a0), (1, .int p1)]) hx hb dX12_isMovable_19 rfl hl (by decide) rfl (fun ls hl => ?_)
  refine lv_aload_n hx hb dX12_isMovable_20 rfl (lv_at hl 2 rfl) ?_
  refine lv_iload_n hx hb dX12_isMovable_21 rfl (lv_at hl 3 rfl) ?_
  refine th_call (th_runV (As := [.int p1]) (rest := []) hC mf_X12_rolls km_X12_123 im_X12_rolls se_X12_rolls (c_X12_rolls l G Γ H0 hB.1 hU a0 h0 (th_KE hR) p1 (by omega) (by omega)) rfl rfl ⟨Nat.le_of_ble_eq_true rfl, Nat.le_of_ble_eq_true rfl⟩ hB.1 h0 ro_46 rfl rfl hl.1 rfl (Nat.le_of_ble_eq_true rfl) dX12_isMovable_22 ⟨Nat.le_refl _, Nat.le_refl _⟩) hB.2.1 (fun v22 H22 locs hp hz hS => ?_)
  have hRD := hR
  obtain ⟨rfl, hI1, hf, hR, z22_0, z22_1⟩ := hp
  have hRc22 := hR
  have hR := hRD
  have hRC := hRc22.1
  have hB := th_B_c hB hI1 hS hf (by decide)
  have mm6 := (th_F_o hf h0 ro_46 (j := 2) (by decide) (by decide)).trans mb1
  replace hF := hF.trans (dv_bn2 (z22_1))
  refine W.eq (g2 := F0 m 25 ls []) rfl ?_
  have hR : th_RK a0 G Γ H22 := ⟨hRC, by rw [z22_0]; exact mo_kg_29 hR.2 (fun i hi => by rw [mo_un (by omega), mo_un (by omega)]) (mo_geo_sb (mo_sb_ro mo_sb_rf (by omega) (by omega)) hR.2.2.1)⟩
  refine lv_aload_n hx hb dX12_isMovable_25 rfl (lv_at hl 2 rfl) ?_
  refine lv_iconst (v := 0) hx hb dX12_isMovable_26 (by decide) ?_
  refine th_call (th_runV (As := [.int 0]) (rest := []) hC mf_X12_fillsNow km_X12_445 im_X12_fillsNow se_X12_fillsNow (c_X12_fillsNow l G Γ H22 hB.1 hU a0 h0 hR 0 (by decide) (by decide)) rfl rfl ⟨Nat.le_of_ble_eq_true rfl, Nat.le_of_ble_eq_true rfl⟩ hB.1 h0 ro_46 rfl rfl hl.1 rfl (Nat.le_of_ble_eq_true rfl) dX12_isMovable_27 ⟨Nat.le_refl _, Nat.le_refl _⟩) hB.2.1 (fun v27 H27 locs hp hz hS => ?_)
  obtain ⟨rfl, hI1, hf, hR, z27_0⟩ := hp
  have hB := th_B_c hB hI1 hS hf (by decide)
  have mm7 := (th_F_o hf h0 ro_46 (j := 2) (by decide) (by decide)).trans mm6
  have vv_H27_2 : mo_v G H27 a0 2 = mo_v G H22 a0 2 := mo_v_F (r := 48) hB.1 hf h0 rfl ro_48 (by decide) (by decide)
  have zf27 := z27_0
  rw [tk_0] at zf27
  replace hF := hF.trans (dv_bn2 (zf27))
  refine W.eq (g2 := F0 m 30 ls []) rfl ?_
  refine lv_aload_n hx hb dX12_isMovable_30 rfl (lv_at hl 2 rfl) ?_
  refine th_getK hC cf_X12 hB.1 h0 ro_46 rfl (j := 2) (by decide) mm7 kf_X12_28 dX12_isMovable_31 ?_
  refine lv_bipush (v := 9) hx hb dX12_isMovable_34 (by decide) ?_
  refine lv_iload_n hx hb dX12_isMovable_36 rfl (lv_at hl 3 rfl) ?_
  refine tr_iadd hx hb dX12_isMovable_37 tk_9 (Eq.refl _) (by omega) (by omega) (fun x8 ex8 => ?_)
  replace hF := hF.trans (dv_bn (ex8.symm))
  refine lv_iload_n hx hb dX12_isMovable_38 rfl (lv_at hl 1 rfl) ?_
  have hIo := hB.1
  refine th_iastF hC hB hb1 (Or.inl hb1) ro_48 rfl (by decide) (Eq.refl _) (by omega) (by omega) (by rw [(ek_a (by omega) (by omega))]; exact th_sIa) dX12_isMovable_39 (fun H39 locs hB hf39 hst39 => ?_)
  have hf := hf39
  have mm9 := (th_F_o hf h0 ro_46 (j := 2) (by decide) (by decide)).trans mm7
  have hRC := th_RC_F hB.1 hR.1 hf (th_T_s hb1 ro_48 hst39) (by decide)
  replace hF := hF.trans (dv_bn (dv_stoI hIo hB.1 hU hb1 ow_48 (i := x8.toInt) hst39 (Eq.refl _) (by omega)))
  have vs39 : mo_v G H39 a0 2 = mo_u (mo_v G H27 a0 2) (9 + p1.toInt) x3.toInt := by rw [show ((9 + p1.toInt) : Int) = x8.toInt by omega]; exact mo_v_st h0 hb1 (by decide) mm7 hst39 (by omega)
  refine lv_aload_n hx hb dX12_isMovable_40 rfl (lv_at hl 2 rfl) ?_
  refine th_getK hC cf_X12 hB.1 h0 ro_46 rfl (j := 2) (by decide) mm9 kf_X12_28 dX12_isMovable_41 ?_
  refine lv_bipush (v := 18) hx hb dX12_isMovable_44 (by decide) ?_
  refine lv_iload_n hx hb dX12_isMovable_46 rfl (lv_at hl 3 rfl) ?_
  refine tr_iadd hx hb dX12_isMovable_47 tk_18 (Eq.refl _) (by omega) (by omega) (fun x10 ex10 => ?_)
  replace hF := hF.trans (dv_bn (ex10.symm))
  refine lv_iload_n hx hb dX12_isMovable_48 rfl (lv_at hl 0 rfl) ?_
  have hIo := hB.1
  refine th_iastF hC hB hb1 (Or.inl hb1) ro_48 rfl (by decide) (Eq.refl _) (by omega) (by omega) (by rw [(ek_a (by omega) (by omega))]; exact th_sIa) dX12_isMovable_49 (fun H49 locs hB hf49 hst49 => ?_)
  have hf := hf49
  have mm11 := (th_F_o hf h0 ro_46 (j := 2) (by decide) (by decide)).trans mm9
  have hRC := th_RC_F hB.1 hRC hf (th_T_s hb1 ro_48 hst49) (by decide)
  replace hF := hF.trans (dv_bn (dv_stoI hIo hB.1 hU hb1 ow_48 (i := x10.toInt) hst49 (Eq.refl _) (by omega)))
  have vs49 : mo_v G H49 a0 2 = mo_u (mo_v G H39 a0 2) (18 + p1.toInt) x5.toInt := by rw [show ((18 + p1.toInt) : Int) = x10.toInt by omega]; exact mo_v_st h0 hb1 (by decide) mm9 hst49 (by omega)
  have eqv : mo_v G H49 a0 2 = mo_v G H0 a0 2 := by rw [vs49, vs39, vv_H27_2, z22_0]; funext z; by_cases qa : z = 18 + p1.toInt; rw [mo_us qa, qa]; omega; rw [mo_un qa]; by_cases qb : z = 9 + p1.toInt; rw [mo_us qb, qb]; omega; rw [mo_un qb, mo_un qa, mo_un qb]
  have hR : th_RK a0 G Γ H49 := ⟨hRC, by rw [eqv]; exact hR0.2⟩
  refine lv_aload_n hx hb dX12_isMovable_50 rfl (lv_at hl 2 rfl) ?_
  refine th_getI (j := 41) hC cf_X12 hB.1 h0 ro_46 rfl rfl kf_X12_406 dX12_isMovable_51 (fun x12 mx12 lx12 ux12 => ?_)
  replace hF := hF.trans (dv_bn (dv_getI h0 ro_46 (j := 41) rfl mx12 (by decide)))
  refine lv_iconst (v := 1) hx hb dX12_isMovable_54 (by decide) ?_
  refine tr_icmp_ne (tgt := 80) hx hb dX12_isMovable_55 (by decide) (Eq.refl _) tk_1 (fun c55 => ?_) (fun c55 => ?_)
  · replace hF := hF.trans (if_pos c55)
    refine lv_iconst (v := 0) hx hb dX12_isMovable_80 (by decide) ?_
    exact th_iret hC hH hr hlocks narrow_b0 hB.2.1 ⟨_, rfl, by decide, by decide, hB.1, hB.2.2, hR, eqv, (hF0.symm.trans (hF.trans (by rw [tk_0])))⟩ dX12_isMovable_81
  · replace hF := hF.trans (if_neg (not_not_intro c55))
    refine lv_aload_n hx hb dX12_isMovable_58 rfl (lv_at hl 2 rfl) ?_
    refine th_getI (j := 42) hC cf_X12 hB.1 h0 ro_46 rfl rfl kf_X12_415 dX12_isMovable_59 (fun x13 mx13 lx13 ux13 => ?_)
    replace hF := hF.trans (dv_bn (dv_getI h0 ro_46 (j := 42) rfl mx13 (by decide)))
    refine lv_iconst (v := 1) hx hb dX12_isMovable_62 (by decide) ?_
    refine tr_icmp_ne (tgt := 76) hx hb dX12_isMovable_63 (by decide) (Eq.refl _) tk_1 (fun c63 => ?_) (fun c63 => ?_)
    · replace hF := hF.trans (if_pos c63)
      refine lv_iconst (v := 1) hx hb dX12_isMovable_76 (by decide) ?_
      refine lv_goto (tgt := 81) hx hb dX12_isMovable_77 (by decide) ?_
      exact th_iret hC hH hr hlocks narrow_b1 hB.2.1 ⟨_, rfl, by decide, by decide, hB.1, hB.2.2, hR, eqv, (hF0.symm.trans (hF.trans (by rw [tk_1])))⟩ dX12_isMovable_81
    · replace hF := hF.trans (if_neg (not_not_intro c63))
      refine lv_aload_n hx hb dX12_isMovable_66 rfl (lv_at hl 2 rfl) ?_
      refine th_getO (j := 37) (r2 := 66) hC cf_X12 hB.1 h0 ro_46 rfl rfl kf_X12_87 dX12_isMovable_67 (fun b14 mb14 hb14 => ?_)
      refine lv_iconst (v := 0) hx hb dX12_isMovable_70 (by decide) ?_
      refine th_ialdF hC hB.1 hb14 ro_66 rfl tk_0 (by omega) (by omega) rfl dX12_isMovable_71 (fun x15 mx15 lx15 ux15 => ?_)
      replace hF := hF.trans (dv_bn (dv_aldI hB.1 hU hb14 ow_66 (z := 0) mx15 (by omega)))
      refine lv_iload_n hx hb dX12_isMovable_72 rfl (lv_at hl 3 rfl) ?_
      refine tr_icmp_eq (tgt := 80) hx hb dX12_isMovable_73 (by decide) (Eq.refl _) (Eq.refl _) (fun c73 => ?_) (fun c73 => ?_)
      · replace hF := hF.trans (if_pos c73)
        refine lv_iconst (v := 0) hx hb dX12_isMovable_80 (by decide) ?_
        exact th_iret hC hH hr hlocks narrow_b0 hB.2.1 ⟨_, rfl, by decide, by decide, hB.1, hB.2.2, hR, eqv, (hF0.symm.trans (hF.trans (by rw [tk_0])))⟩ dX12_isMovable_81
      · replace hF := hF.trans (if_neg c73)
        refine lv_iconst (v := 1) hx hb dX12_isMovable_76 (by decide) ?_
        refine lv_goto (tgt := 81) hx hb dX12_isMovable_77 (by decide) ?_
        exact th_iret hC hH hr hlocks narrow_b1 hB.2.1 ⟨_, rfl, by decide, by decide, hB.1, hB.2.2, hR, eqv, (hF0.symm.trans (hF.trans (by rw [tk_1])))⟩ dX12_isMovable_81

set_option maxHeartbeats 4000000 in
set_option maxRecDepth 100000 in
theorem c_X12_free (l : Launch) (G : th_G) (Γ : th_Ga) (H0 : Heap) (hI : th_I G Γ H0) (hU : dv_U Γ) (a0 : Nat) (h0 : Γ a0 = (46, 0)) (hR : th_RN a0 G Γ H0) : Met l yX12_free (.code yX12_free cX12_free 3 (some FieldType.int) :: th_tb) ({ frames := 55, cells := 0, slots := 0, locals := 1720 } : Room) (th_P [.ref a0] G H0) (th_Q (fun (v : Option Value) (H1 : Heap) => ∃ r : Int32, v = some (.int r) ∧ th_I G Γ H1 ∧ th_F G Γ [(46, 41), (46, 42), (46, 43), (67, 0), (66, 0), (59, 0), (64, 0), (65, 0), (46, 39), (46, 40), (63, 0), (46, 44), (46, 45), (46, 22), (46, 24), (58, 0), (46, 23), (46, 25), (48, 0)] H0 H1 ∧ th_RN a0 G Γ H1 ∧ (f_X12_free (dv G Γ H0) (a0 : Int) = (dv G Γ H1, r.toInt))) G) 0 0 (fun q => G.2.2 ≤ q) := by
  refine th_met RX12 (by decide) rfl (Nat.le_of_ble_eq_true rfl) ?_
  intro p e s m below meth c hC hH hr hlocks hnm ls hl
  have hx := hC.1
  have hb := hC.2.1
  have hB : th_B G Γ Γ [(46, 41), (46, 42), (46, 43), (67, 0), (66, 0), (59, 0), (64, 0), (65, 0), (46, 39), (46, 40), (63, 0), (46, 44), (46, 45), (46, 22), (46, 24), (58, 0), (46, 23), (46, 25), (48, 0)] H0 H0 [] := ⟨hI, va_S.rf, th_F_rf⟩
  have hl : lv_has ls 3 [(0, .ref a0)] := hl
  obtain ⟨F, hF0⟩ : ∃ F, F = f_X12_free (dv G Γ H0) ((a0 : Int)) := ⟨_, rfl⟩
  have hF := hF0.trans (f_X12_free.eq_1 (dv G Γ H0) ((a0 : Int)))
  refine lv_iconst (v := 0) hx hb dX12_free_0 (by decide) ?_
  refine lv_istore_n (lv' := [(1, .int 0), (0, .ref a0)]) hx hb dX12_free_1 rfl hl (by decide) rfl (fun ls hl => ?_)
  refine lv_iconst (v := 0) hx hb dX12_free_2 (by decide) ?_
  refine lv_istore_n (lv' := [(2, .int 0), (1, .int 0), (0, .ref a0)]) hx hb dX12_free_3 rfl hl (by decide) rfl (fun ls hl => ?_)
  have lp4 : ∀ (n4 : Nat) (H4 : Heap) (locs : List Loc) (ls : Array Slot) (j4_1 : Int32) (j4_2 : Int32), th_B G Γ Γ [(46, 41), (46, 42), (46, 43), (67, 0), (66, 0), (59, 0), (64, 0), (65, 0), (46, 39), (46, 40), (63, 0), (46, 44), (46, 45), (46, 22), (46, 24), (58, 0), (46, 23), (46, 25), (48, 0)] H0 H4 locs → th_RN a0 G Γ H4 → lv_has ls 3 [(0, .ref a0), (1, .int j4_1), (2, .int j4_2)] → F = dv_lp f_X12_free_4b (dv G Γ H4, (a0 : Int), j4_1.toInt, j4_2.toInt) → 0 ≤ j4_2.toInt → j4_2.toInt ≤ 9 → (2147483648 : Int) - j4_2.toInt ≤ (n4 : Int) → W p l e ({ frames := 55, cells := 0, slots := 0, locals := 1720 } : Room) s m ([.ref a0] : List Value).toArray below meth c H4 locs 0 0 (MQ below (th_Q (fun (v : Option Value) (H1 : Heap) => ∃ r : Int32, v = some (.int r) ∧ th_I G Γ H1 ∧ th_F G Γ [(46, 41), (46, 42), (46, 43), (67, 0), (66, 0), (59, 0), (64, 0), (65, 0), (46, 39), (46, 40), (63, 0), (46, 44), (46, 45), (46, 22), (46, 24), (58, 0), (46, 23), (46, 25), (48, 0)] H0 H1 ∧ th_RN a0 G Γ H1 ∧ (f_X12_free (dv G Γ H0) (a0 : Int) = (dv G Γ H1, r.toInt))) G) ([.ref a0] : List Value).toArray s 0 0 (fun q => G.2.2 ≤ q)) (F0 m 4 ls []) := by
    intro n4
    induction n4 with
    | zero => intro H4 locs ls j4_1 j4_2 hB hR hl hF g4_0 g4_1 hm4; exact absurd hm4 (by have := ti_hi j4_2; omega)
    | succ n4 ih4 =>
      intro H4 locs ls j4_1 j4_2 hB hR hl hF g4_0 g4_1 hm4
      have lj4_1 := ti_lo j4_1; have uj4_1 := ti_hi j4_1
      have lj4_2 := ti_lo j4_2; have uj4_2 := ti_hi j4_2
      have fv1_33 : mo_f G H4 a0 33 = mo_f G H0 a0 33 := mo_f_F hB.2.2 h0 (by decide) (by decide)
      have vw_H4_3 : mo_v G H4 a0 3 = mo_v G H0 a0 3 := mo_v_F (r := 49) hB.1 hB.2.2 h0 rfl ro_49 (by decide) (by decide)
      have vw_H4_4 : mo_v G H4 a0 4 = mo_v G H0 a0 4 := mo_v_F (r := 50) hB.1 hB.2.2 h0 rfl ro_50 (by decide) (by decide)
      have vw_H4_31 : mo_v G H4 a0 31 = mo_v G H0 a0 31 := mo_v_F (r := 61) hB.1 hB.2.2 h0 rfl ro_61 (by decide) (by decide)
      have hm4 : (2147483648 : Int) - j4_2.toInt ≤ (n4 : Int) + 1 := by omega
      replace hF := hF.trans (dv_lp_eq)
      replace hF := hF.trans (congrArg (dv_k f_X12_free_4b) (f_X12_free_4c.eq_1 (dv G Γ H4) ((a0 : Int)) (j4_1.toInt) (j4_2.toInt)))
      refine lv_iload_n hx hb dX12_free_4 rfl (lv_at hl 2 rfl) ?_
      refine lv_aload_n hx hb dX12_free_5 rfl (lv_at hl 0 rfl) ?_
      refine th_call (th_runV (As := []) (rest := [.int j4_2]) hC mf_X12_many km_X12_115 im_X12_many se_X12_many (c_X12_many l G Γ H4 hB.1 hU a0 h0) rfl rfl ⟨Nat.le_of_ble_eq_true rfl, Nat.le_of_ble_eq_true rfl⟩ hB.1 h0 ro_46 rfl rfl hl.1 rfl (Nat.le_of_ble_eq_true rfl) dX12_free_6 ⟨Nat.le_refl _, Nat.le_refl _⟩) hB.2.1 (fun v6 H6 locs hp hz hS => ?_)
      obtain ⟨x2, rfl, lx2, ux2, q6_0, q6_1, rfl⟩ := hp
      have hB := th_B_s hB hS
      replace hF := hF.trans (congrArg (dv_k f_X12_free_4b) (dv_bn2 (q6_1)))
      refine W.eq (g2 := F0 m 9 ls [.int x2, .int j4_2]) rfl ?_
      refine tr_icmp_ge (tgt := 44) hx hb dX12_free_9 (by decide) (Eq.refl _) (Eq.refl _) (fun c9 => ?_) (fun c9 => ?_)
      · replace hF := hF.trans (congrArg (dv_k f_X12_free_4b) (if_pos c9))
        refine lv_iload_n hx hb dX12_free_44 rfl (lv_at hl 1 rfl) ?_
        replace hF := hF.trans (dv_kr)
        exact th_iret hC hH hr hlocks rfl hB.2.1 ⟨_, rfl, hB.1, hB.2.2, hR, (hF0.symm.trans hF)⟩ dX12_free_45
      · replace hF := hF.trans (congrArg (dv_k f_X12_free_4b) (if_neg (Int.not_le.mpr c9)))
        refine lv_iload_n hx hb dX12_free_12 rfl (lv_at hl 1 rfl) ?_
        refine lv_aload_n hx hb dX12_free_13 rfl (lv_at hl 0 rfl) ?_
        refine lv_iload_n hx hb dX12_free_14 rfl (lv_at hl 2 rfl) ?_
        refine th_call (th_runV (As := [.int j4_2]) (rest := [.int j4_1]) hC mf_X12_isLaid km_X12_137 im_X12_isLaid se_X12_isLaid (c_X12_isLaid l G Γ H4 hB.1 hU a0 h0 j4_2 (by omega) (by omega)) rfl rfl ⟨Nat.le_of_ble_eq_true rfl, Nat.le_of_ble_eq_true rfl⟩ hB.1 h0 ro_46 rfl rfl hl.1 rfl (Nat.le_of_ble_eq_true rfl) dX12_free_15 ⟨Nat.le_refl _, Nat.le_refl _⟩) hB.2.1 (fun v15 H15 locs hp hz hS => ?_)
        obtain ⟨x3, rfl, lx3, ux3, q15_0, q15_1, q15_2, rfl⟩ := hp
        have hB := th_B_s hB hS
        replace hF := hF.trans (congrArg (dv_k f_X12_free_4b) (dv_bn2 (q15_2)))
        refine W.eq (g2 := F0 m 18 ls [.int x3, .int j4_1]) rfl ?_
        refine tr_if_eq (tgt := 35) hx hb dX12_free_18 (by decide) (Eq.refl _) (fun c18 => ?_) (fun c18 => ?_)
        · replace hF := hF.trans (congrArg (dv_k f_X12_free_4b) (if_pos c18))
          refine lv_iconst (v := 0) hx hb dX12_free_35 (by decide) ?_
          refine lv_ior hx hb dX12_free_36 ?_
          refine lv_topi (fun x4 ex4 => ?_)
          have lx4 := ti_lo x4; have ux4 := ti_hi x4
          replace hF := hF.trans (congrArg (dv_k f_X12_free_4b) (dv_bn (dv_or_e (Eq.refl _) tk_0 ex4)))
          refine lv_istore_n (lv' := [(1, .int x4), (0, .ref a0), (2, .int j4_2)]) hx hb dX12_free_37 rfl hl (by decide) rfl (fun ls hl => ?_)
          refine tr_iinc (fun x5 => [(2, .int x5), (1, .int x4), (0, .ref a0)]) hx hb dX12_free_38 hl (k := 2) rfl (Eq.refl _) tk_1 (by omega) (by omega) (by decide) (fun _ => rfl) (fun x5 ls ex5 hl => ?_)
          replace hF := hF.trans (congrArg (dv_k f_X12_free_4b) (dv_bn (ex5.symm)))
          refine lv_goto (tgt := 4) hx hb dX12_free_41 (by decide) ?_
          replace hF := hF.trans (dv_kl)
          exact ih4 H4 locs ls x4 x5 hB hR (lv_sub hl [2, 1, 0] rfl) hF (by omega) (by omega) (by omega)
        · replace hF := hF.trans (congrArg (dv_k f_X12_free_4b) (if_neg c18))
          refine lv_aload_n hx hb dX12_free_21 rfl (lv_at hl 0 rfl) ?_
          refine lv_iload_n hx hb dX12_free_22 rfl (lv_at hl 2 rfl) ?_
          refine th_call (th_runV (As := [.int j4_2]) (rest := [.int j4_1]) hC mf_X12_isMovable km_X12_452 im_X12_isMovable se_X12_isMovable (c_X12_isMovable l G Γ H4 hB.1 hU a0 h0 (th_NK hR) j4_2 (by omega) (by omega)) rfl rfl ⟨Nat.le_of_ble_eq_true rfl, Nat.le_of_ble_eq_true rfl⟩ hB.1 h0 ro_46 rfl rfl hl.1 rfl (Nat.le_of_ble_eq_true rfl) dX12_free_23 ⟨Nat.le_refl _, Nat.le_refl _⟩) hB.2.1 (fun v23 H23 locs hp hz hS => ?_)
          have hRD := hR
          obtain ⟨x6, rfl, lx6, ux6, hI1, hf, hR, z23_0, z23_1⟩ := hp
          have hRc23 := hR
          have hR := hRD
          have hRC := hRc23.1
          have hB := th_B_c hB hI1 hS hf (by decide)
          have fv_H23_33 : mo_f G H23 a0 33 = mo_f G H4 a0 33 := mo_f_F hf h0 (by decide) (by decide)
          have vv_H23_3 : mo_v G H23 a0 3 = mo_v G H4 a0 3 := mo_v_F (r := 49) hB.1 hf h0 rfl ro_49 (by decide) (by decide)
          have vv_H23_4 : mo_v G H23 a0 4 = mo_v G H4 a0 4 := mo_v_F (r := 50) hB.1 hf h0 rfl ro_50 (by decide) (by decide)
          have vv_H23_31 : mo_v G H23 a0 31 = mo_v G H4 a0 31 := mo_v_F (r := 61) hB.1 hf h0 rfl ro_61 (by decide) (by decide)
          replace hF := hF.trans (congrArg (dv_k f_X12_free_4b) (dv_bn2 (z23_1)))
          refine W.eq (g2 := F0 m 26 ls [.int x6, .int j4_1]) rfl ?_
          have hR : th_RN a0 G Γ H23 := ⟨hRC, by rw [z23_0, vv_H23_3, vv_H23_4, vv_H23_31, fv_H23_33]; exact hR.2⟩
          refine tr_if_eq (tgt := 35) hx hb dX12_free_26 (by decide) (Eq.refl _) (fun c26 => ?_) (fun c26 => ?_)
          · replace hF := hF.trans (congrArg (dv_k f_X12_free_4b) (if_pos c26))
            refine lv_iconst (v := 0) hx hb dX12_free_35 (by decide) ?_
            refine lv_ior hx hb dX12_free_36 ?_
            refine lv_topi (fun x7 ex7 => ?_)
            have lx7 := ti_lo x7; have ux7 := ti_hi x7
            replace hF := hF.trans (congrArg (dv_k f_X12_free_4b) (dv_bn (dv_or_e (Eq.refl _) tk_0 ex7)))
            refine lv_istore_n (lv' := [(1, .int x7), (0, .ref a0), (2, .int j4_2)]) hx hb dX12_free_37 rfl hl (by decide) rfl (fun ls hl => ?_)
            refine tr_iinc (fun x8 => [(2, .int x8), (1, .int x7), (0, .ref a0)]) hx hb dX12_free_38 hl (k := 2) rfl (Eq.refl _) tk_1 (by omega) (by omega) (by decide) (fun _ => rfl) (fun x8 ls ex8 hl => ?_)
            replace hF := hF.trans (congrArg (dv_k f_X12_free_4b) (dv_bn (ex8.symm)))
            refine lv_goto (tgt := 4) hx hb dX12_free_41 (by decide) ?_
            replace hF := hF.trans (dv_kl)
            exact ih4 H23 locs ls x7 x8 hB hR (lv_sub hl [2, 1, 0] rfl) hF (by omega) (by omega) (by omega)
          · replace hF := hF.trans (congrArg (dv_k f_X12_free_4b) (if_neg c26))
            refine lv_iconst (v := 1) hx hb dX12_free_29 (by decide) ?_
            refine lv_iload_n hx hb dX12_free_30 rfl (lv_at hl 2 rfl) ?_
            refine lv_ishl hx hb dX12_free_31 ?_
            refine lv_topi (fun x9 ex9 => ?_)
            have lx9 := ti_lo x9; have ux9 := ti_hi x9
            replace hF := hF.trans (congrArg (dv_k f_X12_free_4b) (dv_bn (dv_shl_e tk_1 (Eq.refl _) ex9)))
            refine lv_goto (tgt := 36) hx hb dX12_free_32 (by decide) ?_
            refine lv_ior hx hb dX12_free_36 ?_
            refine lv_topi (fun x10 ex10 => ?_)
            have lx10 := ti_lo x10; have ux10 := ti_hi x10
            replace hF := hF.trans (congrArg (dv_k f_X12_free_4b) (dv_bn (dv_or_e (Eq.refl _) (Eq.refl _) ex10)))
            refine lv_istore_n (lv' := [(1, .int x10), (0, .ref a0), (2, .int j4_2)]) hx hb dX12_free_37 rfl hl (by decide) rfl (fun ls hl => ?_)
            refine tr_iinc (fun x11 => [(2, .int x11), (1, .int x10), (0, .ref a0)]) hx hb dX12_free_38 hl (k := 2) rfl (Eq.refl _) tk_1 (by omega) (by omega) (by decide) (fun _ => rfl) (fun x11 ls ex11 hl => ?_)
            replace hF := hF.trans (congrArg (dv_k f_X12_free_4b) (dv_bn (ex11.symm)))
            refine lv_goto (tgt := 4) hx hb dX12_free_41 (by decide) ?_
            replace hF := hF.trans (dv_kl)
            exact ih4 H23 locs ls x10 x11 hB hR (lv_sub hl [2, 1, 0] rfl) hF (by omega) (by omega) (by omega)
  exact lp4 ((2147483648 : Int) - (0)).toNat H0 [] ls 0 0 hB hR (lv_sub hl [2, 1, 0] rfl) (by rw [tk_0]; exact hF) (by decide) (by decide) (by have w0 := tk_0; omega)

set_option maxHeartbeats 4000000 in
set_option maxRecDepth 100000 in
theorem c_X12_compare (l : Launch) (G : th_G) (Γ : th_Ga) (H0 : Heap) (hI : th_I G Γ H0) (hU : dv_U Γ) (a0 : Nat) (h0 : Γ a0 = (46, 0)) (hR : th_RN a0 G Γ H0) (p1 : Int32) : Met l yX12_compare (.code yX12_compare cX12_compare 4 (some FieldType.int) :: th_tb) ({ frames := 55, cells := 0, slots := 0, locals := 1717 } : Room) (th_P [.ref a0, .int p1] G H0) (th_Q (fun (v : Option Value) (H1 : Heap) => ∃ r : Int32, v = some (.int r) ∧ th_I G Γ H1 ∧ th_F G Γ [(46, 41), (46, 42), (46, 43), (67, 0), (66, 0), (59, 0), (64, 0), (65, 0), (46, 39), (46, 40), (63, 0), (46, 44), (46, 45), (46, 22), (46, 24), (58, 0), (46, 23), (46, 25), (48, 0)] H0 H1 ∧ th_RN a0 G Γ H1 ∧ (f_X12_compare (dv G Γ H0) (a0 : Int) p1.toInt = (dv G Γ H1, r.toInt))) G) 0 0 (fun q => G.2.2 ≤ q) := by
  refine th_met RX12 (by decide) rfl (Nat.le_of_ble_eq_true rfl) ?_
  intro p e s m below meth c hC hH hr hlocks hnm ls hl
  have hx := hC.1
  have hb := hC.2.1
  have hB : th_B G Γ Γ [(46, 41), (46, 42), (46, 43), (67, 0), (66, 0), (59, 0), (64, 0), (65, 0), (46, 39), (46, 40), (63, 0), (46, 44), (46, 45), (46, 22), (46, 24), (58, 0), (46, 23), (46, 25), (48, 0)] H0 H0 [] := ⟨hI, va_S.rf, th_F_rf⟩
  have hl : lv_has ls 4 [(0, .ref a0), (1, .int p1)] := hl
  have lp1 := ti_lo p1; have up1 := ti_hi p1
  obtain ⟨F, hF0⟩ : ∃ F, F = f_X12_compare (dv G Γ H0) ((a0 : Int)) (p1.toInt) := ⟨_, rfl⟩
  have hF := hF0.trans (f_X12_compare.eq_1 (dv G Γ H0) ((a0 : Int)) (p1.toInt))
  refine lv_aload_n hx hb dX12_compare_0 rfl (lv_at hl 0 rfl) ?_
  have f0 := hR.2.1.1.1
  refine lv_iload_n hx hb dX12_compare_1 rfl (lv_at hl 1 rfl) ?_
  refine th_call (th_runV (As := [.int p1]) (rest := []) hC mf_X12_isLaw km_X12_275 im_X12_isLaw se_X12_isLaw (c_X12_isLaw l G Γ H0 hB.1 hU a0 h0 p1) rfl rfl ⟨Nat.le_of_ble_eq_true rfl, Nat.le_of_ble_eq_true rfl⟩ hB.1 h0 ro_46 rfl rfl hl.1 rfl (Nat.le_of_ble_eq_true rfl) dX12_compare_2 ⟨Nat.le_refl _, Nat.le_refl _⟩) hB.2.1 (fun v2 H2 locs hp hz hS => ?_)
  obtain ⟨x1, rfl, lx1, ux1, q2_0, q2_1, rfl⟩ := hp
  have hB := th_B_s hB hS
  replace hF := hF.trans (dv_bn2 (q2_1))
  refine W.eq (g2 := F0 m 5 ls [.int x1]) rfl ?_
  refine tr_if_ne (tgt := 10) hx hb dX12_compare_5 (by decide) (Eq.refl _) (fun c5 => ?_) (fun c5 => ?_)
  · replace hF := hF.trans (if_pos c5)
    refine lv_aload_n hx hb dX12_compare_10 rfl (lv_at hl 0 rfl) ?_
    refine th_getO (j := 2) (r2 := 48) hC cf_X12 hB.1 h0 ro_46 rfl rfl kf_X12_28 dX12_compare_11 (fun b2 mb2 hb2 => ?_)
    refine lv_bipush (v := 72) hx hb dX12_compare_14 (by decide) ?_
    refine th_ialdF hC hB.1 hb2 ro_48 rfl tk_72 (by omega) (by omega) (ek_force (by omega) (by omega)) dX12_compare_16 (fun x3 mx3 lx3 ux3 => ?_)
    replace hF := hF.trans (dv_bn (dv_aldI hB.1 hU hb2 ow_48 (z := 72) mx3 (by omega)))
    have vgx3 : mo_v G H0 a0 2 72 = x3.toInt := by rw [show (72 : Int) = 72 by omega]; exact mo_vat mb2 mx3 (by omega)
    refine lv_istore_n (lv' := [(2, .int x3), (0, .ref a0), (1, .int p1)]) hx hb dX12_compare_17 rfl hl (by decide) rfl (fun ls hl => ?_)
    refine lv_aload_n hx hb dX12_compare_18 rfl (lv_at hl 1 rfl) ?_
    refine th_getK hC cf_X12 hB.1 h0 ro_46 rfl (j := 2) (by decide) mb2 kf_X12_28 dX12_compare_19 ?_
    refine lv_bipush (v := 72) hx hb dX12_compare_22 (by decide) ?_
    refine lv_iload_n hx hb dX12_compare_24 rfl (lv_at hl 2 rfl) ?_
    have hIo := hB.1
    refine th_iastF hC hB hb2 (Or.inl hb2) ro_48 rfl (by decide) tk_72 (by omega) (by omega) (by rw [(ek_force (by omega) (by omega))]; exact (th_sI (by omega) (by omega))) dX12_compare_25 (fun H25 locs hB hf25 hst25 => ?_)
    have hf := hf25
    have mm4 := (th_F_o hf h0 ro_46 (j := 2) (by decide) (by decide)).trans mb2
    have hRC := th_RC_F hB.1 hR.1 hf (th_T_s hb2 ro_48 hst25) (by decide)
    have fv_H25_33 : mo_f G H25 a0 33 = mo_f G H0 a0 33 := mo_f_F hf h0 (by decide) (by decide)
    have vv_H25_3 : mo_v G H25 a0 3 = mo_v G H0 a0 3 := mo_v_F (r := 49) hB.1 hf h0 rfl ro_49 (by decide) (by decide)
    have vv_H25_4 : mo_v G H25 a0 4 = mo_v G H0 a0 4 := mo_v_F (r := 50) hB.1 hf h0 rfl ro_50 (by decide) (by decide)
    have vv_H25_31 : mo_v G H25 a0 31 = mo_v G H0 a0 31 := mo_v_F (r := 61) hB.1 hf h0 rfl ro_61 (by decide) (by decide)
    replace hF := hF.trans (dv_bn (dv_stoI hIo hB.1 hU hb2 ow_48 (i := 72) hst25 (Eq.refl _) (by omega)))
    have vs25 : mo_v G H25 a0 2 = mo_u (mo_v G H0 a0 2) 72 p1.toInt := by rw [show (72 : Int) = 72 by omega]; exact mo_v_st h0 hb2 (by decide) mb2 hst25 (by omega)
    have hR : th_RN a0 G Γ H25 := ⟨hRC, by rw [vs25, vv_H25_3, vv_H25_4, vv_H25_31, fv_H25_33]; exact mo_ok_f hR.2 (by omega)⟩
    refine lv_aload_n hx hb dX12_compare_26 rfl (lv_at hl 1 rfl) ?_
    refine th_call (th_runV (As := []) (rest := []) hC mf_X12_cheapest km_X12_449 im_X12_cheapest se_X12_cheapest (c_X12_cheapest l G Γ H25 hB.1 hU a0 h0 (th_NK hR)) rfl rfl ⟨Nat.le_of_ble_eq_true rfl, Nat.le_of_ble_eq_true rfl⟩ hB.1 h0 ro_46 rfl rfl hl.1 rfl (Nat.le_of_ble_eq_true rfl) dX12_compare_27 ⟨Nat.le_refl _, Nat.le_refl _⟩) hB.2.1 (fun v27 H27 locs hp hz hS => ?_)
    have hRD := hR
    obtain ⟨x5, rfl, hI1, hf, hR, z27_0⟩ := hp
    have hR := th_RN_c hR.1 hRD hI1 h0 hf (by decide)
    have hB := th_B_c hB hI1 hS hf (by decide)
    have mm6 := (th_F_o hf h0 ro_46 (j := 2) (by decide) (by decide)).trans mm4
    have fv_H27_33 : mo_f G H27 a0 33 = mo_f G H25 a0 33 := mo_f_F hf h0 (by decide) (by decide)
    have vv_H27_2 : mo_v G H27 a0 2 = mo_v G H25 a0 2 := mo_v_F (r := 48) hB.1 hf h0 rfl ro_48 (by decide) (by decide)
    have vv_H27_3 : mo_v G H27 a0 3 = mo_v G H25 a0 3 := mo_v_F (r := 49) hB.1 hf h0 rfl ro_49 (by decide) (by decide)
    have vv_H27_4 : mo_v G H27 a0 4 = mo_v G H25 a0 4 := mo_v_F (r := 50) hB.1 hf h0 rfl ro_50 (by decide) (by decide)
    have vv_H27_31 : mo_v G H27 a0 31 = mo_v G H25 a0 31 := mo_v_F (r := 61) hB.1 hf h0 rfl ro_61 (by decide) (by decide)
    replace hF := hF.trans (dv_bn2 (z27_0))
    refine W.eq (g2 := F0 m 30 ls [.int x5]) rfl ?_
    refine lv_istore_n (lv' := [(3, .int x5), (2, .int x3), (0, .ref a0), (1, .int p1)]) hx hb dX12_compare_30 rfl hl (by decide) rfl (fun ls hl => ?_)
    refine lv_aload_n hx hb dX12_compare_31 rfl (lv_at hl 2 rfl) ?_
    refine th_getK hC cf_X12 hB.1 h0 ro_46 rfl (j := 2) (by decide) mm6 kf_X12_28 dX12_compare_32 ?_
    refine lv_bipush (v := 72) hx hb dX12_compare_35 (by decide) ?_
    refine lv_iload_n hx hb dX12_compare_37 rfl (lv_at hl 1 rfl) ?_
    have hIo := hB.1
    refine th_iastF hC hB hb2 (Or.inl hb2) ro_48 rfl (by decide) tk_72 (by omega) (by omega) (by rw [(ek_force (by omega) (by omega))]; exact (th_sI (by omega) (by omega))) dX12_compare_38 (fun H38 locs hB hf38 hst38 => ?_)
    have hf := hf38
    have mm7 := (th_F_o hf h0 ro_46 (j := 2) (by decide) (by decide)).trans mm6
    have hRC := th_RC_F hB.1 hR.1 hf (th_T_s hb2 ro_48 hst38) (by decide)
    have fv_H38_33 : mo_f G H38 a0 33 = mo_f G H27 a0 33 := mo_f_F hf h0 (by decide) (by decide)
    have vv_H38_3 : mo_v G H38 a0 3 = mo_v G H27 a0 3 := mo_v_F (r := 49) hB.1 hf h0 rfl ro_49 (by decide) (by decide)
    have vv_H38_4 : mo_v G H38 a0 4 = mo_v G H27 a0 4 := mo_v_F (r := 50) hB.1 hf h0 rfl ro_50 (by decide) (by decide)
    have vv_H38_31 : mo_v G H38 a0 31 = mo_v G H27 a0 31 := mo_v_F (r := 61) hB.1 hf h0 rfl ro_61 (by decide) (by decide)
    replace hF := hF.trans (dv_bn (dv_stoI hIo hB.1 hU hb2 ow_48 (i := 72) hst38 (Eq.refl _) (by omega)))
    have vs38 : mo_v G H38 a0 2 = mo_u (mo_v G H27 a0 2) 72 x3.toInt := by rw [show (72 : Int) = 72 by omega]; exact mo_v_st h0 hb2 (by decide) mm6 hst38 (by omega)
    have hR : th_RN a0 G Γ H38 := ⟨hRC, by rw [vs38, vv_H38_3, vv_H38_4, vv_H38_31, fv_H38_33]; exact mo_ok_f hR.2 (by rw [vv_H27_2, vs25, mo_un (by omega)]; omega)⟩
    refine lv_iload_n hx hb dX12_compare_39 rfl (lv_at hl 0 rfl) ?_
    exact th_iret hC hH hr hlocks rfl hB.2.1 ⟨_, rfl, hB.1, hB.2.2, hR, (hF0.symm.trans hF)⟩ dX12_compare_40
  · replace hF := hF.trans (if_neg (not_not_intro c5))
    refine lv_iconst (v := (-1)) hx hb dX12_compare_8 (by decide) ?_
    exact th_iret hC hH hr hlocks rfl hB.2.1 ⟨_, rfl, hB.1, hB.2.2, hR, (hF0.symm.trans (hF.trans (by rw [tk_m1])))⟩ dX12_compare_9

set_option maxHeartbeats 4000000 in
set_option maxRecDepth 100000 in
theorem c_X12_goesAlong (l : Launch) (G : th_G) (Γ : th_Ga) (H0 : Heap) (hI : th_I G Γ H0) (hR : th_RC G Γ H0) (hU : dv_U Γ) (a0 : Nat) (h0 : Γ a0 = (46, 0)) (p1 : Int32) (f1 : 2400 ≤ p1.toInt) (g1 : p1.toInt ≤ 2800) (p2 : Int32) (f2 : 0 ≤ p2.toInt) (g2 : p2.toInt ≤ 1) (i j : Int) (k1 : mo_f G H0 a0 48 = 2400 + i) (k2 : 0 ≤ i ∧ j ≤ p1.toInt - 2400) (k3 : mo_ord (mo_tf (mo_v G H0 a0 2) 2480 (p1.toInt - 2400)) i j) : Met l yX12_goesAlong (.code yX12_goesAlong cX12_goesAlong 5 (none) :: th_tb) ({ frames := 50, cells := 0, slots := 0, locals := 1594 } : Room) (th_P [.ref a0, .int p1, .int p2] G H0) (th_Q (fun (v : Option Value) (H1 : Heap) => v = none ∧ th_I G Γ H1 ∧ th_F G Γ [(46, 22), (46, 24), (46, 23), (46, 25), (46, 49), (46, 50), (46, 51), (46, 52), (69, 0)] H0 H1 ∧ th_RC G Γ H1 ∧ (mo_f G H1 a0 22 = 2400 + j + 1) ∧ (f_X12_goesAlong (dv G Γ H0) (a0 : Int) p1.toInt p2.toInt = (dv G Γ H1, 0))) G) 0 0 (fun q => G.2.2 ≤ q) := by
  refine th_met RX12 (by decide) rfl (Nat.le_of_ble_eq_true rfl) ?_
  intro p e s m below meth c hC hH hr hlocks hnm ls hl
  have hx := hC.1
  have hb := hC.2.1
  have hB : th_B G Γ Γ [(46, 22), (46, 24), (46, 23), (46, 25), (46, 49), (46, 50), (46, 51), (46, 52), (69, 0)] H0 H0 [] := ⟨hI, va_S.rf, th_F_rf⟩
  have hl : lv_has ls 5 [(0, .ref a0), (1, .int p1), (2, .int p2)] := hl
  have lp1 := ti_lo p1; have up1 := ti_hi p1
  have lp2 := ti_lo p2; have up2 := ti_hi p2
  obtain ⟨F, hF0⟩ : ∃ F, F = f_X12_goesAlong (dv G Γ H0) ((a0 : Int)) (p1.toInt) (p2.toInt) := ⟨_, rfl⟩
  have hF := hF0.trans (f_X12_goesAlong.eq_1 (dv G Γ H0) ((a0 : Int)) (p1.toInt) (p2.toInt))
  refine lv_aload_n hx hb dX12_goesAlong_0 rfl (lv_at hl 0 rfl) ?_
  obtain ⟨B, eB⟩ : ∃ B : Int, B = 2400 := ⟨_, rfl⟩
  obtain ⟨n0, en0⟩ : ∃ n : Int, n = p1.toInt - 2400 := ⟨_, rfl⟩
  obtain ⟨T, eT⟩ : ∃ T : Int → Int, T = mo_tf (mo_v G H0 a0 2) (80 + B) n0 := ⟨_, rfl⟩
  have od : mo_ord T i j := by rw [eT, eB, en0, show (80 + 2400 : Int) = 2480 by omega]; exact k3
  refine lv_iconst (v := 1) hx hb dX12_goesAlong_1 (by decide) ?_
  refine th_put hC cf_X12 hB h0 (Or.inl h0) ro_46 rfl (j := 25) rfl (th_sI (by decide) (by decide)) (by decide) rfl narrow_b1 rfl kf_X12_311 dX12_goesAlong_2 (fun H2 locs hB hf hst2 => ?_)
  have hR := th_RC_F hB.1 hR hf (th_T_s h0 ro_46 hst2) (by decide)
  have fv_H2_22 : mo_f G H2 a0 22 = mo_f G H0 a0 22 := mo_f_F hf h0 (by decide) (by decide)
  have fv_H2_23 : mo_f G H2 a0 23 = mo_f G H0 a0 23 := mo_f_F hf h0 (by decide) (by decide)
  have fv_H2_48 : mo_f G H2 a0 48 = mo_f G H0 a0 48 := mo_f_F hf h0 (by decide) (by decide)
  have fv_H2_50 : mo_f G H2 a0 50 = mo_f G H0 a0 50 := mo_f_F hf h0 (by decide) (by decide)
  have vv_H2_2 : mo_v G H2 a0 2 = mo_v G H0 a0 2 := mo_v_F (r := 48) hB.1 hf h0 rfl ro_48 (by decide) (by decide)
  replace hF := hF.trans (dv_bn (dv_putI hB.1 h0 ro_46 (j := 25) rfl (th_apart hC cf_X12) hst2 tk_1 (by decide)))
  have fp2 : mo_f G H2 a0 25 = 1 := (mo_f_St hst2).trans tk_1
  refine lv_aload_n hx hb dX12_goesAlong_5 rfl (lv_at hl 0 rfl) ?_
  refine lv_iload_n hx hb dX12_goesAlong_6 rfl (lv_at hl 1 rfl) ?_
  refine th_put hC cf_X12 hB h0 (Or.inl h0) ro_46 rfl (j := 23) rfl th_sIa (by decide) rfl rfl rfl kf_X12_278 dX12_goesAlong_7 (fun H7 locs hB hf hst7 => ?_)
  have hR := th_RC_F hB.1 hR hf (th_T_s h0 ro_46 hst7) (by decide)
  have fv_H7_22 : mo_f G H7 a0 22 = mo_f G H2 a0 22 := mo_f_F hf h0 (by decide) (by decide)
  have fv_H7_25 : mo_f G H7 a0 25 = mo_f G H2 a0 25 := mo_f_F hf h0 (by decide) (by decide)
  have fv_H7_48 : mo_f G H7 a0 48 = mo_f G H2 a0 48 := mo_f_F hf h0 (by decide) (by decide)
  have fv_H7_50 : mo_f G H7 a0 50 = mo_f G H2 a0 50 := mo_f_F hf h0 (by decide) (by decide)
  have vv_H7_2 : mo_v G H7 a0 2 = mo_v G H2 a0 2 := mo_v_F (r := 48) hB.1 hf h0 rfl ro_48 (by decide) (by decide)
  replace hF := hF.trans (dv_bn (dv_putI hB.1 h0 ro_46 (j := 23) rfl (th_apart hC cf_X12) hst7 (Eq.refl _) (by decide)))
  have fp7 : mo_f G H7 a0 23 = p1.toInt := mo_f_St hst7
  refine lv_aload_n hx hb dX12_goesAlong_10 rfl (lv_at hl 0 rfl) ?_
  refine lv_aload_n hx hb dX12_goesAlong_11 rfl (lv_at hl 0 rfl) ?_
  refine th_getI (j := 48) hC cf_X12 hB.1 h0 ro_46 rfl rfl kf_X12_480 dX12_goesAlong_12 (fun x1 mx1 lx1 ux1 => ?_)
  replace hF := hF.trans (dv_bn (dv_getI h0 ro_46 (j := 48) rfl mx1 (by decide)))
  have fg2 : mo_f G H7 a0 48 = x1.toInt := mo_fat mx1
  refine th_put hC cf_X12 hB h0 (Or.inl h0) ro_46 rfl (j := 22) rfl th_sIa (by decide) rfl rfl rfl kf_X12_281 dX12_goesAlong_15 (fun H15 locs hB hf hst15 => ?_)
  have hR := th_RC_F hB.1 hR hf (th_T_s h0 ro_46 hst15) (by decide)
  have fv_H15_23 : mo_f G H15 a0 23 = mo_f G H7 a0 23 := mo_f_F hf h0 (by decide) (by decide)
  have fv_H15_25 : mo_f G H15 a0 25 = mo_f G H7 a0 25 := mo_f_F hf h0 (by decide) (by decide)
  have fv_H15_48 : mo_f G H15 a0 48 = mo_f G H7 a0 48 := mo_f_F hf h0 (by decide) (by decide)
  have fv_H15_50 : mo_f G H15 a0 50 = mo_f G H7 a0 50 := mo_f_F hf h0 (by decide) (by decide)
  have vv_H15_2 : mo_v G H15 a0 2 = mo_v G H7 a0 2 := mo_v_F (r := 48) hB.1 hf h0 rfl ro_48 (by decide) (by decide)
  replace hF := hF.trans (dv_bn (dv_putI hB.1 h0 ro_46 (j := 22) rfl (th_apart hC cf_X12) hst15 (Eq.refl _) (by decide)))
  have fp15 : mo_f G H15 a0 22 = x1.toInt := mo_f_St hst15
  have mm3 := hst15.2.1
  refine lv_aload_n hx hb dX12_goesAlong_18 rfl (lv_at hl 0 rfl) ?_
  refine lv_aload_n hx hb dX12_goesAlong_19 rfl (lv_at hl 0 rfl) ?_
  refine lv_aload_n hx hb dX12_goesAlong_20 rfl (lv_at hl 0 rfl) ?_
  refine th_getK hC cf_X12 hB.1 h0 ro_46 rfl (j := 22) (by decide) mm3 kf_X12_281 dX12_goesAlong_21 ?_
  replace hF := hF.trans (dv_bn (dv_getI h0 ro_46 (j := 22) rfl mm3 (by decide)))
  have fg4 : mo_f G H15 a0 22 = x1.toInt := mo_fat mm3
  refine th_call (th_runV (As := [.int x1]) (rest := [.ref a0]) hC mf_X12_codeAt km_X12_284 im_X12_codeAt se_X12_codeAt (c_X12_codeAt l G Γ H15 hB.1 hU a0 h0 x1 (by omega) B (by omega) (by omega)) rfl rfl ⟨Nat.le_of_ble_eq_true rfl, Nat.le_of_ble_eq_true rfl⟩ hB.1 h0 ro_46 rfl rfl hl.1 rfl (Nat.le_of_ble_eq_true rfl) dX12_goesAlong_24 ⟨Nat.le_refl _, Nat.le_refl _⟩) hB.2.1 (fun v24 H24 locs hp hz hS => ?_)
  obtain ⟨x5, rfl, q24_0, q24_1, rfl⟩ := hp
  have hB := th_B_s hB hS
  replace hF := hF.trans (dv_bn2 (q24_1))
  refine W.eq (g2 := F0 m 27 ls [.int x5, .ref a0]) rfl ?_
  have cd24 : T i = x5.toInt := by have q9 := q24_0; rw [((mo_ce_T (mo_v_F (r := 48) hB.1 hB.2.2 h0 rfl ro_48 (by decide) (by decide)) (show mo_f G H15 a0 23 = B + n0 by omega)).trans eT.symm)] at q9; rw [q9]; congr 1; omega
  refine th_put hC cf_X12 hB h0 (Or.inl h0) ro_46 rfl (j := 50) rfl th_sIa (by decide) rfl rfl rfl kf_X12_489 dX12_goesAlong_27 (fun H27 locs hB hf hst27 => ?_)
  have mm6 := (th_F_o hf h0 ro_46 (j := 22) (by decide) (by decide)).trans mm3
  have hR := th_RC_F hB.1 hR hf (th_T_s h0 ro_46 hst27) (by decide)
  have fv_H27_22 : mo_f G H27 a0 22 = mo_f G H15 a0 22 := mo_f_F hf h0 (by decide) (by decide)
  have fv_H27_23 : mo_f G H27 a0 23 = mo_f G H15 a0 23 := mo_f_F hf h0 (by decide) (by decide)
  have fv_H27_25 : mo_f G H27 a0 25 = mo_f G H15 a0 25 := mo_f_F hf h0 (by decide) (by decide)
  have fv_H27_48 : mo_f G H27 a0 48 = mo_f G H15 a0 48 := mo_f_F hf h0 (by decide) (by decide)
  have vv_H27_2 : mo_v G H27 a0 2 = mo_v G H15 a0 2 := mo_v_F (r := 48) hB.1 hf h0 rfl ro_48 (by decide) (by decide)
  replace hF := hF.trans (dv_bn (dv_putI hB.1 h0 ro_46 (j := 50) rfl (th_apart hC cf_X12) hst27 (Eq.refl _) (by decide)))
  have fp27 : mo_f G H27 a0 50 = x5.toInt := mo_f_St hst27
  have mm7 := hst27.2.1
  refine lv_aload_n hx hb dX12_goesAlong_30 rfl (lv_at hl 0 rfl) ?_
  refine lv_dup hx hb dX12_goesAlong_31 rfl ?_
  refine th_getK hC cf_X12 hB.1 h0 ro_46 rfl (j := 22) (by decide) mm6 kf_X12_281 dX12_goesAlong_32 ?_
  replace hF := hF.trans (dv_bn (dv_getI h0 ro_46 (j := 22) rfl mm6 (by decide)))
  have fg8 : mo_f G H27 a0 22 = x1.toInt := mo_fat mm6
  have nz32 := mo_tf_nz (k := mo_v G H0 a0 2) (b := 80 + B) (n := n0) (i := i) (by rw [← eT]; exact mo_ord_nz od)
  refine lv_iconst (v := 1) hx hb dX12_goesAlong_35 (by decide) ?_
  refine tr_iadd hx hb dX12_goesAlong_36 (Eq.refl _) tk_1 (by omega) (by omega) (fun x9 ex9 => ?_)
  replace hF := hF.trans (dv_bn (ex9.symm))
  refine th_put hC cf_X12 hB h0 (Or.inl h0) ro_46 rfl (j := 22) rfl th_sIa (by decide) rfl rfl rfl kf_X12_281 dX12_goesAlong_37 (fun H37 locs hB hf hst37 => ?_)
  have mm10 := (th_F_o hf h0 ro_46 (j := 50) (by decide) (by decide)).trans mm7
  have hR := th_RC_F hB.1 hR hf (th_T_s h0 ro_46 hst37) (by decide)
  have fv_H37_23 : mo_f G H37 a0 23 = mo_f G H27 a0 23 := mo_f_F hf h0 (by decide) (by decide)
  have fv_H37_25 : mo_f G H37 a0 25 = mo_f G H27 a0 25 := mo_f_F hf h0 (by decide) (by decide)
  have fv_H37_48 : mo_f G H37 a0 48 = mo_f G H27 a0 48 := mo_f_F hf h0 (by decide) (by decide)
  have fv_H37_50 : mo_f G H37 a0 50 = mo_f G H27 a0 50 := mo_f_F hf h0 (by decide) (by decide)
  have vv_H37_2 : mo_v G H37 a0 2 = mo_v G H27 a0 2 := mo_v_F (r := 48) hB.1 hf h0 rfl ro_48 (by decide) (by decide)
  replace hF := hF.trans (dv_bn (dv_putI hB.1 h0 ro_46 (j := 22) rfl (th_apart hC cf_X12) hst37 (Eq.refl _) (by decide)))
  have fp37 : mo_f G H37 a0 22 = x9.toInt := mo_f_St hst37
  have mm11 := hst37.2.1
  refine lv_aload_n hx hb dX12_goesAlong_40 rfl (lv_at hl 0 rfl) ?_
  refine lv_iconst (v := 1) hx hb dX12_goesAlong_41 (by decide) ?_
  refine th_put hC cf_X12 hB h0 (Or.inl h0) ro_46 rfl (j := 51) rfl (th_sI (by decide) (by decide)) (by decide) rfl narrow_b1 rfl kf_X12_492 dX12_goesAlong_42 (fun H42 locs hB hf hst42 => ?_)
  have mm12 := (th_F_o hf h0 ro_46 (j := 50) (by decide) (by decide)).trans mm10
  have mm13 := (th_F_o hf h0 ro_46 (j := 22) (by decide) (by decide)).trans mm11
  have hR := th_RC_F hB.1 hR hf (th_T_s h0 ro_46 hst42) (by decide)
  have fv_H42_22 : mo_f G H42 a0 22 = mo_f G H37 a0 22 := mo_f_F hf h0 (by decide) (by decide)
  have fv_H42_23 : mo_f G H42 a0 23 = mo_f G H37 a0 23 := mo_f_F hf h0 (by decide) (by decide)
  have fv_H42_25 : mo_f G H42 a0 25 = mo_f G H37 a0 25 := mo_f_F hf h0 (by decide) (by decide)
  have fv_H42_48 : mo_f G H42 a0 48 = mo_f G H37 a0 48 := mo_f_F hf h0 (by decide) (by decide)
  have fv_H42_50 : mo_f G H42 a0 50 = mo_f G H37 a0 50 := mo_f_F hf h0 (by decide) (by decide)
  have vv_H42_2 : mo_v G H42 a0 2 = mo_v G H37 a0 2 := mo_v_F (r := 48) hB.1 hf h0 rfl ro_48 (by decide) (by decide)
  replace hF := hF.trans (dv_bn (dv_putI hB.1 h0 ro_46 (j := 51) rfl (th_apart hC cf_X12) hst42 tk_1 (by decide)))
  have mm14 := hst42.2.1
  refine lv_aload_n hx hb dX12_goesAlong_45 rfl (lv_at hl 0 rfl) ?_
  refine th_getK hC cf_X12 hB.1 h0 ro_46 rfl (j := 50) (by decide) mm12 kf_X12_489 dX12_goesAlong_46 ?_
  replace hF := hF.trans (dv_bn (dv_getI h0 ro_46 (j := 50) rfl mm12 (by decide)))
  have fg15 : mo_f G H42 a0 50 = x5.toInt := mo_fat mm12
  refine lv_bipush (v := 21) hx hb dX12_goesAlong_49 (by decide) ?_
  have jn72 : ∀ (locs : List Loc) (ls : Array Slot) (s72_0 : Int32), th_B G Γ Γ [(46, 22), (46, 24), (46, 23), (46, 25), (46, 49), (46, 50), (46, 51), (46, 52), (69, 0)] H0 H42 locs → lv_has ls 5 [(0, .ref a0), (2, .int p2)] → F = f_X12_goesAlong_72 (dv G Γ H42) ((a0 : Int)) (p2.toInt) (s72_0.toInt) → 0 ≤ s72_0.toInt → s72_0.toInt ≤ 3 → (∃ p q m : Int, mo_os T i j p q m s72_0.toInt) → W p l e ({ frames := 50, cells := 0, slots := 0, locals := 1594 } : Room) s m ([.ref a0, .int p1, .int p2] : List Value).toArray below meth c H42 locs 0 0 (MQ below (th_Q (fun (v : Option Value) (H1 : Heap) => v = none ∧ th_I G Γ H1 ∧ th_F G Γ [(46, 22), (46, 24), (46, 23), (46, 25), (46, 49), (46, 50), (46, 51), (46, 52), (69, 0)] H0 H1 ∧ th_RC G Γ H1 ∧ (mo_f G H1 a0 22 = 2400 + j + 1) ∧ (f_X12_goesAlong (dv G Γ H0) (a0 : Int) p1.toInt p2.toInt = (dv G Γ H1, 0))) G) ([.ref a0, .int p1, .int p2] : List Value).toArray s 0 0 (fun q => G.2.2 ≤ q)) (F0 m 72 ls [.int s72_0]) := by
    intro locs ls s72_0 hB hl hF g72_0 g72_1 g72_2
    have ls72_0 := ti_lo s72_0; have us72_0 := ti_hi s72_0
    replace hF := hF.trans (f_X12_goesAlong_72.eq_1 (dv G Γ H42) ((a0 : Int)) (p2.toInt) (s72_0.toInt))
    refine lv_istore_n (lv' := [(3, .int s72_0), (0, .ref a0), (2, .int p2)]) hx hb dX12_goesAlong_72 rfl hl (by decide) rfl (fun ls hl => ?_)
    obtain ⟨p_, q_, m_, o1, oS, oG, m2_, oT, oI⟩ := g72_2
    have g0 := mo_gs_0 (i := i) (p := p_) (q := q_) (m := m_)
    have lt72 := mo_tim_le oT
    have li72 := mo_if_le oI
    refine lv_iconst (v := 0) hx hb dX12_goesAlong_73 (by decide) ?_
    refine lv_istore (lv' := [(4, .int 0), (3, .int s72_0), (0, .ref a0), (2, .int p2)]) hx hb dX12_goesAlong_74 hl (by decide) rfl (fun ls hl => ?_)
    have lp76 : ∀ (n76 : Nat) (H76 : Heap) (locs : List Loc) (ls : Array Slot) (j76_4 : Int32), th_B G Γ Γ [(46, 22), (46, 24), (46, 23), (46, 25), (46, 49), (46, 50), (46, 51), (46, 52), (69, 0)] H0 H76 locs → th_RC G Γ H76 → lv_has ls 5 [(3, .int s72_0), (0, .ref a0), (2, .int p2), (4, .int j76_4)] → F = dv_lp f_X12_goesAlong_76b (dv G Γ H76, s72_0.toInt, (a0 : Int), p2.toInt, j76_4.toInt) → 0 ≤ j76_4.toInt → j76_4.toInt ≤ 3 → mo_f G H76 a0 22 = B + mo_go i p_ q_ m_ j76_4.toInt → mo_f G H76 a0 23 = B + n0 → mo_f G H76 a0 25 = 1 → j76_4.toInt ≤ s72_0.toInt → (2147483648 : Int) - j76_4.toInt ≤ (n76 : Int) → W p l e ({ frames := 50, cells := 0, slots := 0, locals := 1594 } : Room) s m ([.ref a0, .int p1, .int p2] : List Value).toArray below meth c H76 locs 0 0 (MQ below (th_Q (fun (v : Option Value) (H1 : Heap) => v = none ∧ th_I G Γ H1 ∧ th_F G Γ [(46, 22), (46, 24), (46, 23), (46, 25), (46, 49), (46, 50), (46, 51), (46, 52), (69, 0)] H0 H1 ∧ th_RC G Γ H1 ∧ (mo_f G H1 a0 22 = 2400 + j + 1) ∧ (f_X12_goesAlong (dv G Γ H0) (a0 : Int) p1.toInt p2.toInt = (dv G Γ H1, 0))) G) ([.ref a0, .int p1, .int p2] : List Value).toArray s 0 0 (fun q => G.2.2 ≤ q)) (F0 m 76 ls []) := by
      intro n76
      induction n76 with
      | zero => intro H76 locs ls j76_4 hB hR hl hF g76_0 g76_1 g76_2 g76_3 g76_4 g76_5 hm76; exact absurd hm76 (by have := ti_hi j76_4; omega)
      | succ n76 ih76 =>
        intro H76 locs ls j76_4 hB hR hl hF g76_0 g76_1 g76_2 g76_3 g76_4 g76_5 hm76
        have lj76_4 := ti_lo j76_4; have uj76_4 := ti_hi j76_4
        have fv16_48 : mo_f G H76 a0 48 = mo_f G H0 a0 48 := mo_f_F hB.2.2 h0 (by decide) (by decide)
        have vw_H76_2 : mo_v G H76 a0 2 = mo_v G H0 a0 2 := mo_v_F (r := 48) hB.1 hB.2.2 h0 rfl ro_48 (by decide) (by decide)
        have hm76 : (2147483648 : Int) - j76_4.toInt ≤ (n76 : Int) + 1 := by omega
        replace hF := hF.trans (dv_lp_eq)
        replace hF := hF.trans (congrArg (dv_k f_X12_goesAlong_76b) (f_X12_goesAlong_76c.eq_1 (dv G Γ H76) (s72_0.toInt) ((a0 : Int)) (p2.toInt) (j76_4.toInt)))
        refine lv_iload hx hb dX12_goesAlong_76 (lv_at hl 3 rfl) ?_
        refine lv_iload_n hx hb dX12_goesAlong_78 rfl (lv_at hl 0 rfl) ?_
        refine tr_icmp_ge (tgt := 143) hx hb dX12_goesAlong_79 (by decide) (Eq.refl _) (Eq.refl _) (fun c79 => ?_) (fun c79 => ?_)
        · replace hF := hF.trans (congrArg (dv_k f_X12_goesAlong_76b) (if_pos c79))
          refine lv_aload_n hx hb dX12_goesAlong_143 rfl (lv_at hl 1 rfl) ?_
          have gm : mo_f G H76 a0 22 = B + m_ := by rw [g76_2, show j76_4.toInt = s72_0.toInt by omega, oG]
          refine lv_iconst (v := 1) hx hb dX12_goesAlong_144 (by decide) ?_
          refine th_put hC cf_X12 hB h0 (Or.inl h0) ro_46 rfl (j := 49) rfl th_sIa (by decide) rfl rfl rfl kf_X12_495 dX12_goesAlong_145 (fun H145 locs hB hf hst145 => ?_)
          have hR := th_RC_F hB.1 hR hf (th_T_s h0 ro_46 hst145) (by decide)
          have fv_H145_22 : mo_f G H145 a0 22 = mo_f G H76 a0 22 := mo_f_F hf h0 (by decide) (by decide)
          have fv_H145_23 : mo_f G H145 a0 23 = mo_f G H76 a0 23 := mo_f_F hf h0 (by decide) (by decide)
          have fv_H145_25 : mo_f G H145 a0 25 = mo_f G H76 a0 25 := mo_f_F hf h0 (by decide) (by decide)
          have fv_H145_48 : mo_f G H145 a0 48 = mo_f G H76 a0 48 := mo_f_F hf h0 (by decide) (by decide)
          have fv_H145_50 : mo_f G H145 a0 50 = mo_f G H76 a0 50 := mo_f_F hf h0 (by decide) (by decide)
          have vv_H145_2 : mo_v G H145 a0 2 = mo_v G H76 a0 2 := mo_v_F (r := 48) hB.1 hf h0 rfl ro_48 (by decide) (by decide)
          replace hF := hF.trans (congrArg (dv_k f_X12_goesAlong_76b) (dv_bn (dv_putI hB.1 h0 ro_46 (j := 49) rfl (th_apart hC cf_X12) hst145 tk_1 (by decide))))
          refine lv_aload_n hx hb dX12_goesAlong_148 rfl (lv_at hl 1 rfl) ?_
          refine lv_bipush (v := 27) hx hb dX12_goesAlong_149 (by decide) ?_
          have ce145 : mo_ce G H145 a0 B m_ = T m_ := by rw [((mo_ce_T (mo_v_F (r := 48) hB.1 hB.2.2 h0 rfl ro_48 (by decide) (by decide)) (show mo_f G H145 a0 23 = B + n0 by omega)).trans eT.symm)]
          have tk27 := tk_27
          refine th_call (th_runV (As := [.int 27]) (rest := []) hC mf_X12_passes0 km_X12_305 im_X12_passes0 se_X12_passes0 (c_X12_passes0 l G Γ H145 hB.1 hR hU a0 h0 27 (by decide) B m_ ⟨by omega, by omega, by omega, by omega⟩) rfl rfl ⟨Nat.le_of_ble_eq_true rfl, Nat.le_of_ble_eq_true rfl⟩ hB.1 h0 ro_46 rfl rfl hl.1 rfl (Nat.le_of_ble_eq_true rfl) dX12_goesAlong_151 ⟨Nat.le_refl _, Nat.le_refl _⟩) hB.2.1 (fun v151 H151 locs hp hz hS => ?_)
          obtain ⟨x17, rfl, lx17, ux17, hI1, hf, hR, z151_0, z151_1, z151_2⟩ := hp
          have hB := th_B_c hB hI1 hS hf (by decide)
          have fv_H151_23 : mo_f G H151 a0 23 = mo_f G H145 a0 23 := mo_f_F hf h0 (by decide) (by decide)
          have fv_H151_25 : mo_f G H151 a0 25 = mo_f G H145 a0 25 := mo_f_F hf h0 (by decide) (by decide)
          have fv_H151_48 : mo_f G H151 a0 48 = mo_f G H145 a0 48 := mo_f_F hf h0 (by decide) (by decide)
          have fv_H151_50 : mo_f G H151 a0 50 = mo_f G H145 a0 50 := mo_f_F hf h0 (by decide) (by decide)
          have vv_H151_2 : mo_v G H151 a0 2 = mo_v G H145 a0 2 := mo_v_F (r := 48) hB.1 hf h0 rfl ro_48 (by decide) (by decide)
          have zf151 := z151_2
          rw [tk_27] at zf151
          replace hF := hF.trans (congrArg (dv_k f_X12_goesAlong_76b) (dv_bn2 (zf151)))
          refine W.eq (g2 := F0 m 154 ls [.int x17]) rfl ?_
          have jn184 : ∀ (H184 : Heap) (locs : List Loc) (ls : Array Slot) , th_B G Γ Γ [(46, 22), (46, 24), (46, 23), (46, 25), (46, 49), (46, 50), (46, 51), (46, 52), (69, 0)] H0 H184 locs → th_RC G Γ H184 → lv_has ls 5 [(0, .ref a0), (2, .int p2)] → F = dv_k f_X12_goesAlong_76b (f_X12_goesAlong_184 (dv G Γ H184) ((a0 : Int)) (p2.toInt)) → mo_f G H184 a0 22 = B + m2_ → mo_f G H184 a0 23 = B + n0 → mo_f G H184 a0 25 = 1 → W p l e ({ frames := 50, cells := 0, slots := 0, locals := 1594 } : Room) s m ([.ref a0, .int p1, .int p2] : List Value).toArray below meth c H184 locs 0 0 (MQ below (th_Q (fun (v : Option Value) (H1 : Heap) => v = none ∧ th_I G Γ H1 ∧ th_F G Γ [(46, 22), (46, 24), (46, 23), (46, 25), (46, 49), (46, 50), (46, 51), (46, 52), (69, 0)] H0 H1 ∧ th_RC G Γ H1 ∧ (mo_f G H1 a0 22 = 2400 + j + 1) ∧ (f_X12_goesAlong (dv G Γ H0) (a0 : Int) p1.toInt p2.toInt = (dv G Γ H1, 0))) G) ([.ref a0, .int p1, .int p2] : List Value).toArray s 0 0 (fun q => G.2.2 ≤ q)) (F0 m 184 ls []) := by
            intro H184 locs ls hB hR hl hF g184_0 g184_1 g184_2
            have fv18_48 : mo_f G H184 a0 48 = mo_f G H0 a0 48 := mo_f_F hB.2.2 h0 (by decide) (by decide)
            have vw_H184_2 : mo_v G H184 a0 2 = mo_v G H0 a0 2 := mo_v_F (r := 48) hB.1 hB.2.2 h0 rfl ro_48 (by decide) (by decide)
            replace hF := hF.trans (congrArg (dv_k f_X12_goesAlong_76b) (f_X12_goesAlong_184.eq_1 (dv G Γ H184) ((a0 : Int)) (p2.toInt)))
            refine lv_aload_n hx hb dX12_goesAlong_184 rfl (lv_at hl 0 rfl) ?_
            refine lv_iconst (v := 0) hx hb dX12_goesAlong_185 (by decide) ?_
            refine th_put hC cf_X12 hB h0 (Or.inl h0) ro_46 rfl (j := 24) rfl (th_sI (by decide) (by decide)) (by decide) rfl narrow_b0 rfl kf_X12_291 dX12_goesAlong_186 (fun H186 locs hB hf hst186 => ?_)
            have hR := th_RC_F hB.1 hR hf (th_T_s h0 ro_46 hst186) (by decide)
            have fv_H186_22 : mo_f G H186 a0 22 = mo_f G H184 a0 22 := mo_f_F hf h0 (by decide) (by decide)
            have fv_H186_23 : mo_f G H186 a0 23 = mo_f G H184 a0 23 := mo_f_F hf h0 (by decide) (by decide)
            have fv_H186_25 : mo_f G H186 a0 25 = mo_f G H184 a0 25 := mo_f_F hf h0 (by decide) (by decide)
            have fv_H186_48 : mo_f G H186 a0 48 = mo_f G H184 a0 48 := mo_f_F hf h0 (by decide) (by decide)
            have fv_H186_50 : mo_f G H186 a0 50 = mo_f G H184 a0 50 := mo_f_F hf h0 (by decide) (by decide)
            have vv_H186_2 : mo_v G H186 a0 2 = mo_v G H184 a0 2 := mo_v_F (r := 48) hB.1 hf h0 rfl ro_48 (by decide) (by decide)
            replace hF := hF.trans (congrArg (dv_k f_X12_goesAlong_76b) (dv_bn (dv_putI hB.1 h0 ro_46 (j := 24) rfl (th_apart hC cf_X12) hst186 tk_0 (by decide))))
            have mm19 := hst186.2.1
            refine lv_aload_n hx hb dX12_goesAlong_189 rfl (lv_at hl 0 rfl) ?_
            refine lv_aload_n hx hb dX12_goesAlong_190 rfl (lv_at hl 0 rfl) ?_
            refine lv_iconst (v := 4) hx hb dX12_goesAlong_191 (by decide) ?_
            have ce186 : mo_ce G H186 a0 B m2_ = T m2_ := by rw [((mo_ce_T (mo_v_F (r := 48) hB.1 hB.2.2 h0 rfl ro_48 (by decide) (by decide)) (show mo_f G H186 a0 23 = B + n0 by omega)).trans eT.symm)]
            have tk4 := tk_4
            refine th_call (th_runV (As := [.int 4]) (rest := [.ref a0]) hC mf_X12_passes0 km_X12_305 im_X12_passes0 se_X12_passes0 (c_X12_passes0 l G Γ H186 hB.1 hR hU a0 h0 4 (by decide) B m2_ ⟨by omega, by omega, by omega, by omega⟩) rfl rfl ⟨Nat.le_of_ble_eq_true rfl, Nat.le_of_ble_eq_true rfl⟩ hB.1 h0 ro_46 rfl rfl hl.1 rfl (Nat.le_of_ble_eq_true rfl) dX12_goesAlong_192 ⟨Nat.le_refl _, Nat.le_refl _⟩) hB.2.1 (fun v192 H192 locs hp hz hS => ?_)
            obtain ⟨x20, rfl, lx20, ux20, hI1, hf, hR, z192_0, z192_1, z192_2⟩ := hp
            have hB := th_B_c hB hI1 hS hf (by decide)
            have mm21 := (th_F_o hf h0 ro_46 (j := 24) (by decide) (by decide)).trans mm19
            have fv_H192_23 : mo_f G H192 a0 23 = mo_f G H186 a0 23 := mo_f_F hf h0 (by decide) (by decide)
            have fv_H192_25 : mo_f G H192 a0 25 = mo_f G H186 a0 25 := mo_f_F hf h0 (by decide) (by decide)
            have fv_H192_48 : mo_f G H192 a0 48 = mo_f G H186 a0 48 := mo_f_F hf h0 (by decide) (by decide)
            have fv_H192_50 : mo_f G H192 a0 50 = mo_f G H186 a0 50 := mo_f_F hf h0 (by decide) (by decide)
            have vv_H192_2 : mo_v G H192 a0 2 = mo_v G H186 a0 2 := mo_v_F (r := 48) hB.1 hf h0 rfl ro_48 (by decide) (by decide)
            have zf192 := z192_2
            rw [tk_4] at zf192
            replace hF := hF.trans (congrArg (dv_k f_X12_goesAlong_76b) (dv_bn2 (zf192)))
            refine W.eq (g2 := F0 m 195 ls [.int x20, .ref a0]) rfl ?_
            have jn211 : ∀ (HJ211 : Heap) (locs : List Loc) (ls : Array Slot) (s211_1 : Int32), th_B G Γ Γ [(46, 22), (46, 24), (46, 23), (46, 25), (46, 49), (46, 50), (46, 51), (46, 52), (69, 0)] H0 HJ211 locs → th_RC G Γ HJ211 → lv_has ls 5 [(0, .ref a0)] → F = dv_k f_X12_goesAlong_76b (f_X12_goesAlong_211 (dv G Γ HJ211) ((a0 : Int)) (s211_1.toInt)) → 0 ≤ s211_1.toInt → s211_1.toInt ≤ 1 → mo_f G HJ211 a0 22 = B + j → W p l e ({ frames := 50, cells := 0, slots := 0, locals := 1594 } : Room) s m ([.ref a0, .int p1, .int p2] : List Value).toArray below meth c HJ211 locs 0 0 (MQ below (th_Q (fun (v : Option Value) (H1 : Heap) => v = none ∧ th_I G Γ H1 ∧ th_F G Γ [(46, 22), (46, 24), (46, 23), (46, 25), (46, 49), (46, 50), (46, 51), (46, 52), (69, 0)] H0 H1 ∧ th_RC G Γ H1 ∧ (mo_f G H1 a0 22 = 2400 + j + 1) ∧ (f_X12_goesAlong (dv G Γ H0) (a0 : Int) p1.toInt p2.toInt = (dv G Γ H1, 0))) G) ([.ref a0, .int p1, .int p2] : List Value).toArray s 0 0 (fun q => G.2.2 ≤ q)) (F0 m 211 ls [.int s211_1, .ref a0]) := by
              intro HJ211 locs ls s211_1 hB hR hl hF g211_0 g211_1 g211_2
              have ls211_1 := ti_lo s211_1; have us211_1 := ti_hi s211_1
              have fv22_48 : mo_f G HJ211 a0 48 = mo_f G H0 a0 48 := mo_f_F hB.2.2 h0 (by decide) (by decide)
              have vw_HJ211_2 : mo_v G HJ211 a0 2 = mo_v G H0 a0 2 := mo_v_F (r := 48) hB.1 hB.2.2 h0 rfl ro_48 (by decide) (by decide)
              replace hF := hF.trans (congrArg (dv_k f_X12_goesAlong_76b) (f_X12_goesAlong_211.eq_1 (dv G Γ HJ211) ((a0 : Int)) (s211_1.toInt)))
              refine th_put hC cf_X12 hB h0 (Or.inl h0) ro_46 rfl (j := 52) rfl (th_sI (by omega) (by omega)) (by decide) rfl (th_nb (by omega) (by omega)) (th_fb (by omega) (by omega)) kf_X12_498 dX12_goesAlong_211 (fun H211 locs hB hf hst211 => ?_)
              have hR := th_RC_F hB.1 hR hf (th_T_s h0 ro_46 hst211) (by decide)
              have fv_H211_22 : mo_f G H211 a0 22 = mo_f G HJ211 a0 22 := mo_f_F hf h0 (by decide) (by decide)
              have fv_H211_23 : mo_f G H211 a0 23 = mo_f G HJ211 a0 23 := mo_f_F hf h0 (by decide) (by decide)
              have fv_H211_25 : mo_f G H211 a0 25 = mo_f G HJ211 a0 25 := mo_f_F hf h0 (by decide) (by decide)
              have fv_H211_48 : mo_f G H211 a0 48 = mo_f G HJ211 a0 48 := mo_f_F hf h0 (by decide) (by decide)
              have fv_H211_50 : mo_f G H211 a0 50 = mo_f G HJ211 a0 50 := mo_f_F hf h0 (by decide) (by decide)
              have vv_H211_2 : mo_v G H211 a0 2 = mo_v G HJ211 a0 2 := mo_v_F (r := 48) hB.1 hf h0 rfl ro_48 (by decide) (by decide)
              replace hF := hF.trans (congrArg (dv_k f_X12_goesAlong_76b) (dv_bn (dv_putI hB.1 h0 ro_46 (j := 52) rfl (th_apart hC cf_X12) hst211 (Eq.refl _) (by decide))))
              have mm23 := hst211.2.1
              refine lv_aload_n hx hb dX12_goesAlong_214 rfl (lv_at hl 0 rfl) ?_
              refine lv_aload_n hx hb dX12_goesAlong_215 rfl (lv_at hl 0 rfl) ?_
              refine th_getK hC cf_X12 hB.1 h0 ro_46 rfl (j := 52) (by decide) mm23 kf_X12_498 dX12_goesAlong_216 ?_
              replace hF := hF.trans (congrArg (dv_k f_X12_goesAlong_76b) (dv_bn (dv_getI h0 ro_46 (j := 52) rfl mm23 (by decide))))
              have jn234 : ∀ (locs : List Loc) (ls : Array Slot) (s234_1 : Int32), th_B G Γ Γ [(46, 22), (46, 24), (46, 23), (46, 25), (46, 49), (46, 50), (46, 51), (46, 52), (69, 0)] H0 H211 locs → lv_has ls 5 [(0, .ref a0)] → F = dv_k f_X12_goesAlong_76b (f_X12_goesAlong_234 (dv G Γ H211) ((a0 : Int)) (s234_1.toInt)) → 0 ≤ s234_1.toInt → s234_1.toInt ≤ 1 → W p l e ({ frames := 50, cells := 0, slots := 0, locals := 1594 } : Room) s m ([.ref a0, .int p1, .int p2] : List Value).toArray below meth c H211 locs 0 0 (MQ below (th_Q (fun (v : Option Value) (H1 : Heap) => v = none ∧ th_I G Γ H1 ∧ th_F G Γ [(46, 22), (46, 24), (46, 23), (46, 25), (46, 49), (46, 50), (46, 51), (46, 52), (69, 0)] H0 H1 ∧ th_RC G Γ H1 ∧ (mo_f G H1 a0 22 = 2400 + j + 1) ∧ (f_X12_goesAlong (dv G Γ H0) (a0 : Int) p1.toInt p2.toInt = (dv G Γ H1, 0))) G) ([.ref a0, .int p1, .int p2] : List Value).toArray s 0 0 (fun q => G.2.2 ≤ q)) (F0 m 234 ls [.int s234_1, .ref a0]) := by
                intro locs ls s234_1 hB hl hF g234_0 g234_1
                have ls234_1 := ti_lo s234_1; have us234_1 := ti_hi s234_1
                replace hF := hF.trans (congrArg (dv_k f_X12_goesAlong_76b) (f_X12_goesAlong_234.eq_1 (dv G Γ H211) ((a0 : Int)) (s234_1.toInt)))
                refine th_put hC cf_X12 hB h0 (Or.inl h0) ro_46 rfl (j := 52) rfl (th_sI (by omega) (by omega)) (by decide) rfl (th_nb (by omega) (by omega)) (th_fb (by omega) (by omega)) kf_X12_498 dX12_goesAlong_234 (fun H234 locs hB hf hst234 => ?_)
                have hR := th_RC_F hB.1 hR hf (th_T_s h0 ro_46 hst234) (by decide)
                have fv_H234_22 : mo_f G H234 a0 22 = mo_f G H211 a0 22 := mo_f_F hf h0 (by decide) (by decide)
                have fv_H234_23 : mo_f G H234 a0 23 = mo_f G H211 a0 23 := mo_f_F hf h0 (by decide) (by decide)
                have fv_H234_25 : mo_f G H234 a0 25 = mo_f G H211 a0 25 := mo_f_F hf h0 (by decide) (by decide)
                have fv_H234_48 : mo_f G H234 a0 48 = mo_f G H211 a0 48 := mo_f_F hf h0 (by decide) (by decide)
                have fv_H234_50 : mo_f G H234 a0 50 = mo_f G H211 a0 50 := mo_f_F hf h0 (by decide) (by decide)
                have vv_H234_2 : mo_v G H234 a0 2 = mo_v G H211 a0 2 := mo_v_F (r := 48) hB.1 hf h0 rfl ro_48 (by decide) (by decide)
                replace hF := hF.trans (congrArg (dv_k f_X12_goesAlong_76b) (dv_bn (dv_putI hB.1 h0 ro_46 (j := 52) rfl (th_apart hC cf_X12) hst234 (Eq.refl _) (by decide))))
                refine lv_aload_n hx hb dX12_goesAlong_237 rfl (lv_at hl 0 rfl) ?_
                refine lv_dup hx hb dX12_goesAlong_238 rfl ?_
                refine th_getI (j := 22) hC cf_X12 hB.1 h0 ro_46 rfl rfl kf_X12_281 dX12_goesAlong_239 (fun x24 mx24 lx24 ux24 => ?_)
                replace hF := hF.trans (congrArg (dv_k f_X12_goesAlong_76b) (dv_bn (dv_getI h0 ro_46 (j := 22) rfl mx24 (by decide))))
                have fg25 : mo_f G H234 a0 22 = x24.toInt := mo_fat mx24
                refine lv_iconst (v := 1) hx hb dX12_goesAlong_242 (by decide) ?_
                refine tr_iadd hx hb dX12_goesAlong_243 (Eq.refl _) tk_1 (by omega) (by omega) (fun x26 ex26 => ?_)
                replace hF := hF.trans (congrArg (dv_k f_X12_goesAlong_76b) (dv_bn (ex26.symm)))
                refine th_put hC cf_X12 hB h0 (Or.inl h0) ro_46 rfl (j := 22) rfl th_sIa (by decide) rfl rfl rfl kf_X12_281 dX12_goesAlong_244 (fun H244 locs hB hf hst244 => ?_)
                have hR := th_RC_F hB.1 hR hf (th_T_s h0 ro_46 hst244) (by decide)
                have fv_H244_23 : mo_f G H244 a0 23 = mo_f G H234 a0 23 := mo_f_F hf h0 (by decide) (by decide)
                have fv_H244_25 : mo_f G H244 a0 25 = mo_f G H234 a0 25 := mo_f_F hf h0 (by decide) (by decide)
                have fv_H244_48 : mo_f G H244 a0 48 = mo_f G H234 a0 48 := mo_f_F hf h0 (by decide) (by decide)
                have fv_H244_50 : mo_f G H244 a0 50 = mo_f G H234 a0 50 := mo_f_F hf h0 (by decide) (by decide)
                have vv_H244_2 : mo_v G H244 a0 2 = mo_v G H234 a0 2 := mo_v_F (r := 48) hB.1 hf h0 rfl ro_48 (by decide) (by decide)
                replace hF := hF.trans (congrArg (dv_k f_X12_goesAlong_76b) (dv_bn (dv_putI hB.1 h0 ro_46 (j := 22) rfl (th_apart hC cf_X12) hst244 (Eq.refl _) (by decide))))
                have fp244 : mo_f G H244 a0 22 = x26.toInt := mo_f_St hst244
                replace hF := hF.trans (dv_kr)
                exact th_vret hC hH hr hlocks hB.2.1 ⟨rfl, hB.1, hB.2.2, hR, by omega, (hF0.symm.trans hF)⟩ dX12_goesAlong_247
              have jn233 : ∀ (locs : List Loc) (ls : Array Slot) , th_B G Γ Γ [(46, 22), (46, 24), (46, 23), (46, 25), (46, 49), (46, 50), (46, 51), (46, 52), (69, 0)] H0 H211 locs → lv_has ls 5 [(0, .ref a0)] → F = dv_k f_X12_goesAlong_76b (f_X12_goesAlong_233 (dv G Γ H211) ((a0 : Int))) → W p l e ({ frames := 50, cells := 0, slots := 0, locals := 1594 } : Room) s m ([.ref a0, .int p1, .int p2] : List Value).toArray below meth c H211 locs 0 0 (MQ below (th_Q (fun (v : Option Value) (H1 : Heap) => v = none ∧ th_I G Γ H1 ∧ th_F G Γ [(46, 22), (46, 24), (46, 23), (46, 25), (46, 49), (46, 50), (46, 51), (46, 52), (69, 0)] H0 H1 ∧ th_RC G Γ H1 ∧ (mo_f G H1 a0 22 = 2400 + j + 1) ∧ (f_X12_goesAlong (dv G Γ H0) (a0 : Int) p1.toInt p2.toInt = (dv G Γ H1, 0))) G) ([.ref a0, .int p1, .int p2] : List Value).toArray s 0 0 (fun q => G.2.2 ≤ q)) (F0 m 233 ls [.ref a0]) := by
                intro locs ls hB hl hF
                replace hF := hF.trans (congrArg (dv_k f_X12_goesAlong_76b) (f_X12_goesAlong_233.eq_1 (dv G Γ H211) ((a0 : Int))))
                refine lv_iconst (v := 0) hx hb dX12_goesAlong_233 (by decide) ?_
                exact jn234 locs ls 0 hB (lv_sub hl [0] rfl) (by rw [tk_0]; exact hF) (by decide) (by decide)
              refine tr_if_eq (tgt := 233) hx hb dX12_goesAlong_219 (by decide) (Eq.refl _) (fun c219 => ?_) (fun c219 => ?_)
              · replace hF := hF.trans (congrArg (dv_k f_X12_goesAlong_76b) (if_pos c219))
                exact jn233 locs ls hB (lv_sub hl [0] rfl) hF
              · replace hF := hF.trans (congrArg (dv_k f_X12_goesAlong_76b) (if_neg c219))
                refine lv_aload_n hx hb dX12_goesAlong_222 rfl (lv_at hl 0 rfl) ?_
                refine th_getI (j := 24) hC cf_X12 hB.1 h0 ro_46 rfl rfl kf_X12_291 dX12_goesAlong_223 (fun x27 mx27 lx27 ux27 => ?_)
                replace hF := hF.trans (congrArg (dv_k f_X12_goesAlong_76b) (dv_bn (dv_getI h0 ro_46 (j := 24) rfl mx27 (by decide))))
                refine tr_if_ne (tgt := 233) hx hb dX12_goesAlong_226 (by decide) (Eq.refl _) (fun c226 => ?_) (fun c226 => ?_)
                · replace hF := hF.trans (congrArg (dv_k f_X12_goesAlong_76b) (if_pos c226))
                  exact jn233 locs ls hB (lv_sub hl [0] rfl) hF
                · replace hF := hF.trans (congrArg (dv_k f_X12_goesAlong_76b) (if_neg (not_not_intro c226)))
                  refine lv_iconst (v := 1) hx hb dX12_goesAlong_229 (by decide) ?_
                  refine lv_goto (tgt := 234) hx hb dX12_goesAlong_230 (by decide) ?_
                  exact jn234 locs ls 1 hB (lv_sub hl [0] rfl) (by rw [tk_1]; exact hF) (by decide) (by decide)
            have jn206 : ∀ (H206 : Heap) (locs : List Loc) (ls : Array Slot) , th_B G Γ Γ [(46, 22), (46, 24), (46, 23), (46, 25), (46, 49), (46, 50), (46, 51), (46, 52), (69, 0)] H0 H206 locs → th_RC G Γ H206 → lv_has ls 5 [(0, .ref a0)] → F = dv_k f_X12_goesAlong_76b (f_X12_goesAlong_206 (dv G Γ H206) ((a0 : Int))) → mo_f G H206 a0 22 = B + j → W p l e ({ frames := 50, cells := 0, slots := 0, locals := 1594 } : Room) s m ([.ref a0, .int p1, .int p2] : List Value).toArray below meth c H206 locs 0 0 (MQ below (th_Q (fun (v : Option Value) (H1 : Heap) => v = none ∧ th_I G Γ H1 ∧ th_F G Γ [(46, 22), (46, 24), (46, 23), (46, 25), (46, 49), (46, 50), (46, 51), (46, 52), (69, 0)] H0 H1 ∧ th_RC G Γ H1 ∧ (mo_f G H1 a0 22 = 2400 + j + 1) ∧ (f_X12_goesAlong (dv G Γ H0) (a0 : Int) p1.toInt p2.toInt = (dv G Γ H1, 0))) G) ([.ref a0, .int p1, .int p2] : List Value).toArray s 0 0 (fun q => G.2.2 ≤ q)) (F0 m 206 ls [.ref a0]) := by
              intro H206 locs ls hB hR hl hF g206_0
              have fv28_48 : mo_f G H206 a0 48 = mo_f G H0 a0 48 := mo_f_F hB.2.2 h0 (by decide) (by decide)
              have vw_H206_2 : mo_v G H206 a0 2 = mo_v G H0 a0 2 := mo_v_F (r := 48) hB.1 hB.2.2 h0 rfl ro_48 (by decide) (by decide)
              replace hF := hF.trans (congrArg (dv_k f_X12_goesAlong_76b) (f_X12_goesAlong_206.eq_1 (dv G Γ H206) ((a0 : Int))))
              refine lv_iconst (v := 1) hx hb dX12_goesAlong_206 (by decide) ?_
              refine lv_goto (tgt := 211) hx hb dX12_goesAlong_207 (by decide) ?_
              exact jn211 H206 locs ls 1 hB hR (lv_sub hl [0] rfl) (by rw [tk_1]; exact hF) (by decide) (by decide) (by omega)
            refine tr_if_eq (tgt := 206) hx hb dX12_goesAlong_195 (by decide) (Eq.refl _) (fun c195 => ?_) (fun c195 => ?_)
            · replace hF := hF.trans (congrArg (dv_k f_X12_goesAlong_76b) (if_pos c195))
              exact jn206 H192 locs ls hB hR (lv_sub hl [0] rfl) hF (by have q9 := z192_1; rcases oI with ⟨qa, -⟩ | ⟨-, qa⟩; exact absurd qa (by omega); omega)
            · replace hF := hF.trans (congrArg (dv_k f_X12_goesAlong_76b) (if_neg c195))
              refine lv_aload_n hx hb dX12_goesAlong_198 rfl (lv_at hl 0 rfl) ?_
              refine lv_iload_n hx hb dX12_goesAlong_199 rfl (lv_at hl 1 rfl) ?_
              have ts : mo_test 1 T 8 (m2_ + 1) j := by rcases oI with ⟨-, q9⟩ | ⟨q9, -⟩; exact q9; exact absurd (show T m2_ = 4 by have q8 := z192_0; omega) q9
              refine th_call (th_runV (As := [.int p2]) (rest := [.ref a0]) hC mf_X12_testOf km_X12_335 im_X12_testOf se_X12_testOf (c_X12_testOf_d 8 l G Γ H192 hB.1 hR hU a0 h0 p2 (by omega) (by omega) B (m2_ + 1) j ⟨by omega, by omega, by omega, by omega⟩ (by rw [((mo_ce_T (mo_v_F (r := 48) hB.1 hB.2.2 h0 rfl ro_48 (by decide) (by decide)) (show mo_f G H192 a0 23 = B + n0 by omega)).trans eT.symm), show mo_f G H192 a0 25 = 1 by omega]; exact ts)) rfl rfl ⟨Nat.le_of_ble_eq_true rfl, Nat.le_of_ble_eq_true rfl⟩ hB.1 h0 ro_46 rfl rfl hl.1 rfl (Nat.le_of_ble_eq_true rfl) dX12_goesAlong_200 ⟨Nat.le_refl _, Nat.le_refl _⟩) hB.2.1 (fun v200 H200 locs hp hz hS => ?_)
              obtain ⟨x29, rfl, lx29, ux29, hI1, hf, hR, z200_0, z200_1⟩ := hp
              have hB := th_B_c hB hI1 hS hf (by decide)
              have fv_H200_23 : mo_f G H200 a0 23 = mo_f G H192 a0 23 := mo_f_F hf h0 (by decide) (by decide)
              have fv_H200_25 : mo_f G H200 a0 25 = mo_f G H192 a0 25 := mo_f_F hf h0 (by decide) (by decide)
              have fv_H200_48 : mo_f G H200 a0 48 = mo_f G H192 a0 48 := mo_f_F hf h0 (by decide) (by decide)
              have fv_H200_50 : mo_f G H200 a0 50 = mo_f G H192 a0 50 := mo_f_F hf h0 (by decide) (by decide)
              have vv_H200_2 : mo_v G H200 a0 2 = mo_v G H192 a0 2 := mo_v_F (r := 48) hB.1 hf h0 rfl ro_48 (by decide) (by decide)
              replace hF := hF.trans (congrArg (dv_k f_X12_goesAlong_76b) (dv_bn2 (z200_1)))
              refine W.eq (g2 := F0 m 203 ls [.int x29, .ref a0]) rfl ?_
              refine tr_if_eq (tgt := 210) hx hb dX12_goesAlong_203 (by decide) (Eq.refl _) (fun c203 => ?_) (fun c203 => ?_)
              · replace hF := hF.trans (congrArg (dv_k f_X12_goesAlong_76b) (if_pos c203))
                refine lv_iconst (v := 0) hx hb dX12_goesAlong_210 (by decide) ?_
                exact jn211 H200 locs ls 0 hB hR (lv_sub hl [0] rfl) (by rw [tk_0]; exact hF) (by decide) (by decide) (by omega)
              · replace hF := hF.trans (congrArg (dv_k f_X12_goesAlong_76b) (if_neg c203))
                exact jn206 H200 locs ls hB hR (lv_sub hl [0] rfl) hF (by omega)
          refine tr_if_eq (tgt := 184) hx hb dX12_goesAlong_154 (by decide) (Eq.refl _) (fun c154 => ?_) (fun c154 => ?_)
          · replace hF := hF.trans (congrArg (dv_k f_X12_goesAlong_76b) (if_pos c154))
            exact jn184 H151 locs ls hB hR (lv_sub hl [1, 2] rfl) hF (by have q9 := z151_1; rcases oT with ⟨qa, -⟩ | ⟨-, qa⟩; exact absurd qa (by omega); omega) (by omega) (by omega)
          · replace hF := hF.trans (congrArg (dv_k f_X12_goesAlong_76b) (if_neg c154))
            refine lv_aload_n hx hb dX12_goesAlong_157 rfl (lv_at hl 1 rfl) ?_
            have t2 : T (m_ + 1) = 50 ∧ m2_ = m_ + 2 := by rcases oT with ⟨-, qa, qb⟩ | ⟨qa, -⟩; exact ⟨qa, qb⟩; exact absurd (show T m_ = 27 by have q9 := z151_0; omega) qa
            have nzm := mo_tf_nz (k := mo_v G H0 a0 2) (b := 80 + B) (n := n0) (i := (m_ + 1)) (by rw [← eT]; exact by rw [t2.1]; decide)
            refine lv_aload_n hx hb dX12_goesAlong_158 rfl (lv_at hl 1 rfl) ?_
            refine th_getO (j := 2) (r2 := 48) hC cf_X12 hB.1 h0 ro_46 rfl rfl kf_X12_28 dX12_goesAlong_159 (fun b30 mb30 hb30 => ?_)
            refine lv_sipush (v := 2880) hx hb dX12_goesAlong_162 (by decide) ?_
            refine lv_aload_n hx hb dX12_goesAlong_165 rfl (lv_at hl 1 rfl) ?_
            refine th_getI (j := 22) hC cf_X12 hB.1 h0 ro_46 rfl rfl kf_X12_281 dX12_goesAlong_166 (fun x31 mx31 lx31 ux31 => ?_)
            replace hF := hF.trans (congrArg (dv_k f_X12_goesAlong_76b) (dv_bn (dv_getI h0 ro_46 (j := 22) rfl mx31 (by decide))))
            have fg32 : mo_f G H151 a0 22 = x31.toInt := mo_fat mx31
            refine tr_iadd hx hb dX12_goesAlong_169 tk_2880 (Eq.refl _) (by omega) (by omega) (fun x33 ex33 => ?_)
            replace hF := hF.trans (congrArg (dv_k f_X12_goesAlong_76b) (dv_bn (ex33.symm)))
            refine th_ialdF hC hB.1 hb30 ro_48 rfl (Eq.refl _) (by omega) (by omega) (ek_c (by omega) (by omega)) dX12_goesAlong_170 (fun x34 mx34 lx34 ux34 => ?_)
            replace hF := hF.trans (congrArg (dv_k f_X12_goesAlong_76b) (dv_bn (dv_aldI hB.1 hU hb30 ow_48 (z := x33.toInt) mx34 (by omega))))
            have vgx34 : mo_v G H0 a0 2 (2880 + x31.toInt) = x34.toInt := by rw [← (mo_v_F (r := 48) hB.1 hB.2.2 h0 rfl ro_48 (by decide) (by decide) : mo_v G H151 a0 2 = _)]; rw [show ((2880 + x31.toInt) : Int) = x33.toInt by omega]; exact mo_vat mb30 mx34 (by omega)
            refine th_put hC cf_X12 hB h0 (Or.inl h0) ro_46 rfl (j := 49) rfl th_sIa (by decide) rfl rfl rfl kf_X12_495 dX12_goesAlong_171 (fun H171 locs hB hf hst171 => ?_)
            have mm35 := (th_F_o hf h0 ro_46 (j := 22) (by decide) (by decide)).trans mx31
            have hR := th_RC_F hB.1 hR hf (th_T_s h0 ro_46 hst171) (by decide)
            have fv_H171_22 : mo_f G H171 a0 22 = mo_f G H151 a0 22 := mo_f_F hf h0 (by decide) (by decide)
            have fv_H171_23 : mo_f G H171 a0 23 = mo_f G H151 a0 23 := mo_f_F hf h0 (by decide) (by decide)
            have fv_H171_25 : mo_f G H171 a0 25 = mo_f G H151 a0 25 := mo_f_F hf h0 (by decide) (by decide)
            have fv_H171_48 : mo_f G H171 a0 48 = mo_f G H151 a0 48 := mo_f_F hf h0 (by decide) (by decide)
            have fv_H171_50 : mo_f G H171 a0 50 = mo_f G H151 a0 50 := mo_f_F hf h0 (by decide) (by decide)
            have vv_H171_2 : mo_v G H171 a0 2 = mo_v G H151 a0 2 := mo_v_F (r := 48) hB.1 hf h0 rfl ro_48 (by decide) (by decide)
            replace hF := hF.trans (congrArg (dv_k f_X12_goesAlong_76b) (dv_bn (dv_putI hB.1 h0 ro_46 (j := 49) rfl (th_apart hC cf_X12) hst171 (Eq.refl _) (by decide))))
            refine lv_aload_n hx hb dX12_goesAlong_174 rfl (lv_at hl 1 rfl) ?_
            refine lv_dup hx hb dX12_goesAlong_175 rfl ?_
            refine th_getK hC cf_X12 hB.1 h0 ro_46 rfl (j := 22) (by decide) mm35 kf_X12_281 dX12_goesAlong_176 ?_
            replace hF := hF.trans (congrArg (dv_k f_X12_goesAlong_76b) (dv_bn (dv_getI h0 ro_46 (j := 22) rfl mm35 (by decide))))
            have fg36 : mo_f G H171 a0 22 = x31.toInt := mo_fat mm35
            refine lv_iconst (v := 1) hx hb dX12_goesAlong_179 (by decide) ?_
            refine tr_iadd hx hb dX12_goesAlong_180 (Eq.refl _) tk_1 (by omega) (by omega) (fun x37 ex37 => ?_)
            replace hF := hF.trans (congrArg (dv_k f_X12_goesAlong_76b) (dv_bn (ex37.symm)))
            refine th_put hC cf_X12 hB h0 (Or.inl h0) ro_46 rfl (j := 22) rfl th_sIa (by decide) rfl rfl rfl kf_X12_281 dX12_goesAlong_181 (fun H181 locs hB hf hst181 => ?_)
            have hR := th_RC_F hB.1 hR hf (th_T_s h0 ro_46 hst181) (by decide)
            have fv_H181_23 : mo_f G H181 a0 23 = mo_f G H171 a0 23 := mo_f_F hf h0 (by decide) (by decide)
            have fv_H181_25 : mo_f G H181 a0 25 = mo_f G H171 a0 25 := mo_f_F hf h0 (by decide) (by decide)
            have fv_H181_48 : mo_f G H181 a0 48 = mo_f G H171 a0 48 := mo_f_F hf h0 (by decide) (by decide)
            have fv_H181_50 : mo_f G H181 a0 50 = mo_f G H171 a0 50 := mo_f_F hf h0 (by decide) (by decide)
            have vv_H181_2 : mo_v G H181 a0 2 = mo_v G H171 a0 2 := mo_v_F (r := 48) hB.1 hf h0 rfl ro_48 (by decide) (by decide)
            replace hF := hF.trans (congrArg (dv_k f_X12_goesAlong_76b) (dv_bn (dv_putI hB.1 h0 ro_46 (j := 22) rfl (th_apart hC cf_X12) hst181 (Eq.refl _) (by decide))))
            have fp181 : mo_f G H181 a0 22 = x37.toInt := mo_f_St hst181
            have mm38 := hst181.2.1
            exact jn184 H181 locs ls hB hR (lv_sub hl [1, 2] rfl) hF (by omega) (by omega) (by omega)
        · replace hF := hF.trans (congrArg (dv_k f_X12_goesAlong_76b) (if_neg (Int.not_le.mpr c79)))
          refine lv_iload hx hb dX12_goesAlong_82 (lv_at hl 3 rfl) ?_
          have sm := oS j76_4.toInt (by omega) (by omega)
          have ge82 := mo_gs_e (i := i) (p := p_) (q := q_) (m := m_) (k := j76_4.toInt) (by omega) (by omega)
          have nzs := mo_tf_nz (k := mo_v G H0 a0 2) (b := 80 + B) (n := n0) (i := (mo_st i p_ q_ j76_4.toInt)) (by rw [← eT]; exact (mo_sum_b sm).2.2)
          have jn97 : ∀ (H97 : Heap) (locs : List Loc) (ls : Array Slot) , th_B G Γ Γ [(46, 22), (46, 24), (46, 23), (46, 25), (46, 49), (46, 50), (46, 51), (46, 52), (69, 0)] H0 H97 locs → th_RC G Γ H97 → lv_has ls 5 [(3, .int s72_0), (0, .ref a0), (2, .int p2), (4, .int j76_4)] → F = dv_k f_X12_goesAlong_76b (f_X12_goesAlong_97 (dv G Γ H97) (s72_0.toInt) ((a0 : Int)) (p2.toInt) (j76_4.toInt)) → mo_f G H97 a0 22 = B + mo_st i p_ q_ j76_4.toInt → mo_f G H97 a0 23 = B + n0 → mo_f G H97 a0 25 = 1 → W p l e ({ frames := 50, cells := 0, slots := 0, locals := 1594 } : Room) s m ([.ref a0, .int p1, .int p2] : List Value).toArray below meth c H97 locs 0 0 (MQ below (th_Q (fun (v : Option Value) (H1 : Heap) => v = none ∧ th_I G Γ H1 ∧ th_F G Γ [(46, 22), (46, 24), (46, 23), (46, 25), (46, 49), (46, 50), (46, 51), (46, 52), (69, 0)] H0 H1 ∧ th_RC G Γ H1 ∧ (mo_f G H1 a0 22 = 2400 + j + 1) ∧ (f_X12_goesAlong (dv G Γ H0) (a0 : Int) p1.toInt p2.toInt = (dv G Γ H1, 0))) G) ([.ref a0, .int p1, .int p2] : List Value).toArray s 0 0 (fun q => G.2.2 ≤ q)) (F0 m 97 ls []) := by
            intro H97 locs ls hB hR hl hF g97_0 g97_1 g97_2
            have fv39_48 : mo_f G H97 a0 48 = mo_f G H0 a0 48 := mo_f_F hB.2.2 h0 (by decide) (by decide)
            have vw_H97_2 : mo_v G H97 a0 2 = mo_v G H0 a0 2 := mo_v_F (r := 48) hB.1 hB.2.2 h0 rfl ro_48 (by decide) (by decide)
            replace hF := hF.trans (congrArg (dv_k f_X12_goesAlong_76b) (f_X12_goesAlong_97.eq_1 (dv G Γ H97) (s72_0.toInt) ((a0 : Int)) (p2.toInt) (j76_4.toInt)))
            refine lv_aload_n hx hb dX12_goesAlong_97 rfl (lv_at hl 1 rfl) ?_
            refine lv_iconst (v := 0) hx hb dX12_goesAlong_98 (by decide) ?_
            refine th_put hC cf_X12 hB h0 (Or.inl h0) ro_46 rfl (j := 24) rfl (th_sI (by decide) (by decide)) (by decide) rfl narrow_b0 rfl kf_X12_291 dX12_goesAlong_99 (fun H99 locs hB hf hst99 => ?_)
            have hR := th_RC_F hB.1 hR hf (th_T_s h0 ro_46 hst99) (by decide)
            have fv_H99_22 : mo_f G H99 a0 22 = mo_f G H97 a0 22 := mo_f_F hf h0 (by decide) (by decide)
            have fv_H99_23 : mo_f G H99 a0 23 = mo_f G H97 a0 23 := mo_f_F hf h0 (by decide) (by decide)
            have fv_H99_25 : mo_f G H99 a0 25 = mo_f G H97 a0 25 := mo_f_F hf h0 (by decide) (by decide)
            have fv_H99_48 : mo_f G H99 a0 48 = mo_f G H97 a0 48 := mo_f_F hf h0 (by decide) (by decide)
            have fv_H99_50 : mo_f G H99 a0 50 = mo_f G H97 a0 50 := mo_f_F hf h0 (by decide) (by decide)
            have vv_H99_2 : mo_v G H99 a0 2 = mo_v G H97 a0 2 := mo_v_F (r := 48) hB.1 hf h0 rfl ro_48 (by decide) (by decide)
            replace hF := hF.trans (congrArg (dv_k f_X12_goesAlong_76b) (dv_bn (dv_putI hB.1 h0 ro_46 (j := 24) rfl (th_apart hC cf_X12) hst99 tk_0 (by decide))))
            have mm40 := hst99.2.1
            refine lv_aload_n hx hb dX12_goesAlong_102 rfl (lv_at hl 1 rfl) ?_
            refine th_getO (j := 53) (r2 := 69) hC cf_X12 hB.1 h0 ro_46 rfl rfl kf_X12_100 dX12_goesAlong_103 (fun b41 mb41 hb41 => ?_)
            have sb41 := (th_F_o hB.2.2 h0 ro_46 (j := 53) (by decide) (by decide)).symm.trans mb41
            refine lv_iload hx hb dX12_goesAlong_106 (lv_at hl 3 rfl) ?_
            refine lv_aload_n hx hb dX12_goesAlong_108 rfl (lv_at hl 1 rfl) ?_
            refine lv_iload_n hx hb dX12_goesAlong_109 rfl (lv_at hl 2 rfl) ?_
            refine th_call (th_runV (As := [.int p2]) (rest := [.int j76_4, .ref b41]) hC mf_X12_sumOf km_X12_308 im_X12_sumOf se_X12_sumOf (c_X12_sumOf_d 8 l G Γ H99 hB.1 hR hU a0 h0 p2 (by omega) (by omega) B (mo_st i p_ q_ j76_4.toInt) (mo_en p_ q_ m_ j76_4.toInt) ⟨by omega, by omega, by omega, by omega⟩ (by rw [((mo_ce_T (mo_v_F (r := 48) hB.1 hB.2.2 h0 rfl ro_48 (by decide) (by decide)) (show mo_f G H99 a0 23 = B + n0 by omega)).trans eT.symm), show mo_f G H99 a0 25 = 1 by omega]; exact sm)) rfl rfl ⟨Nat.le_of_ble_eq_true rfl, Nat.le_of_ble_eq_true rfl⟩ hB.1 h0 ro_46 rfl rfl hl.1 rfl (Nat.le_of_ble_eq_true rfl) dX12_goesAlong_110 ⟨Nat.le_refl _, Nat.le_refl _⟩) hB.2.1 (fun v110 H110 locs hp hz hS => ?_)
            obtain ⟨y42, rfl, hI1, hf, hR, z110_0, z110_1⟩ := hp
            have hB := th_B_c hB hI1 hS hf (by decide)
            have mm43 := (th_F_o hf h0 ro_46 (j := 53) (by decide) (by decide)).trans mb41
            have fv_H110_23 : mo_f G H110 a0 23 = mo_f G H99 a0 23 := mo_f_F hf h0 (by decide) (by decide)
            have fv_H110_25 : mo_f G H110 a0 25 = mo_f G H99 a0 25 := mo_f_F hf h0 (by decide) (by decide)
            have fv_H110_48 : mo_f G H110 a0 48 = mo_f G H99 a0 48 := mo_f_F hf h0 (by decide) (by decide)
            have fv_H110_50 : mo_f G H110 a0 50 = mo_f G H99 a0 50 := mo_f_F hf h0 (by decide) (by decide)
            have vv_H110_2 : mo_v G H110 a0 2 = mo_v G H99 a0 2 := mo_v_F (r := 48) hB.1 hf h0 rfl ro_48 (by decide) (by decide)
            replace hF := hF.trans (congrArg (dv_k f_X12_goesAlong_76b) (dv_bn2 (z110_1)))
            refine W.eq (g2 := F0 m 113 ls [.long y42, .int j76_4, .ref b41]) rfl ?_
            have hIo := hB.1
            refine th_lastF hC hB hb41 (Or.inl hb41) ro_69 rfl (by decide) (Eq.refl _) (by omega) (by omega) th_sLa dX12_goesAlong_113 (fun H113 locs hB hf113 hst113 => ?_)
            have hf := hf113
            have mm44 := (th_F_o hf h0 ro_46 (j := 53) (by decide) (by decide)).trans mm43
            have hR := th_RC_F hB.1 hR hf (th_T_s hb41 ro_69 hst113) (by decide)
            have fv_H113_22 : mo_f G H113 a0 22 = mo_f G H110 a0 22 := mo_f_F hf h0 (by decide) (by decide)
            have fv_H113_23 : mo_f G H113 a0 23 = mo_f G H110 a0 23 := mo_f_F hf h0 (by decide) (by decide)
            have fv_H113_25 : mo_f G H113 a0 25 = mo_f G H110 a0 25 := mo_f_F hf h0 (by decide) (by decide)
            have fv_H113_48 : mo_f G H113 a0 48 = mo_f G H110 a0 48 := mo_f_F hf h0 (by decide) (by decide)
            have fv_H113_50 : mo_f G H113 a0 50 = mo_f G H110 a0 50 := mo_f_F hf h0 (by decide) (by decide)
            have vv_H113_2 : mo_v G H113 a0 2 = mo_v G H110 a0 2 := mo_v_F (r := 48) hB.1 hf h0 rfl ro_48 (by decide) (by decide)
            replace hF := hF.trans (congrArg (dv_k f_X12_goesAlong_76b) (dv_bn (dv_stoL hIo hB.1 hU hb41 ow_69 (i := j76_4.toInt) hst113 (Eq.refl (y42.toInt)) (by omega))))
            refine lv_aload_n hx hb dX12_goesAlong_114 rfl (lv_at hl 1 rfl) ?_
            refine lv_aload_n hx hb dX12_goesAlong_115 rfl (lv_at hl 1 rfl) ?_
            refine th_getI (j := 51) hC cf_X12 hB.1 h0 ro_46 rfl rfl kf_X12_492 dX12_goesAlong_116 (fun x45 mx45 lx45 ux45 => ?_)
            replace hF := hF.trans (congrArg (dv_k f_X12_goesAlong_76b) (dv_bn (dv_getI h0 ro_46 (j := 51) rfl mx45 (by decide))))
            have jn134 : ∀ (locs : List Loc) (ls : Array Slot) (s134_1 : Int32), th_B G Γ Γ [(46, 22), (46, 24), (46, 23), (46, 25), (46, 49), (46, 50), (46, 51), (46, 52), (69, 0)] H0 H113 locs → lv_has ls 5 [(3, .int s72_0), (0, .ref a0), (2, .int p2), (4, .int j76_4)] → F = dv_k f_X12_goesAlong_76b (f_X12_goesAlong_134 (dv G Γ H113) (s72_0.toInt) ((a0 : Int)) (p2.toInt) (j76_4.toInt) (s134_1.toInt)) → 0 ≤ s134_1.toInt → s134_1.toInt ≤ 1 → W p l e ({ frames := 50, cells := 0, slots := 0, locals := 1594 } : Room) s m ([.ref a0, .int p1, .int p2] : List Value).toArray below meth c H113 locs 0 0 (MQ below (th_Q (fun (v : Option Value) (H1 : Heap) => v = none ∧ th_I G Γ H1 ∧ th_F G Γ [(46, 22), (46, 24), (46, 23), (46, 25), (46, 49), (46, 50), (46, 51), (46, 52), (69, 0)] H0 H1 ∧ th_RC G Γ H1 ∧ (mo_f G H1 a0 22 = 2400 + j + 1) ∧ (f_X12_goesAlong (dv G Γ H0) (a0 : Int) p1.toInt p2.toInt = (dv G Γ H1, 0))) G) ([.ref a0, .int p1, .int p2] : List Value).toArray s 0 0 (fun q => G.2.2 ≤ q)) (F0 m 134 ls [.int s134_1, .ref a0]) := by
              intro locs ls s134_1 hB hl hF g134_0 g134_1
              have ls134_1 := ti_lo s134_1; have us134_1 := ti_hi s134_1
              replace hF := hF.trans (congrArg (dv_k f_X12_goesAlong_76b) (f_X12_goesAlong_134.eq_1 (dv G Γ H113) (s72_0.toInt) ((a0 : Int)) (p2.toInt) (j76_4.toInt) (s134_1.toInt)))
              refine th_put hC cf_X12 hB h0 (Or.inl h0) ro_46 rfl (j := 51) rfl (th_sI (by omega) (by omega)) (by decide) rfl (th_nb (by omega) (by omega)) (th_fb (by omega) (by omega)) kf_X12_492 dX12_goesAlong_134 (fun H134 locs hB hf hst134 => ?_)
              have mm46 := (th_F_o hf h0 ro_46 (j := 53) (by decide) (by decide)).trans mm44
              have hR := th_RC_F hB.1 hR hf (th_T_s h0 ro_46 hst134) (by decide)
              have fv_H134_22 : mo_f G H134 a0 22 = mo_f G H113 a0 22 := mo_f_F hf h0 (by decide) (by decide)
              have fv_H134_23 : mo_f G H134 a0 23 = mo_f G H113 a0 23 := mo_f_F hf h0 (by decide) (by decide)
              have fv_H134_25 : mo_f G H134 a0 25 = mo_f G H113 a0 25 := mo_f_F hf h0 (by decide) (by decide)
              have fv_H134_48 : mo_f G H134 a0 48 = mo_f G H113 a0 48 := mo_f_F hf h0 (by decide) (by decide)
              have fv_H134_50 : mo_f G H134 a0 50 = mo_f G H113 a0 50 := mo_f_F hf h0 (by decide) (by decide)
              have vv_H134_2 : mo_v G H134 a0 2 = mo_v G H113 a0 2 := mo_v_F (r := 48) hB.1 hf h0 rfl ro_48 (by decide) (by decide)
              replace hF := hF.trans (congrArg (dv_k f_X12_goesAlong_76b) (dv_bn (dv_putI hB.1 h0 ro_46 (j := 51) rfl (th_apart hC cf_X12) hst134 (Eq.refl _) (by decide))))
              have mm47 := hst134.2.1
              refine tr_iinc (fun x48 => [(4, .int x48), (3, .int s72_0), (0, .ref a0), (2, .int p2)]) hx hb dX12_goesAlong_137 hl (k := 3) rfl (Eq.refl _) tk_1 (by omega) (by omega) (by decide) (fun _ => rfl) (fun x48 ls ex48 hl => ?_)
              replace hF := hF.trans (congrArg (dv_k f_X12_goesAlong_76b) (dv_bn (ex48.symm)))
              refine lv_goto (tgt := 76) hx hb dX12_goesAlong_140 (by decide) ?_
              replace hF := hF.trans (dv_kl)
              exact ih76 H134 locs ls x48 hB hR (lv_sub hl [1, 2, 3, 0] rfl) hF (by omega) (by omega) (by rw [show x48.toInt = j76_4.toInt + 1 by omega]; omega) (by omega) (by omega) (by omega) (by omega)
            have jn133 : ∀ (locs : List Loc) (ls : Array Slot) , th_B G Γ Γ [(46, 22), (46, 24), (46, 23), (46, 25), (46, 49), (46, 50), (46, 51), (46, 52), (69, 0)] H0 H113 locs → lv_has ls 5 [(3, .int s72_0), (0, .ref a0), (2, .int p2), (4, .int j76_4)] → F = dv_k f_X12_goesAlong_76b (f_X12_goesAlong_133 (dv G Γ H113) (s72_0.toInt) ((a0 : Int)) (p2.toInt) (j76_4.toInt)) → W p l e ({ frames := 50, cells := 0, slots := 0, locals := 1594 } : Room) s m ([.ref a0, .int p1, .int p2] : List Value).toArray below meth c H113 locs 0 0 (MQ below (th_Q (fun (v : Option Value) (H1 : Heap) => v = none ∧ th_I G Γ H1 ∧ th_F G Γ [(46, 22), (46, 24), (46, 23), (46, 25), (46, 49), (46, 50), (46, 51), (46, 52), (69, 0)] H0 H1 ∧ th_RC G Γ H1 ∧ (mo_f G H1 a0 22 = 2400 + j + 1) ∧ (f_X12_goesAlong (dv G Γ H0) (a0 : Int) p1.toInt p2.toInt = (dv G Γ H1, 0))) G) ([.ref a0, .int p1, .int p2] : List Value).toArray s 0 0 (fun q => G.2.2 ≤ q)) (F0 m 133 ls [.ref a0]) := by
              intro locs ls hB hl hF
              replace hF := hF.trans (congrArg (dv_k f_X12_goesAlong_76b) (f_X12_goesAlong_133.eq_1 (dv G Γ H113) (s72_0.toInt) ((a0 : Int)) (p2.toInt) (j76_4.toInt)))
              refine lv_iconst (v := 0) hx hb dX12_goesAlong_133 (by decide) ?_
              exact jn134 locs ls 0 hB (lv_sub hl [0, 1, 2, 3] rfl) (by rw [tk_0]; exact hF) (by decide) (by decide)
            refine tr_if_eq (tgt := 133) hx hb dX12_goesAlong_119 (by decide) (Eq.refl _) (fun c119 => ?_) (fun c119 => ?_)
            · replace hF := hF.trans (congrArg (dv_k f_X12_goesAlong_76b) (if_pos c119))
              exact jn133 locs ls hB (lv_sub hl [0, 1, 2, 3] rfl) hF
            · replace hF := hF.trans (congrArg (dv_k f_X12_goesAlong_76b) (if_neg c119))
              refine lv_aload_n hx hb dX12_goesAlong_122 rfl (lv_at hl 1 rfl) ?_
              refine th_getI (j := 24) hC cf_X12 hB.1 h0 ro_46 rfl rfl kf_X12_291 dX12_goesAlong_123 (fun x49 mx49 lx49 ux49 => ?_)
              replace hF := hF.trans (congrArg (dv_k f_X12_goesAlong_76b) (dv_bn (dv_getI h0 ro_46 (j := 24) rfl mx49 (by decide))))
              refine tr_if_ne (tgt := 133) hx hb dX12_goesAlong_126 (by decide) (Eq.refl _) (fun c126 => ?_) (fun c126 => ?_)
              · replace hF := hF.trans (congrArg (dv_k f_X12_goesAlong_76b) (if_pos c126))
                exact jn133 locs ls hB (lv_sub hl [0, 1, 2, 3] rfl) hF
              · replace hF := hF.trans (congrArg (dv_k f_X12_goesAlong_76b) (if_neg (not_not_intro c126)))
                refine lv_iconst (v := 1) hx hb dX12_goesAlong_129 (by decide) ?_
                refine lv_goto (tgt := 134) hx hb dX12_goesAlong_130 (by decide) ?_
                exact jn134 locs ls 1 hB (lv_sub hl [0, 1, 2, 3] rfl) (by rw [tk_1]; exact hF) (by decide) (by decide)
          refine tr_if_le (tgt := 97) hx hb dX12_goesAlong_84 (by decide) (Eq.refl _) (fun c84 => ?_) (fun c84 => ?_)
          · replace hF := hF.trans (congrArg (dv_k f_X12_goesAlong_76b) (if_pos c84))
            exact jn97 H76 locs ls hB hR (lv_sub hl [0, 1, 2, 3] rfl) hF (by have q9 := g76_2; rw [show j76_4.toInt = 0 by omega] at q9 ⊢; omega) (by omega) (by omega)
          · replace hF := hF.trans (congrArg (dv_k f_X12_goesAlong_76b) (if_neg (Int.not_le.mpr c84)))
            refine lv_aload_n hx hb dX12_goesAlong_87 rfl (lv_at hl 1 rfl) ?_
            refine lv_dup hx hb dX12_goesAlong_88 rfl ?_
            refine th_getI (j := 22) hC cf_X12 hB.1 h0 ro_46 rfl rfl kf_X12_281 dX12_goesAlong_89 (fun x50 mx50 lx50 ux50 => ?_)
            replace hF := hF.trans (congrArg (dv_k f_X12_goesAlong_76b) (dv_bn (dv_getI h0 ro_46 (j := 22) rfl mx50 (by decide))))
            have fg51 : mo_f G H76 a0 22 = x50.toInt := mo_fat mx50
            have q89 := mo_gs_s (i := i) (p := p_) (q := q_) (m := m_) (k := j76_4.toInt) (by omega) (by omega)
            refine lv_iconst (v := 1) hx hb dX12_goesAlong_92 (by decide) ?_
            refine tr_iadd hx hb dX12_goesAlong_93 (Eq.refl _) tk_1 (by omega) (by omega) (fun x52 ex52 => ?_)
            replace hF := hF.trans (congrArg (dv_k f_X12_goesAlong_76b) (dv_bn (ex52.symm)))
            refine th_put hC cf_X12 hB h0 (Or.inl h0) ro_46 rfl (j := 22) rfl th_sIa (by decide) rfl rfl rfl kf_X12_281 dX12_goesAlong_94 (fun H94 locs hB hf hst94 => ?_)
            have hR := th_RC_F hB.1 hR hf (th_T_s h0 ro_46 hst94) (by decide)
            have fv_H94_23 : mo_f G H94 a0 23 = mo_f G H76 a0 23 := mo_f_F hf h0 (by decide) (by decide)
            have fv_H94_25 : mo_f G H94 a0 25 = mo_f G H76 a0 25 := mo_f_F hf h0 (by decide) (by decide)
            have fv_H94_48 : mo_f G H94 a0 48 = mo_f G H76 a0 48 := mo_f_F hf h0 (by decide) (by decide)
            have fv_H94_50 : mo_f G H94 a0 50 = mo_f G H76 a0 50 := mo_f_F hf h0 (by decide) (by decide)
            have vv_H94_2 : mo_v G H94 a0 2 = mo_v G H76 a0 2 := mo_v_F (r := 48) hB.1 hf h0 rfl ro_48 (by decide) (by decide)
            replace hF := hF.trans (congrArg (dv_k f_X12_goesAlong_76b) (dv_bn (dv_putI hB.1 h0 ro_46 (j := 22) rfl (th_apart hC cf_X12) hst94 (Eq.refl _) (by decide))))
            have fp94 : mo_f G H94 a0 22 = x52.toInt := mo_f_St hst94
            have mm53 := hst94.2.1
            exact jn97 H94 locs ls hB hR (lv_sub hl [0, 1, 2, 3] rfl) hF (by have q9 := mo_gs_s (i := i) (p := p_) (q := q_) (m := m_) (k := j76_4.toInt) (by omega) (by omega); omega) (by omega) (by omega)
    exact lp76 ((2147483648 : Int) - (0)).toNat H42 locs ls 0 hB hR (lv_sub hl [1, 2, 3, 0] rfl) (by rw [tk_0]; exact hF) (by decide) (by decide) (by rw [show (0 : Int32).toInt = 0 from rfl]; omega) (by have w0 := tk_0; omega) (by have w0 := tk_0; omega) (by have w0 := tk_0; omega) (by have w0 := tk_0; omega)
  refine tr_icmp_ne (tgt := 58) hx hb dX12_goesAlong_51 (by decide) (Eq.refl _) tk_21 (fun c51 => ?_) (fun c51 => ?_)
  · replace hF := hF.trans (if_pos c51)
    refine lv_aload_n hx hb dX12_goesAlong_58 rfl (lv_at hl 0 rfl) ?_
    refine th_getK hC cf_X12 hB.1 h0 ro_46 rfl (j := 50) (by decide) mm12 kf_X12_489 dX12_goesAlong_59 ?_
    replace hF := hF.trans (dv_bn (dv_getI h0 ro_46 (j := 50) rfl mm12 (by decide)))
    have fg54 : mo_f G H42 a0 50 = x5.toInt := mo_fat mm12
    refine lv_bipush (v := 24) hx hb dX12_goesAlong_62 (by decide) ?_
    refine tr_icmp_ne (tgt := 71) hx hb dX12_goesAlong_64 (by decide) (Eq.refl _) tk_24 (fun c64 => ?_) (fun c64 => ?_)
    · replace hF := hF.trans (if_pos c64)
      refine lv_iconst (v := 0) hx hb dX12_goesAlong_71 (by decide) ?_
      exact jn72 locs ls 0 hB (lv_sub hl [0, 2] rfl) (by rw [tk_0]; exact hF) (by decide) (by decide) ((mo_ord_os od).2.2 (by omega) (by omega))
    · replace hF := hF.trans (if_neg (not_not_intro c64))
      refine lv_iconst (v := 1) hx hb dX12_goesAlong_67 (by decide) ?_
      refine lv_goto (tgt := 72) hx hb dX12_goesAlong_68 (by decide) ?_
      exact jn72 locs ls 1 hB (lv_sub hl [0, 2] rfl) (by rw [tk_1]; exact hF) (by decide) (by decide) ((mo_ord_os od).2.1 (by omega))
  · replace hF := hF.trans (if_neg (not_not_intro c51))
    refine lv_iconst (v := 3) hx hb dX12_goesAlong_54 (by decide) ?_
    refine lv_goto (tgt := 72) hx hb dX12_goesAlong_55 (by decide) ?_
    exact jn72 locs ls 3 hB (lv_sub hl [0, 2] rfl) (by rw [tk_3]; exact hF) (by decide) (by decide) ((mo_ord_os od).1 (by omega))
