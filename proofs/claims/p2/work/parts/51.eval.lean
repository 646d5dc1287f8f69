section MO5
variable {p : Program} {l : Launch} {e : Env} {R : Room} {s : State} {m : MethodId} {args : Array Value} {below : List Frame} {meth : Method} {c : Code} {H H0 : Heap} {locs : List Loc} {cells slots : Nat} {Q : State → Prop}
variable {cc : ByteArray} {pc : Nat} {ls : Array Slot} {rest : List Value} {G : th_G} {Γ Γ0 : th_Ga} {L : List (Nat × Nat)}
theorem ti_i2l {x : Int32} {y : Int64} (e : y = x.toInt64) : y.toInt = x.toInt := by
  rw [e]; exact Int32.toInt_toInt64 x
theorem ti_l2i {y : Int64} {x : Int32} (e : x = y.toInt32) (h0 : 0 ≤ y.toInt) (h1 : y.toInt ≤ 2147483647) : x.toInt = y.toInt := by
  rw [e, Int64.toInt_toInt32]; exact ti_bmod (by omega) (by omega)
theorem mo_ce_nz {a : Nat} {B m : Int} (h : mo_ce G H a B m ≠ 0) : 0 ≤ m ∧ B + m < mo_f G H a 23 := by
  unfold mo_ce mo_tf at h
  split at h
  · omega
  · exact absurd rfl h
theorem mo_ce_at {a : Nat} {B z r : Int} (hB : B ≤ z) (h1 : z < mo_f G H a 23 → mo_v G H a 2 (80 + z) = r) (h2 : mo_f G H a 23 ≤ z → r = 0) : r = mo_ce G H a B (z - B) := by
  unfold mo_ce mo_tf
  split
  · have := h1 (by omega)
    rw [← this]
    congr 1
    omega
  · exact h2 (by omega)
theorem mo_lp {R : Int → Int → Prop} {op : Int → Prop} {cv : Int → Int} {f B j : Int} (hR : ∀ i j, R i j → i < j) (h : ∃ m : Int, f = B + m ∧ 0 ≤ m ∧ mo_rest cv R op m j) : f ≤ B + j := by
  obtain ⟨m, h1, -, h2⟩ := h
  have := mo_rest_le hR h2
  omega
theorem mo_lpn {R : Int → Int → Prop} {cv : Int → Int} {f B j : Int} (hR : ∀ i j, R i j → i < j) (h : ∃ m : Int, f = B + m ∧ 0 ≤ m ∧ mo_nots cv R m j) : f ≤ B + j := by
  obtain ⟨m, h1, -, h2⟩ := h
  have := mo_nots_lt hR _ _ h2
  omega
theorem mo_ce_T {a : Nat} {B n : Int} {k : Int → Int} (hv : mo_v G H a 2 = k) (h : mo_f G H a 23 = B + n) : mo_ce G H a B = mo_tf k (80 + B) n := by
  unfold mo_ce
  rw [hv, h, show B + n - B = n by omega]
theorem mo_lpt {R : Int → Int → Prop} {op : Int → Prop} {cv : Int → Int} {f B n : Int} (hR : ∀ i j, R i j → i < j) (h : ∃ m : Int, f = B + m ∧ 0 ≤ m ∧ (m = n + 1 ∨ mo_chain cv R op m n)) : f ≤ B + n + 1 := by
  obtain ⟨m, h1, -, h2 | h2⟩ := h
  · omega
  · have := mo_chain_lt hR h2
    omega
theorem mo_tf_nz {k : Int → Int} {b n i : Int} (h : mo_tf k b n i ≠ 0) : 0 ≤ i ∧ i < n := by
  unfold mo_tf at h
  split at h
  · omega
  · exact absurd rfl h
end MO5
set_option maxHeartbeats 4000000 in
set_option maxRecDepth 100000 in
theorem c_X12_codeAt (l : Launch) (G : th_G) (Γ : th_Ga) (H0 : Heap) (hI : th_I G Γ H0) (hU : dv_U Γ) (a0 : Nat) (h0 : Γ a0 = (46, 0)) (p1 : Int32) (f1 : 0 ≤ p1.toInt) (B : Int) (k1 : mo_f G H0 a0 23 ≤ 2800) (k2 : 0 ≤ B ∧ B ≤ p1.toInt) : Met l yX12_codeAt (.code yX12_codeAt cX12_codeAt 2 (some FieldType.int) :: th_tb) ({ frames := 0, cells := 0, slots := 0, locals := 0 } : Room) (th_P [.ref a0, .int p1] G H0) (th_Q (fun (v : Option Value) (H1 : Heap) => ∃ r : Int32, v = some (.int r) ∧ (r.toInt = mo_ce G H0 a0 B (p1.toInt - B)) ∧ (f_X12_codeAt (dv G Γ H0) (a0 : Int) p1.toInt = (r.toInt, ())) ∧ H0 = H1) G) 0 0 (fun q => G.2.2 ≤ q) := by
  refine th_met RX12 (by decide) rfl (Nat.le_of_ble_eq_true rfl) ?_
  intro p e s m below meth c hC hH hr hlocks hnm ls hl
  have hx := hC.1
  have hb := hC.2.1
  have hB : th_B G Γ Γ [] H0 H0 [] := ⟨hI, va_S.rf, th_F_rf⟩
  have hl : lv_has ls 2 [(0, .ref a0), (1, .int p1)] := hl
  have lp1 := ti_lo p1; have up1 := ti_hi p1
  obtain ⟨F, hF0⟩ : ∃ F, F = f_X12_codeAt (dv G Γ H0) ((a0 : Int)) (p1.toInt) := ⟨_, rfl⟩
  have hF := hF0.trans (f_X12_codeAt.eq_1 (dv G Γ H0) ((a0 : Int)) (p1.toInt))
  refine lv_iload_n hx hb dX12_codeAt_0 rfl (lv_at hl 1 rfl) ?_
  refine lv_aload_n hx hb dX12_codeAt_1 rfl (lv_at hl 0 rfl) ?_
  refine th_getI (j := 23) hC cf_X12 hB.1 h0 ro_46 rfl rfl kf_X12_278 dX12_codeAt_2 (fun x1 mx1 lx1 ux1 => ?_)
  replace hF := hF.trans (dv_bn (dv_getI h0 ro_46 (j := 23) rfl mx1 (by decide)))
  have fg2 : mo_f G H0 a0 23 = x1.toInt := mo_fat mx1
  refine tr_icmp_ge (tgt := 20) hx hb dX12_codeAt_5 (by decide) (Eq.refl _) (Eq.refl _) (fun c5 => ?_) (fun c5 => ?_)
  · replace hF := hF.trans (if_pos c5)
    refine lv_iconst (v := 0) hx hb dX12_codeAt_20 (by decide) ?_
    exact th_iret hC hH hr hlocks rfl hB.2.1 ⟨_, rfl, mo_ce_at (by omega) (fun _ => by omega) (fun _ => by first | rfl | omega), (hF0.symm.trans (hF.trans (by rw [tk_0]))), rfl⟩ dX12_codeAt_21
  · replace hF := hF.trans (if_neg (Int.not_le.mpr c5))
    refine lv_aload_n hx hb dX12_codeAt_8 rfl (lv_at hl 0 rfl) ?_
    refine th_getO (j := 2) (r2 := 48) hC cf_X12 hB.1 h0 ro_46 rfl rfl kf_X12_28 dX12_codeAt_9 (fun b3 mb3 hb3 => ?_)
    refine lv_bipush (v := 80) hx hb dX12_codeAt_12 (by decide) ?_
    refine lv_iload_n hx hb dX12_codeAt_14 rfl (lv_at hl 1 rfl) ?_
    refine tr_iadd hx hb dX12_codeAt_15 tk_80 (Eq.refl _) (by omega) (by omega) (fun x4 ex4 => ?_)
    replace hF := hF.trans (dv_bn (ex4.symm))
    refine th_ialdF hC hB.1 hb3 ro_48 rfl (Eq.refl _) (by omega) (by omega) (ek_c (by omega) (by omega)) dX12_codeAt_16 (fun x5 mx5 lx5 ux5 => ?_)
    replace hF := hF.trans (dv_bn (dv_aldI hB.1 hU hb3 ow_48 (z := x4.toInt) mx5 (by omega)))
    have vgx5 : mo_v G H0 a0 2 (80 + p1.toInt) = x5.toInt := by rw [show ((80 + p1.toInt) : Int) = x4.toInt by omega]; exact mo_vat mb3 mx5 (by omega)
    refine lv_goto (tgt := 21) hx hb dX12_codeAt_17 (by decide) ?_
    exact th_iret hC hH hr hlocks rfl hB.2.1 ⟨_, rfl, mo_ce_at (by omega) (fun _ => by omega) (fun _ => by first | rfl | omega), (hF0.symm.trans hF), rfl⟩ dX12_codeAt_21

set_option maxHeartbeats 4000000 in
set_option maxRecDepth 100000 in
theorem c_X12_passes0 (l : Launch) (G : th_G) (Γ : th_Ga) (H0 : Heap) (hI : th_I G Γ H0) (hR : th_RC G Γ H0) (hU : dv_U Γ) (a0 : Nat) (h0 : Γ a0 = (46, 0)) (p1 : Int32) (f1 : 1 ≤ p1.toInt) (B i : Int) (k1 : 0 ≤ B ∧ 0 ≤ i ∧ mo_f G H0 a0 22 = B + i ∧ mo_f G H0 a0 23 ≤ 2800) : Met l yX12_passes0 (.code yX12_passes0 cX12_passes0 3 (some FieldType.boolean) :: th_tb) ({ frames := 1, cells := 0, slots := 0, locals := 21 } : Room) (th_P [.ref a0, .int p1] G H0) (th_Q (fun (v : Option Value) (H1 : Heap) => ∃ r : Int32, v = some (.int r) ∧ 0 ≤ r.toInt ∧ r.toInt ≤ 1 ∧ th_I G Γ H1 ∧ th_F G Γ [(46, 22)] H0 H1 ∧ th_RC G Γ H1 ∧ (r.toInt = 1 → mo_f G H1 a0 22 = B + i + 1 ∧ mo_ce G H0 a0 B i = p1.toInt) ∧ (r.toInt = 0 → mo_f G H1 a0 22 = B + i ∧ mo_ce G H0 a0 B i ≠ p1.toInt) ∧ (f_X12_passes0 (dv G Γ H0) (a0 : Int) p1.toInt = (dv G Γ H1, r.toInt))) G) 0 0 (fun q => G.2.2 ≤ q) := by
  refine th_met RX12 (by decide) rfl (Nat.le_of_ble_eq_true rfl) ?_
  intro p e s m below meth c hC hH hr hlocks hnm ls hl
  have hx := hC.1
  have hb := hC.2.1
  have hB : th_B G Γ Γ [(46, 22)] H0 H0 [] := ⟨hI, va_S.rf, th_F_rf⟩
  have hl : lv_has ls 3 [(0, .ref a0), (1, .int p1)] := hl
  have lp1 := ti_lo p1; have up1 := ti_hi p1
  obtain ⟨F, hF0⟩ : ∃ F, F = f_X12_passes0 (dv G Γ H0) ((a0 : Int)) (p1.toInt) := ⟨_, rfl⟩
  have hF := hF0.trans (f_X12_passes0.eq_1 (dv G Γ H0) ((a0 : Int)) (p1.toInt))
  refine lv_aload_n hx hb dX12_passes0_0 rfl (lv_at hl 0 rfl) ?_
  refine lv_aload_n hx hb dX12_passes0_1 rfl (lv_at hl 0 rfl) ?_
  refine th_getI (j := 22) hC cf_X12 hB.1 h0 ro_46 rfl rfl kf_X12_281 dX12_passes0_2 (fun x1 mx1 lx1 ux1 => ?_)
  replace hF := hF.trans (dv_bn (dv_getI h0 ro_46 (j := 22) rfl mx1 (by decide)))
  have fg2 : mo_f G H0 a0 22 = x1.toInt := mo_fat mx1
  refine th_call (th_runV (As := [.int x1]) (rest := []) hC mf_X12_codeAt km_X12_284 im_X12_codeAt se_X12_codeAt (c_X12_codeAt l G Γ H0 hB.1 hU a0 h0 x1 (by omega) B (by omega) (by omega)) rfl rfl ⟨Nat.le_of_ble_eq_true rfl, Nat.le_of_ble_eq_true rfl⟩ hB.1 h0 ro_46 rfl rfl hl.1 rfl (Nat.le_of_ble_eq_true rfl) dX12_passes0_5 ⟨Nat.le_refl _, Nat.le_refl _⟩) hB.2.1 (fun v5 H5 locs hp hz hS => ?_)
  obtain ⟨x3, rfl, q5_0, q5_1, rfl⟩ := hp
  have hB := th_B_s hB hS
  replace hF := hF.trans (dv_bn2 (q5_1))
  refine W.eq (g2 := F0 m 8 ls [.int x3]) rfl ?_
  have cd5 : mo_ce G H0 a0 B i = x3.toInt := by have q9 := q5_0; rw [mo_ce_F hB.1 hB.2.2 h0 (by decide)] at q9; rw [q9]; congr 1; omega
  refine lv_iload_n hx hb dX12_passes0_8 rfl (lv_at hl 1 rfl) ?_
  refine tr_icmp_ne (tgt := 16) hx hb dX12_passes0_9 (by decide) (Eq.refl _) (Eq.refl _) (fun c9 => ?_) (fun c9 => ?_)
  · replace hF := hF.trans (if_pos c9)
    refine lv_iconst (v := 0) hx hb dX12_passes0_16 (by decide) ?_
    refine lv_istore_n (lv' := [(2, .int 0), (0, .ref a0), (1, .int p1)]) hx hb dX12_passes0_17 rfl hl (by decide) rfl (fun ls hl => ?_)
    refine lv_iload_n hx hb dX12_passes0_18 rfl (lv_at hl 0 rfl) ?_
    refine tr_if_eq (tgt := 32) hx hb dX12_passes0_19 (by decide) tk_0 (fun c19 => ?_) (fun c19 => ?_)
    · refine lv_iload_n hx hb dX12_passes0_32 rfl (lv_at hl 0 rfl) ?_
      exact th_iret hC hH hr hlocks narrow_b0 hB.2.1 ⟨_, rfl, by decide, by decide, hB.1, hB.2.2, hR, by first | (intro h9; exact absurd h9 (by decide)) | (intro _; exact ⟨by omega, by omega⟩), by first | (intro h9; exact absurd h9 (by decide)) | (intro _; exact ⟨by omega, by omega⟩), (hF0.symm.trans (hF.trans (by rw [tk_0])))⟩ dX12_passes0_33
    · exfalso; omega
  · replace hF := hF.trans (if_neg (not_not_intro c9))
    refine lv_iconst (v := 1) hx hb dX12_passes0_12 (by decide) ?_
    refine lv_goto (tgt := 17) hx hb dX12_passes0_13 (by decide) ?_
    refine lv_istore_n (lv' := [(2, .int 1), (0, .ref a0), (1, .int p1)]) hx hb dX12_passes0_17 rfl hl (by decide) rfl (fun ls hl => ?_)
    refine lv_iload_n hx hb dX12_passes0_18 rfl (lv_at hl 0 rfl) ?_
    refine tr_if_eq (tgt := 32) hx hb dX12_passes0_19 (by decide) tk_1 (fun c19 => ?_) (fun c19 => ?_)
    · exfalso; omega
    · refine lv_aload_n hx hb dX12_passes0_22 rfl (lv_at hl 1 rfl) ?_
      refine lv_dup hx hb dX12_passes0_23 rfl ?_
      refine th_getK hC cf_X12 hB.1 h0 ro_46 rfl (j := 22) (by decide) mx1 kf_X12_281 dX12_passes0_24 ?_
      replace hF := hF.trans (dv_bn (dv_getI h0 ro_46 (j := 22) rfl mx1 (by decide)))
      have fg4 : mo_f G H0 a0 22 = x1.toInt := mo_fat mx1
      have nz24 := mo_ce_nz (show mo_ce G H0 a0 B i ≠ 0 by omega)
      refine lv_iconst (v := 1) hx hb dX12_passes0_27 (by decide) ?_
      refine tr_iadd hx hb dX12_passes0_28 (Eq.refl _) tk_1 (by omega) (by omega) (fun x5 ex5 => ?_)
      replace hF := hF.trans (dv_bn (ex5.symm))
      refine th_put hC cf_X12 hB h0 (Or.inl h0) ro_46 rfl (j := 22) rfl th_sIa (by decide) rfl rfl rfl kf_X12_281 dX12_passes0_29 (fun H29 locs hB hf hst29 => ?_)
      have hR := th_RC_F hB.1 hR hf (th_T_s h0 ro_46 hst29) (by decide)
      have fv_H29_23 : mo_f G H29 a0 23 = mo_f G H0 a0 23 := mo_f_F hf h0 (by decide) (by decide)
      replace hF := hF.trans (dv_bn (dv_putI hB.1 h0 ro_46 (j := 22) rfl (th_apart hC cf_X12) hst29 (Eq.refl _) (by decide)))
      have fp29 : mo_f G H29 a0 22 = x5.toInt := mo_f_St hst29
      refine lv_iload_n hx hb dX12_passes0_32 rfl (lv_at hl 0 rfl) ?_
      exact th_iret hC hH hr hlocks narrow_b1 hB.2.1 ⟨_, rfl, by decide, by decide, hB.1, hB.2.2, hR, by first | (intro h9; exact absurd h9 (by decide)) | (intro _; exact ⟨by omega, by omega⟩), by first | (intro h9; exact absurd h9 (by decide)) | (intro _; exact ⟨by omega, by omega⟩), (hF0.symm.trans (hF.trans (by rw [tk_1])))⟩ dX12_passes0_33

set_option maxHeartbeats 4000000 in
set_option maxRecDepth 100000 in
theorem c_X12_bounded (l : Launch) (G : th_G) (Γ : th_Ga) (H0 : Heap) (hI : th_I G Γ H0) (hR : th_RC G Γ H0) (hU : dv_U Γ) (a0 : Nat) (h0 : Γ a0 = (46, 0)) (p1 : Int64) (p2 : Int32) (f2 : 0 ≤ p2.toInt) (g2 : p2.toInt ≤ 1) : Met l yX12_bounded (.code yX12_bounded cX12_bounded 4 (some FieldType.long) :: th_tb) ({ frames := 0, cells := 0, slots := 0, locals := 0 } : Room) (th_P [.ref a0, .long p1, .int p2] G H0) (th_Q (fun (v : Option Value) (H1 : Heap) => ∃ r : Int64, v = some (.long r) ∧ th_I G Γ H1 ∧ th_F G Γ [(46, 24)] H0 H1 ∧ th_RC G Γ H1 ∧ (f_X12_bounded (dv G Γ H0) (a0 : Int) p1.toInt p2.toInt = (dv G Γ H1, r.toInt))) G) 0 0 (fun q => G.2.2 ≤ q) := by
  refine th_met RX12 (by decide) rfl (Nat.le_of_ble_eq_true rfl) ?_
  intro p e s m below meth c hC hH hr hlocks hnm ls hl
  have hx := hC.1
  have hb := hC.2.1
  have hB : th_B G Γ Γ [(46, 24)] H0 H0 [] := ⟨hI, va_S.rf, th_F_rf⟩
  have hl : lv_has ls 4 [(0, .ref a0), (1, .long p1), (3, .int p2)] := hl
  have lp2 := ti_lo p2; have up2 := ti_hi p2
  obtain ⟨F, hF0⟩ : ∃ F, F = f_X12_bounded (dv G Γ H0) ((a0 : Int)) (p1.toInt) (p2.toInt) := ⟨_, rfl⟩
  have hF := hF0.trans (f_X12_bounded.eq_1 (dv G Γ H0) ((a0 : Int)) (p1.toInt) (p2.toInt))
  refine lv_iload_n hx hb dX12_bounded_0 rfl (lv_at hl 2 rfl) ?_
  have jn25 : ∀ (H25 : Heap) (locs : List Loc) (ls : Array Slot) , th_B G Γ Γ [(46, 24)] H0 H25 locs → th_RC G Γ H25 → lv_has ls 4 [(0, .ref a0), (1, .long p1)] → F = f_X12_bounded_25 (dv G Γ H25) ((a0 : Int)) (p1.toInt) → W p l e ({ frames := 0, cells := 0, slots := 0, locals := 0 } : Room) s m ([.ref a0, .long p1, .int p2] : List Value).toArray below meth c H25 locs 0 0 (MQ below (th_Q (fun (v : Option Value) (H1 : Heap) => ∃ r : Int64, v = some (.long r) ∧ th_I G Γ H1 ∧ th_F G Γ [(46, 24)] H0 H1 ∧ th_RC G Γ H1 ∧ (f_X12_bounded (dv G Γ H0) (a0 : Int) p1.toInt p2.toInt = (dv G Γ H1, r.toInt))) G) ([.ref a0, .long p1, .int p2] : List Value).toArray s 0 0 (fun q => G.2.2 ≤ q)) (F0 m 25 ls []) := by
    intro H25 locs ls hB hR hl hF
    replace hF := hF.trans (f_X12_bounded_25.eq_1 (dv G Γ H25) ((a0 : Int)) (p1.toInt))
    refine lv_aload_n hx hb dX12_bounded_25 rfl (lv_at hl 0 rfl) ?_
    refine th_getI (j := 24) hC cf_X12 hB.1 h0 ro_46 rfl rfl kf_X12_291 dX12_bounded_26 (fun x1 mx1 lx1 ux1 => ?_)
    replace hF := hF.trans (dv_bn (dv_getI h0 ro_46 (j := 24) rfl mx1 (by decide)))
    refine tr_if_eq (tgt := 36) hx hb dX12_bounded_29 (by decide) (Eq.refl _) (fun c29 => ?_) (fun c29 => ?_)
    · replace hF := hF.trans (if_pos c29)
      refine lv_lload_n hx hb dX12_bounded_36 rfl (lv_at hl 1 rfl) ?_
      exact th_lret hC hH hr hlocks hB.2.1 ⟨_, rfl, hB.1, hB.2.2, hR, (hF0.symm.trans hF)⟩ dX12_bounded_37
    · replace hF := hF.trans (if_neg c29)
      refine lv_lconst (v := 0) hx hb dX12_bounded_32 rfl ?_
      refine lv_goto (tgt := 37) hx hb dX12_bounded_33 (by decide) ?_
      exact th_lret hC hH hr hlocks hB.2.1 ⟨_, rfl, hB.1, hB.2.2, hR, (hF0.symm.trans (hF.trans (by rw [show (0 : Int64).toInt = 0 from rfl])))⟩ dX12_bounded_37
  refine tr_if_eq (tgt := 25) hx hb dX12_bounded_1 (by decide) (Eq.refl _) (fun c1 => ?_) (fun c1 => ?_)
  · replace hF := hF.trans (if_pos c1)
    exact jn25 H0 [] ls hB hR (lv_sub hl [0, 1] rfl) hF
  · replace hF := hF.trans (if_neg c1)
    refine lv_lload_n hx hb dX12_bounded_4 rfl (lv_at hl 1 rfl) ?_
    refine lv_ldc2 (v := 1000000000) hx hb hC.2.2.2.1 (hC.2.2.2.2.1 _ kw_1502) dX12_bounded_5 ?_
    refine tr_lcmp2 hx hb dX12_bounded_8 (fun x2 fx2 gx2 ix2 => ?_)
    replace hF := hF.trans (dv_bn (dv_lcmp_e (Eq.refl (p1.toInt)) (rfl : (1000000000 : Int64).toInt = 1000000000) fx2 ix2))
    have jn20 : ∀ (locs : List Loc) (ls : Array Slot) , th_B G Γ Γ [(46, 24)] H0 H0 locs → lv_has ls 4 [(0, .ref a0), (1, .long p1)] → F = f_X12_bounded_20 (dv G Γ H0) ((a0 : Int)) (p1.toInt) → W p l e ({ frames := 0, cells := 0, slots := 0, locals := 0 } : Room) s m ([.ref a0, .long p1, .int p2] : List Value).toArray below meth c H0 locs 0 0 (MQ below (th_Q (fun (v : Option Value) (H1 : Heap) => ∃ r : Int64, v = some (.long r) ∧ th_I G Γ H1 ∧ th_F G Γ [(46, 24)] H0 H1 ∧ th_RC G Γ H1 ∧ (f_X12_bounded (dv G Γ H0) (a0 : Int) p1.toInt p2.toInt = (dv G Γ H1, r.toInt))) G) ([.ref a0, .long p1, .int p2] : List Value).toArray s 0 0 (fun q => G.2.2 ≤ q)) (F0 m 20 ls []) := by
      intro locs ls hB hl hF
      replace hF := hF.trans (f_X12_bounded_20.eq_1 (dv G Γ H0) ((a0 : Int)) (p1.toInt))
      refine lv_aload_n hx hb dX12_bounded_20 rfl (lv_at hl 0 rfl) ?_
      refine lv_iconst (v := 1) hx hb dX12_bounded_21 (by decide) ?_
      refine th_put hC cf_X12 hB h0 (Or.inl h0) ro_46 rfl (j := 24) rfl (th_sI (by decide) (by decide)) (by decide) rfl narrow_b1 rfl kf_X12_291 dX12_bounded_22 (fun H22 locs hB hf hst22 => ?_)
      have hR := th_RC_F hB.1 hR hf (th_T_s h0 ro_46 hst22) (by decide)
      replace hF := hF.trans (dv_bn (dv_putI hB.1 h0 ro_46 (j := 24) rfl (th_apart hC cf_X12) hst22 tk_1 (by decide)))
      have mm3 := hst22.2.1
      exact jn25 H22 locs ls hB hR (lv_sub hl [0, 1] rfl) hF
    refine tr_if_gt (tgt := 20) hx hb dX12_bounded_9 (by decide) (Eq.refl _) (fun c9 => ?_) (fun c9 => ?_)
    · replace hF := hF.trans (if_pos c9)
      exact jn20 [] ls hB (lv_sub hl [0, 1] rfl) hF
    · replace hF := hF.trans (if_neg (Int.not_lt.mpr c9))
      refine lv_lload_n hx hb dX12_bounded_12 rfl (lv_at hl 1 rfl) ?_
      refine lv_ldc2 (v := (-1000000000)) hx hb hC.2.2.2.1 (hC.2.2.2.2.1 _ kw_1503) dX12_bounded_13 ?_
      refine tr_lcmp2 hx hb dX12_bounded_16 (fun x4 fx4 gx4 ix4 => ?_)
      replace hF := hF.trans (dv_bn (dv_lcmp_e (Eq.refl (p1.toInt)) (rfl : ((-1000000000) : Int64).toInt = (-1000000000)) fx4 ix4))
      refine tr_if_ge (tgt := 25) hx hb dX12_bounded_17 (by decide) (Eq.refl _) (fun c17 => ?_) (fun c17 => ?_)
      · replace hF := hF.trans (if_pos c17)
        exact jn25 H0 [] ls hB hR (lv_sub hl [0, 1] rfl) hF
      · replace hF := hF.trans (if_neg (Int.not_le.mpr c17))
        exact jn20 [] ls hB (lv_sub hl [0, 1] rfl) hF

set_option maxHeartbeats 4000000 in
set_option maxRecDepth 100000 in
theorem c_X12_orderValue (l : Launch) (G : th_G) (Γ : th_Ga) (H0 : Heap) (hI : th_I G Γ H0) (hU : dv_U Γ) (a0 : Nat) (h0 : Γ a0 = (46, 0)) (p1 : Int32) (p2 : Int32) : Met l yX12_orderValue (.code yX12_orderValue cX12_orderValue 3 (some FieldType.int) :: th_tb) ({ frames := 2, cells := 0, slots := 0, locals := 43 } : Room) (th_P [.ref a0, .int p1, .int p2] G H0) (th_Q (fun (v : Option Value) (H1 : Heap) => ∃ r : Int32, v = some (.int r) ∧ (f_X12_orderValue (dv G Γ H0) (a0 : Int) p1.toInt p2.toInt = (r.toInt, ())) ∧ H0 = H1) G) 0 0 (fun q => G.2.2 ≤ q) := by
  refine th_met RX12 (by decide) rfl (Nat.le_of_ble_eq_true rfl) ?_
  intro p e s m below meth c hC hH hr hlocks hnm ls hl
  have hx := hC.1
  have hb := hC.2.1
  have hB : th_B G Γ Γ [] H0 H0 [] := ⟨hI, va_S.rf, th_F_rf⟩
  have hl : lv_has ls 3 [(0, .ref a0), (1, .int p1), (2, .int p2)] := hl
  have lp1 := ti_lo p1; have up1 := ti_hi p1
  have lp2 := ti_lo p2; have up2 := ti_hi p2
  obtain ⟨F, hF0⟩ : ∃ F, F = f_X12_orderValue (dv G Γ H0) ((a0 : Int)) (p1.toInt) (p2.toInt) := ⟨_, rfl⟩
  have hF := hF0.trans (f_X12_orderValue.eq_1 (dv G Γ H0) ((a0 : Int)) (p1.toInt) (p2.toInt))
  refine lv_iload_n hx hb dX12_orderValue_0 rfl (lv_at hl 1 rfl) ?_
  by_cases k1_0 : p1.toInt = 14
  · replace hF := hF.trans (if_pos k1_0)
    refine lv_tableIn (off := 43) (tgt := 44) hx hb dX12_orderValue_1 (by omega) (by omega) (by rw [show p1.toInt = 14 from k1_0]; decide) (by decide) ?_
    refine lv_aload_n hx hb dX12_orderValue_44 rfl (lv_at hl 0 rfl) ?_
    refine lv_iload_n hx hb dX12_orderValue_45 rfl (lv_at hl 2 rfl) ?_
    refine th_call (th_runV (As := [.int p2]) (rest := []) hC mf_X12_isCarpet km_X12_134 im_X12_isCarpet se_X12_isCarpet (c_X12_isCarpet l G Γ H0 hB.1 hU a0 h0 p2) rfl rfl ⟨Nat.le_of_ble_eq_true rfl, Nat.le_of_ble_eq_true rfl⟩ hB.1 h0 ro_46 rfl rfl hl.1 rfl (Nat.le_of_ble_eq_true rfl) dX12_orderValue_46 ⟨Nat.le_refl _, Nat.le_refl _⟩) hB.2.1 (fun v46 H46 locs hp hz hS => ?_)
    obtain ⟨x1, rfl, lx1, ux1, q46_0, q46_1, rfl⟩ := hp
    have hB := th_B_s hB hS
    replace hF := hF.trans (dv_bn2 (q46_1))
    refine W.eq (g2 := F0 m 49 ls [.int x1]) rfl ?_
    refine tr_if_eq (tgt := 63) hx hb dX12_orderValue_49 (by decide) (Eq.refl _) (fun c49 => ?_) (fun c49 => ?_)
    · replace hF := hF.trans (if_pos c49)
      refine lv_iconst (v := (-1)) hx hb dX12_orderValue_63 (by decide) ?_
      exact th_iret hC hH hr hlocks rfl hB.2.1 ⟨_, rfl, (hF0.symm.trans (hF.trans (by rw [tk_m1]))), rfl⟩ dX12_orderValue_64
    · replace hF := hF.trans (if_neg c49)
      refine lv_aload_n hx hb dX12_orderValue_52 rfl (lv_at hl 0 rfl) ?_
      refine th_getO (j := 2) (r2 := 48) hC cf_X12 hB.1 h0 ro_46 rfl rfl kf_X12_28 dX12_orderValue_53 (fun b2 mb2 hb2 => ?_)
      refine lv_iconst (v := 0) hx hb dX12_orderValue_56 (by decide) ?_
      refine lv_iload_n hx hb dX12_orderValue_57 rfl (lv_at hl 2 rfl) ?_
      refine tr_iadd hx hb dX12_orderValue_58 tk_0 (Eq.refl _) (by omega) (by omega) (fun x3 ex3 => ?_)
      replace hF := hF.trans (dv_bn (ex3.symm))
      refine th_ialdF hC hB.1 hb2 ro_48 rfl (Eq.refl _) (by omega) (by omega) (ek_a (by omega) (by omega)) dX12_orderValue_59 (fun x4 mx4 lx4 ux4 => ?_)
      replace hF := hF.trans (dv_bn (dv_aldI hB.1 hU hb2 ow_48 (z := x3.toInt) mx4 (by omega)))
      refine lv_goto (tgt := 64) hx hb dX12_orderValue_60 (by decide) ?_
      exact th_iret hC hH hr hlocks rfl hB.2.1 ⟨_, rfl, (hF0.symm.trans hF), rfl⟩ dX12_orderValue_64
  replace hF := hF.trans (if_neg k1_0)
  by_cases k1_1 : p1.toInt = 15
  · replace hF := hF.trans (if_pos k1_1)
    refine lv_tableIn (off := 90) (tgt := 91) hx hb dX12_orderValue_1 (by omega) (by omega) (by rw [show p1.toInt = 15 from k1_1]; decide) (by decide) ?_
    refine lv_aload_n hx hb dX12_orderValue_91 rfl (lv_at hl 0 rfl) ?_
    refine th_getO (j := 2) (r2 := 48) hC cf_X12 hB.1 h0 ro_46 rfl rfl kf_X12_28 dX12_orderValue_92 (fun b5 mb5 hb5 => ?_)
    refine lv_bipush (v := 28) hx hb dX12_orderValue_95 (by decide) ?_
    refine th_ialdF hC hB.1 hb5 ro_48 rfl tk_28 (by omega) (by omega) (ek_a (by omega) (by omega)) dX12_orderValue_97 (fun x6 mx6 lx6 ux6 => ?_)
    replace hF := hF.trans (dv_bn (dv_aldI hB.1 hU hb5 ow_48 (z := 28) mx6 (by omega)))
    exact th_iret hC hH hr hlocks rfl hB.2.1 ⟨_, rfl, (hF0.symm.trans hF), rfl⟩ dX12_orderValue_98
  replace hF := hF.trans (if_neg k1_1)
  by_cases k1_2 : p1.toInt = 16
  · replace hF := hF.trans (if_pos k1_2)
    refine lv_tableIn (off := 98) (tgt := 99) hx hb dX12_orderValue_1 (by omega) (by omega) (by rw [show p1.toInt = 16 from k1_2]; decide) (by decide) ?_
    refine lv_aload_n hx hb dX12_orderValue_99 rfl (lv_at hl 0 rfl) ?_
    refine th_getI (j := 27) hC cf_X12 hB.1 h0 ro_46 rfl rfl kf_X12_317 dX12_orderValue_100 (fun x7 mx7 lx7 ux7 => ?_)
    replace hF := hF.trans (dv_bn (dv_getI h0 ro_46 (j := 27) rfl mx7 (by decide)))
    exact th_iret hC hH hr hlocks rfl hB.2.1 ⟨_, rfl, (hF0.symm.trans hF), rfl⟩ dX12_orderValue_103
  replace hF := hF.trans (if_neg k1_2)
  by_cases k1_3 : p1.toInt = 17
  · replace hF := hF.trans (if_pos k1_3)
    refine lv_tableIn (off := 103) (tgt := 104) hx hb dX12_orderValue_1 (by omega) (by omega) (by rw [show p1.toInt = 17 from k1_3]; decide) (by decide) ?_
    refine lv_aload_n hx hb dX12_orderValue_104 rfl (lv_at hl 0 rfl) ?_
    refine th_getI (j := 28) hC cf_X12 hB.1 h0 ro_46 rfl rfl kf_X12_320 dX12_orderValue_105 (fun x8 mx8 lx8 ux8 => ?_)
    replace hF := hF.trans (dv_bn (dv_getI h0 ro_46 (j := 28) rfl mx8 (by decide)))
    exact th_iret hC hH hr hlocks rfl hB.2.1 ⟨_, rfl, (hF0.symm.trans hF), rfl⟩ dX12_orderValue_108
  replace hF := hF.trans (if_neg k1_3)
  by_cases k1_4 : p1.toInt = 18
  · replace hF := hF.trans (if_pos k1_4)
    refine lv_tableIn (off := 108) (tgt := 109) hx hb dX12_orderValue_1 (by omega) (by omega) (by rw [show p1.toInt = 18 from k1_4]; decide) (by decide) ?_
    refine lv_aload_n hx hb dX12_orderValue_109 rfl (lv_at hl 0 rfl) ?_
    refine th_call (th_runV (As := []) (rest := []) hC mf_X12_bareMany km_X12_323 im_X12_bareMany se_X12_bareMany (c_X12_bareMany l G Γ H0 hB.1 hU a0 h0) rfl rfl ⟨Nat.le_of_ble_eq_true rfl, Nat.le_of_ble_eq_true rfl⟩ hB.1 h0 ro_46 rfl rfl hl.1 rfl (Nat.le_of_ble_eq_true rfl) dX12_orderValue_110 ⟨Nat.le_refl _, Nat.le_refl _⟩) hB.2.1 (fun v110 H110 locs hp hz hS => ?_)
    obtain ⟨x9, rfl, lx9, ux9, q110_0, q110_1, rfl⟩ := hp
    have hB := th_B_s hB hS
    replace hF := hF.trans (dv_bn2 (q110_1))
    refine W.eq (g2 := F0 m 113 ls [.int x9]) rfl ?_
    exact th_iret hC hH hr hlocks rfl hB.2.1 ⟨_, rfl, (hF0.symm.trans hF), rfl⟩ dX12_orderValue_113
  replace hF := hF.trans (if_neg k1_4)
  by_cases k1_5 : p1.toInt = 19
  · replace hF := hF.trans (if_pos k1_5)
    refine lv_tableIn (off := 113) (tgt := 114) hx hb dX12_orderValue_1 (by omega) (by omega) (by rw [show p1.toInt = 19 from k1_5]; decide) (by decide) ?_
    refine lv_aload_n hx hb dX12_orderValue_114 rfl (lv_at hl 0 rfl) ?_
    refine th_getO (j := 2) (r2 := 48) hC cf_X12 hB.1 h0 ro_46 rfl rfl kf_X12_28 dX12_orderValue_115 (fun b10 mb10 hb10 => ?_)
    refine lv_bipush (v := 27) hx hb dX12_orderValue_118 (by decide) ?_
    refine th_ialdF hC hB.1 hb10 ro_48 rfl tk_27 (by omega) (by omega) (ek_a (by omega) (by omega)) dX12_orderValue_120 (fun x11 mx11 lx11 ux11 => ?_)
    replace hF := hF.trans (dv_bn (dv_aldI hB.1 hU hb10 ow_48 (z := 27) mx11 (by omega)))
    exact th_iret hC hH hr hlocks rfl hB.2.1 ⟨_, rfl, (hF0.symm.trans hF), rfl⟩ dX12_orderValue_121
  replace hF := hF.trans (if_neg k1_5)
  by_cases k1_6 : p1.toInt = 20
  · replace hF := hF.trans (if_pos k1_6)
    refine lv_tableIn (off := 64) (tgt := 65) hx hb dX12_orderValue_1 (by omega) (by omega) (by rw [show p1.toInt = 20 from k1_6]; decide) (by decide) ?_
    refine lv_aload_n hx hb dX12_orderValue_65 rfl (lv_at hl 0 rfl) ?_
    refine lv_iload_n hx hb dX12_orderValue_66 rfl (lv_at hl 2 rfl) ?_
    refine th_call (th_runV (As := [.int p2]) (rest := []) hC mf_X12_isCarpet km_X12_134 im_X12_isCarpet se_X12_isCarpet (c_X12_isCarpet l G Γ H0 hB.1 hU a0 h0 p2) rfl rfl ⟨Nat.le_of_ble_eq_true rfl, Nat.le_of_ble_eq_true rfl⟩ hB.1 h0 ro_46 rfl rfl hl.1 rfl (Nat.le_of_ble_eq_true rfl) dX12_orderValue_67 ⟨Nat.le_refl _, Nat.le_refl _⟩) hB.2.1 (fun v67 H67 locs hp hz hS => ?_)
    obtain ⟨x12, rfl, lx12, ux12, q67_0, q67_1, rfl⟩ := hp
    have hB := th_B_s hB hS
    replace hF := hF.trans (dv_bn2 (q67_1))
    refine W.eq (g2 := F0 m 70 ls [.int x12]) rfl ?_
    refine tr_if_ne (tgt := 77) hx hb dX12_orderValue_70 (by decide) (Eq.refl _) (fun c70 => ?_) (fun c70 => ?_)
    · replace hF := hF.trans (if_pos c70)
      refine lv_aload_n hx hb dX12_orderValue_77 rfl (lv_at hl 0 rfl) ?_
      refine lv_iload_n hx hb dX12_orderValue_78 rfl (lv_at hl 2 rfl) ?_
      refine th_call (th_runV (As := [.int p2]) (rest := []) hC mf_X12_isLaid km_X12_137 im_X12_isLaid se_X12_isLaid (c_X12_isLaid l G Γ H0 hB.1 hU a0 h0 p2 (by omega) (by omega)) rfl rfl ⟨Nat.le_of_ble_eq_true rfl, Nat.le_of_ble_eq_true rfl⟩ hB.1 h0 ro_46 rfl rfl hl.1 rfl (Nat.le_of_ble_eq_true rfl) dX12_orderValue_79 ⟨Nat.le_refl _, Nat.le_refl _⟩) hB.2.1 (fun v79 H79 locs hp hz hS => ?_)
      obtain ⟨x13, rfl, lx13, ux13, q79_0, q79_1, q79_2, rfl⟩ := hp
      have hB := th_B_s hB hS
      replace hF := hF.trans (dv_bn2 (q79_2))
      refine W.eq (g2 := F0 m 82 ls [.int x13]) rfl ?_
      refine tr_if_eq (tgt := 89) hx hb dX12_orderValue_82 (by decide) (Eq.refl _) (fun c82 => ?_) (fun c82 => ?_)
      · replace hF := hF.trans (if_pos c82)
        refine lv_iconst (v := 0) hx hb dX12_orderValue_89 (by decide) ?_
        exact th_iret hC hH hr hlocks rfl hB.2.1 ⟨_, rfl, (hF0.symm.trans (hF.trans (by rw [tk_0]))), rfl⟩ dX12_orderValue_90
      · replace hF := hF.trans (if_neg c82)
        refine lv_iconst (v := 1) hx hb dX12_orderValue_85 (by decide) ?_
        refine lv_goto (tgt := 90) hx hb dX12_orderValue_86 (by decide) ?_
        exact th_iret hC hH hr hlocks rfl hB.2.1 ⟨_, rfl, (hF0.symm.trans (hF.trans (by rw [tk_1]))), rfl⟩ dX12_orderValue_90
    · replace hF := hF.trans (if_neg (not_not_intro c70))
      refine lv_iconst (v := (-1)) hx hb dX12_orderValue_73 (by decide) ?_
      refine lv_goto (tgt := 90) hx hb dX12_orderValue_74 (by decide) ?_
      exact th_iret hC hH hr hlocks rfl hB.2.1 ⟨_, rfl, (hF0.symm.trans (hF.trans (by rw [tk_m1]))), rfl⟩ dX12_orderValue_90
  replace hF := hF.trans (if_neg k1_6)
  refine lv_tableOut (tgt := 114) hx hb dX12_orderValue_1 (by omega) (by decide) ?_
  refine lv_aload_n hx hb dX12_orderValue_114 rfl (lv_at hl 0 rfl) ?_
  refine th_getO (j := 2) (r2 := 48) hC cf_X12 hB.1 h0 ro_46 rfl rfl kf_X12_28 dX12_orderValue_115 (fun b14 mb14 hb14 => ?_)
  refine lv_bipush (v := 27) hx hb dX12_orderValue_118 (by decide) ?_
  refine th_ialdF hC hB.1 hb14 ro_48 rfl tk_27 (by omega) (by omega) (ek_a (by omega) (by omega)) dX12_orderValue_120 (fun x15 mx15 lx15 ux15 => ?_)
  replace hF := hF.trans (dv_bn (dv_aldI hB.1 hU hb14 ow_48 (z := 27) mx15 (by omega)))
  exact th_iret hC hH hr hlocks rfl hB.2.1 ⟨_, rfl, (hF0.symm.trans hF), rfl⟩ dX12_orderValue_121
