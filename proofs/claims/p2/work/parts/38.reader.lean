def th_RI (G : th_G) (Γ : th_Ga) (H : Heap) (a : Nat) : Prop := ∃ (tb o f : Nat) (v : Int32), th_sl H a (G.1.2 5 0) = .ref tb ∧ Γ tb = (21, o) ∧ f ≤ 400 ∧ th_sl H tb f = .int (-1) ∧ th_sl H a (G.1.2 5 5) = .int v ∧ 0 ≤ v.toInt ∧ v.toInt ≤ (f : Int)
def th_TK (G : th_G) (Γ : th_Ga) (H : Heap) (a : Nat) : Prop := ∃ (tb o : Nat) (v w : Int32), th_sl H a (G.1.2 5 0) = .ref tb ∧ Γ tb = (21, o) ∧ th_sl H a (G.1.2 5 5) = .int v ∧ th_sl H tb v.toInt.toNat = .int w ∧ w.toInt ≠ -1
def th_RD (G : th_G) (Γ : th_Ga) (H : Heap) : Prop := th_RC G Γ H ∧ ∀ a o : Nat, Γ a = (20, o) → th_RI G Γ H a
theorem th_RI_F {G : th_G} {Γ : th_Ga} {L : List (Nat × Nat)} {H H1 : Heap} {a o : Nat} (h : th_RI G Γ H a) (ha : Γ a = (20, o)) (hF : th_F G Γ L H H1) (hL : th_in L 20 0 = false ∧ th_in L 20 5 = false ∧ th_in L 21 0 = false) : th_RI G Γ H1 a := by
  obtain ⟨tb, o', f, v, e1, e2, e3, e4, e5, e6⟩ := h
  exact ⟨tb, o', f, v, (th_F_o hF ha ro_20 (j := 0) (by decide) hL.1).trans e1, e2, e3, (th_F_a hF e2 ro_21 hL.2.2 _).trans e4, (th_F_o hF ha ro_20 (j := 5) (by decide) hL.2.1).trans e5, e6⟩
theorem th_TK_F {G : th_G} {Γ : th_Ga} {L : List (Nat × Nat)} {H H1 : Heap} {a o : Nat} (h : th_TK G Γ H a) (ha : Γ a = (20, o)) (hF : th_F G Γ L H H1) (hL : th_in L 20 0 = false ∧ th_in L 20 5 = false ∧ th_in L 21 0 = false) : th_TK G Γ H1 a := by
  obtain ⟨tb, o', v, w, e1, e2, e5, e4, e6⟩ := h
  exact ⟨tb, o', v, w, (th_F_o hF ha ro_20 (j := 0) (by decide) hL.1).trans e1, e2, (th_F_o hF ha ro_20 (j := 5) (by decide) hL.2.1).trans e5, (th_F_a hF e2 ro_21 hL.2.2 _).trans e4, e6⟩
theorem th_RD_c {G : th_G} {Γ : th_Ga} {L : List (Nat × Nat)} {H H1 : Heap} (h1 : th_RC G Γ H1) (h : th_RD G Γ H) (hF : th_F G Γ L H H1) (hL : th_in L 20 0 = false ∧ th_in L 20 5 = false ∧ th_in L 21 0 = false) : th_RD G Γ H1 := ⟨h1, fun a o ha => th_RI_F (h.2 a o ha) ha hF hL⟩
theorem th_RI_at {G : th_G} {Γ : th_Ga} {H : Heap} {a : Nat} {x : Int32} (h : th_RI G Γ H a) (e : th_sl H a (G.1.2 5 5) = .int x) : 0 ≤ x.toInt ∧ x.toInt ≤ 400 := by
  obtain ⟨tb, o', f, v, e1, e2, e3, e4, e5, e6, e7⟩ := h
  have e8 : Value.int x = .int v := e.symm.trans e5
  have e9 : x = v := by injection e8
  rw [e9]
  exact ⟨e6, by omega⟩
theorem th_RD_up {G : th_G} {Γ : th_Ga} {H H1 : Heap} {a o : Nat} {x z : Int32} (hap : G.1.2 5 0 ≠ G.1.2 5 5) (h : th_RI G Γ H a) (hk : th_TK G Γ H a) (ha : Γ a = (20, o)) (e : th_sl H a (G.1.2 5 5) = .int x) (hz : z.toInt = x.toInt + 1) (hst : th_St H H1 a (G.1.2 5 5) (.int z)) : th_RI G Γ H1 a := by
  obtain ⟨tb, o', f, v, e1, e2, e3, e4, e5, e6, e7⟩ := h
  obtain ⟨tb', o2, v', w, d1, d2, d3, d4, d5⟩ := hk
  have e8 : Value.int x = .int v := e.symm.trans e5
  have e9 : x = v := by injection e8
  have f7 : Value.int x = .int v' := e.symm.trans d3
  have f8 : x = v' := by injection f7
  have t7 : Value.ref tb = .ref tb' := e1.symm.trans d1
  have t8 : tb = tb' := by injection t7
  have hx : x.toInt = v.toInt := by rw [e9]
  have hne : x.toInt.toNat ≠ f := by
    intro q
    rw [← f8, ← t8, q, e4] at d4
    have w7 : (-1 : Int32) = w := by injection d4
    exact d5 (by rw [← w7]; rfl)
  have hq : tb ≠ a := by
    intro q
    rw [q, ha] at e2
    cases e2
  exact ⟨tb, o', f, z, (hst.2.2.1 _ hap).trans e1, e2, e3, (th_sl_kept (hst.2.2.2.1 tb hq) _).trans e4, hst.2.1, by omega, by omega⟩
theorem th_RD_F {G : th_G} {Γ : th_Ga} {L : List (Nat × Nat)} {H H1 : Heap} (hI : th_I G Γ H1) (h : th_RD G Γ H) (hF : th_F G Γ L H H1) (hT : th_T Γ H H1) (hs : L.all (fun q => !th_RCs.contains q) = true ∧ th_in L 20 0 = false ∧ th_in L 20 5 = false ∧ th_in L 21 0 = false) : th_RD G Γ H1 := th_RD_c (th_RC_F hI h.1 hF hT hs.1) h hF hs.2
theorem th_RD_st {G : th_G} {Γ : th_Ga} {H H1 : Heap} {a0 i : Nat} {v : Value} (h1 : th_RC G Γ H1) (h : th_RD G Γ H) (ha : Γ a0 = (20, 0)) (hst : th_St H H1 a0 i v) (hri : th_RI G Γ H1 a0) : th_RD G Γ H1 := by
  refine ⟨h1, fun a o hg => ?_⟩
  by_cases e : a = a0
  · rw [e]; exact hri
  · obtain ⟨tb, o', f, x, e1, e2, e3, e4, e5, e6⟩ := h.2 a o hg
    have hq : tb ≠ a0 := by
      intro q
      rw [q, ha] at e2
      cases e2
    exact ⟨tb, o', f, x, (th_sl_kept (hst.2.2.2.1 a e) _).trans e1, e2, e3, (th_sl_kept (hst.2.2.2.1 tb hq) _).trans e4, (th_sl_kept (hst.2.2.2.1 a e) _).trans e5, e6⟩
theorem th_RI_same {G : th_G} {Γ : th_Ga} {H H1 : Heap} {a o : Nat} {x z : Int32} (hap : G.1.2 5 0 ≠ G.1.2 5 5) (h : th_RI G Γ H a) (ha : Γ a = (20, o)) (e : th_sl H a (G.1.2 5 5) = .int x) (hz : z.toInt = x.toInt) (hst : th_St H H1 a (G.1.2 5 5) (.int z)) : th_RI G Γ H1 a := by
  obtain ⟨tb, o', f, v, e1, e2, e3, e4, e5, e6, e7⟩ := h
  have e8 : Value.int x = .int v := e.symm.trans e5
  have e9 : x = v := by injection e8
  have hx : x.toInt = v.toInt := by rw [e9]
  have hq : tb ≠ a := by
    intro q
    rw [q, ha] at e2
    cases e2
  exact ⟨tb, o', f, z, (hst.2.2.1 _ hap).trans e1, e2, e3, (th_sl_kept (hst.2.2.2.1 tb hq) _).trans e4, hst.2.1, by omega, by omega⟩
theorem th_TKi_F {G : th_G} {Γ : th_Ga} {L : List (Nat × Nat)} {H H1 : Heap} {a o : Nat} {P : Prop} (h : P → th_TK G Γ H a) (ha : Γ a = (20, o)) (hF : th_F G Γ L H H1) (hL : th_in L 20 0 = false ∧ th_in L 20 5 = false ∧ th_in L 21 0 = false) : P → th_TK G Γ H1 a := fun q => th_TK_F (h q) ha hF hL
set_option maxHeartbeats 4000000 in
set_option maxRecDepth 100000 in
theorem c_X5_seenToken (l : Launch) (G : th_G) (Γ : th_Ga) (H0 : Heap) (hI : th_I G Γ H0) (hR : th_RD G Γ H0) (hU : dv_U Γ) (a0 : Nat) (h0 : Γ a0 = (20, 0)) : Met l yX5_seenToken (.code yX5_seenToken cX5_seenToken 1 (some FieldType.int) :: th_tb) ({ frames := 0, cells := 0, slots := 0, locals := 0 } : Room) (th_P [.ref a0] G H0) (th_Q (fun (v : Option Value) (H1 : Heap) => ∃ r : Int32, v = some (.int r) ∧ (r.toInt ≠ -1 → th_TK G Γ H0 a0) ∧ (f_X5_seenToken (dv G Γ H0) (a0 : Int) = (r.toInt, ())) ∧ H0 = H1) G) 0 0 (fun q => G.2.2 ≤ q) := by
  refine th_met RX5 (by decide) rfl (Nat.le_of_ble_eq_true rfl) ?_
  intro p e s m below meth c hC hH hr hlocks hnm ls hl
  have hx := hC.1
  have hb := hC.2.1
  have hB : th_B G Γ Γ [] H0 H0 [] := ⟨hI, va_S.rf, th_F_rf⟩
  have hl : lv_has ls 1 [(0, .ref a0)] := hl
  obtain ⟨F, hF0⟩ : ∃ F, F = f_X5_seenToken (dv G Γ H0) ((a0 : Int)) := ⟨_, rfl⟩
  have hF := hF0.trans (f_X5_seenToken.eq_1 (dv G Γ H0) ((a0 : Int)))
  refine lv_aload_n hx hb dX5_seenToken_0 rfl (lv_at hl 0 rfl) ?_
  refine th_getI (j := 8) hC cf_X5 hB.1 h0 ro_20 rfl rfl kf_X5_40 dX5_seenToken_1 (fun x1 mx1 lx1 ux1 => ?_)
  replace hF := hF.trans (dv_bn (dv_getI h0 ro_20 (j := 8) rfl mx1 (by decide)))
  refine lv_iconst (v := (-1)) hx hb dX5_seenToken_4 (by decide) ?_
  refine tr_icmp_ne (tgt := 20) hx hb dX5_seenToken_5 (by decide) (Eq.refl _) tk_m1 (fun c5 => ?_) (fun c5 => ?_)
  · replace hF := hF.trans (if_pos c5)
    refine lv_iconst (v := (-1)) hx hb dX5_seenToken_20 (by decide) ?_
    exact th_iret hC hH hr hlocks rfl hB.2.1 ⟨_, rfl, by first | (intro h9; exact absurd rfl h9) | (intro h9; exact ⟨_, _, _, _, mb2, hb2, mx3, mx4, h9⟩), (hF0.symm.trans (hF.trans (by rw [tk_m1]))), rfl⟩ dX5_seenToken_21
  · replace hF := hF.trans (if_neg (not_not_intro c5))
    refine lv_aload_n hx hb dX5_seenToken_8 rfl (lv_at hl 0 rfl) ?_
    refine th_getO (j := 0) (r2 := 21) hC cf_X5 hB.1 h0 ro_20 rfl rfl kf_X5_11 dX5_seenToken_9 (fun b2 mb2 hb2 => ?_)
    refine lv_aload_n hx hb dX5_seenToken_12 rfl (lv_at hl 0 rfl) ?_
    refine th_getI (j := 5) hC cf_X5 hB.1 h0 ro_20 rfl rfl kf_X5_30 dX5_seenToken_13 (fun x3 mx3 lx3 ux3 => ?_)
    obtain ⟨rax3, rbx3⟩ := th_RI_at (hR.2 _ _ h0) mx3
    replace hF := hF.trans (dv_bn (dv_getI h0 ro_20 (j := 5) rfl mx3 (by decide)))
    refine th_ialdF hC hB.1 hb2 ro_21 rfl (Eq.refl _) (by omega) (by omega) rfl dX5_seenToken_16 (fun x4 mx4 lx4 ux4 => ?_)
    replace hF := hF.trans (dv_bn (dv_aldI hB.1 hU hb2 ow_21 (z := x3.toInt) mx4 (by omega)))
    refine lv_goto (tgt := 21) hx hb dX5_seenToken_17 (by decide) ?_
    exact th_iret hC hH hr hlocks rfl hB.2.1 ⟨_, rfl, by first | (intro h9; exact absurd rfl h9) | (intro h9; exact ⟨_, _, _, _, mb2, hb2, mx3, mx4, h9⟩), (hF0.symm.trans hF), rfl⟩ dX5_seenToken_21

set_option maxHeartbeats 4000000 in
set_option maxRecDepth 100000 in
theorem c_X5_fail (l : Launch) (G : th_G) (Γ : th_Ga) (H0 : Heap) (hI : th_I G Γ H0) (hR : th_RD G Γ H0) (hU : dv_U Γ) (a0 : Nat) (h0 : Γ a0 = (20, 0)) : Met l yX5_fail (.code yX5_fail cX5_fail 1 (none) :: th_tb) ({ frames := 0, cells := 0, slots := 0, locals := 0 } : Room) (th_P [.ref a0] G H0) (th_Q (fun (v : Option Value) (H1 : Heap) => v = none ∧ th_I G Γ H1 ∧ th_F G Γ [(20, 8)] H0 H1 ∧ th_RD G Γ H1 ∧ (f_X5_fail (dv G Γ H0) (a0 : Int) = (dv G Γ H1, 0))) G) 0 0 (fun q => G.2.2 ≤ q) := by
  refine th_met RX5 (by decide) rfl (Nat.le_of_ble_eq_true rfl) ?_
  intro p e s m below meth c hC hH hr hlocks hnm ls hl
  have hx := hC.1
  have hb := hC.2.1
  have hB : th_B G Γ Γ [(20, 8)] H0 H0 [] := ⟨hI, va_S.rf, th_F_rf⟩
  have hl : lv_has ls 1 [(0, .ref a0)] := hl
  obtain ⟨F, hF0⟩ : ∃ F, F = f_X5_fail (dv G Γ H0) ((a0 : Int)) := ⟨_, rfl⟩
  have hF := hF0.trans (f_X5_fail.eq_1 (dv G Γ H0) ((a0 : Int)))
  refine lv_aload_n hx hb dX5_fail_0 rfl (lv_at hl 0 rfl) ?_
  refine th_getI (j := 8) hC cf_X5 hB.1 h0 ro_20 rfl rfl kf_X5_40 dX5_fail_1 (fun x1 mx1 lx1 ux1 => ?_)
  replace hF := hF.trans (dv_bn (dv_getI h0 ro_20 (j := 8) rfl mx1 (by decide)))
  refine lv_iconst (v := (-1)) hx hb dX5_fail_4 (by decide) ?_
  refine tr_icmp_ne (tgt := 21) hx hb dX5_fail_5 (by decide) (Eq.refl _) tk_m1 (fun c5 => ?_) (fun c5 => ?_)
  · replace hF := hF.trans (if_pos c5)
    exact th_vret hC hH hr hlocks hB.2.1 ⟨rfl, hB.1, hB.2.2, hR, (hF0.symm.trans hF)⟩ dX5_fail_21
  · replace hF := hF.trans (if_neg (not_not_intro c5))
    refine lv_aload_n hx hb dX5_fail_8 rfl (lv_at hl 0 rfl) ?_
    refine lv_aload_n hx hb dX5_fail_9 rfl (lv_at hl 0 rfl) ?_
    refine th_getO (j := 1) (r2 := 22) hC cf_X5 hB.1 h0 ro_20 rfl rfl kf_X5_15 dX5_fail_10 (fun b2 mb2 hb2 => ?_)
    refine lv_aload_n hx hb dX5_fail_13 rfl (lv_at hl 0 rfl) ?_
    refine th_getI (j := 5) hC cf_X5 hB.1 h0 ro_20 rfl rfl kf_X5_30 dX5_fail_14 (fun x3 mx3 lx3 ux3 => ?_)
    obtain ⟨rax3, rbx3⟩ := th_RI_at (hR.2 _ _ h0) mx3
    replace hF := hF.trans (dv_bn (dv_getI h0 ro_20 (j := 5) rfl mx3 (by decide)))
    refine th_ialdF hC hB.1 hb2 ro_22 rfl (Eq.refl _) (by omega) (by omega) rfl dX5_fail_17 (fun x4 mx4 lx4 ux4 => ?_)
    replace hF := hF.trans (dv_bn (dv_aldI hB.1 hU hb2 ow_22 (z := x3.toInt) mx4 (by omega)))
    refine th_put hC cf_X5 hB h0 (Or.inl h0) ro_20 rfl (j := 8) rfl th_sIa (by decide) rfl rfl rfl kf_X5_40 dX5_fail_18 (fun H18 locs hB hf hst18 => ?_)
    have hR := th_RD_F hB.1 hR hf (th_T_s h0 ro_20 hst18) (by decide)
    replace hF := hF.trans (dv_bn (dv_putI hB.1 h0 ro_20 (j := 8) rfl (th_apart hC cf_X5) hst18 (Eq.refl _) (by decide)))
    exact th_vret hC hH hr hlocks hB.2.1 ⟨rfl, hB.1, hB.2.2, hR, (hF0.symm.trans hF)⟩ dX5_fail_21

set_option maxHeartbeats 4000000 in
set_option maxRecDepth 100000 in
theorem c_X5_take (l : Launch) (G : th_G) (Γ : th_Ga) (H0 : Heap) (hI : th_I G Γ H0) (hR : th_RD G Γ H0) (hU : dv_U Γ) (a0 : Nat) (h0 : Γ a0 = (20, 0)) (p1 : Int32) (f1 : 0 ≤ p1.toInt) : Met l yX5_take (.code yX5_take cX5_take 2 (some FieldType.boolean) :: th_tb) ({ frames := 0, cells := 0, slots := 0, locals := 0 } : Room) (th_P [.ref a0, .int p1] G H0) (th_Q (fun (v : Option Value) (H1 : Heap) => ∃ r : Int32, v = some (.int r) ∧ 0 ≤ r.toInt ∧ r.toInt ≤ 1 ∧ th_I G Γ H1 ∧ th_F G Γ [(20, 5)] H0 H1 ∧ th_RD G Γ H1 ∧ (r.toInt = 0 → H1 = H0) ∧ (f_X5_take (dv G Γ H0) (a0 : Int) p1.toInt = (dv G Γ H1, r.toInt))) G) 0 0 (fun q => G.2.2 ≤ q) := by
  refine th_met RX5 (by decide) rfl (Nat.le_of_ble_eq_true rfl) ?_
  intro p e s m below meth c hC hH hr hlocks hnm ls hl
  have hx := hC.1
  have hb := hC.2.1
  have hB : th_B G Γ Γ [(20, 5)] H0 H0 [] := ⟨hI, va_S.rf, th_F_rf⟩
  have hl : lv_has ls 2 [(0, .ref a0), (1, .int p1)] := hl
  have lp1 := ti_lo p1; have up1 := ti_hi p1
  obtain ⟨F, hF0⟩ : ∃ F, F = f_X5_take (dv G Γ H0) ((a0 : Int)) (p1.toInt) := ⟨_, rfl⟩
  have hF := hF0.trans (f_X5_take.eq_1 (dv G Γ H0) ((a0 : Int)) (p1.toInt))
  refine lv_aload_n hx hb dX5_take_0 rfl (lv_at hl 0 rfl) ?_
  refine th_getI (j := 8) hC cf_X5 hB.1 h0 ro_20 rfl rfl kf_X5_40 dX5_take_1 (fun x1 mx1 lx1 ux1 => ?_)
  replace hF := hF.trans (dv_bn (dv_getI h0 ro_20 (j := 8) rfl mx1 (by decide)))
  refine lv_iconst (v := (-1)) hx hb dX5_take_4 (by decide) ?_
  refine tr_icmp_ne (tgt := 21) hx hb dX5_take_5 (by decide) (Eq.refl _) tk_m1 (fun c5 => ?_) (fun c5 => ?_)
  · replace hF := hF.trans (if_pos c5)
    refine lv_iconst (v := 0) hx hb dX5_take_21 (by decide) ?_
    exact th_iret hC hH hr hlocks narrow_b0 hB.2.1 ⟨_, rfl, by decide, by decide, hB.1, hB.2.2, hR, by first | (intro _; rfl) | (intro h9; exact absurd h9 (by decide)), (hF0.symm.trans (hF.trans (by rw [tk_0])))⟩ dX5_take_22
  · replace hF := hF.trans (if_neg (not_not_intro c5))
    refine lv_aload_n hx hb dX5_take_8 rfl (lv_at hl 0 rfl) ?_
    refine th_getO (j := 0) (r2 := 21) hC cf_X5 hB.1 h0 ro_20 rfl rfl kf_X5_11 dX5_take_9 (fun b2 mb2 hb2 => ?_)
    refine lv_aload_n hx hb dX5_take_12 rfl (lv_at hl 0 rfl) ?_
    refine th_getI (j := 5) hC cf_X5 hB.1 h0 ro_20 rfl rfl kf_X5_30 dX5_take_13 (fun x3 mx3 lx3 ux3 => ?_)
    obtain ⟨rax3, rbx3⟩ := th_RI_at (hR.2 _ _ h0) mx3
    replace hF := hF.trans (dv_bn (dv_getI h0 ro_20 (j := 5) rfl mx3 (by decide)))
    refine th_ialdF hC hB.1 hb2 ro_21 rfl (Eq.refl _) (by omega) (by omega) rfl dX5_take_16 (fun x4 mx4 lx4 ux4 => ?_)
    replace hF := hF.trans (dv_bn (dv_aldI hB.1 hU hb2 ow_21 (z := x3.toInt) mx4 (by omega)))
    refine lv_iload_n hx hb dX5_take_17 rfl (lv_at hl 1 rfl) ?_
    refine tr_icmp_eq (tgt := 23) hx hb dX5_take_18 (by decide) (Eq.refl _) (Eq.refl _) (fun c18 => ?_) (fun c18 => ?_)
    · replace hF := hF.trans (if_pos c18)
      refine lv_aload_n hx hb dX5_take_23 rfl (lv_at hl 0 rfl) ?_
      refine lv_dup hx hb dX5_take_24 rfl ?_
      refine th_getK hC cf_X5 hB.1 h0 ro_20 rfl (j := 5) (by decide) mx3 kf_X5_30 dX5_take_25 ?_
      replace hF := hF.trans (dv_bn (dv_getI h0 ro_20 (j := 5) rfl mx3 (by decide)))
      refine lv_iconst (v := 1) hx hb dX5_take_28 (by decide) ?_
      refine tr_iadd hx hb dX5_take_29 (Eq.refl _) tk_1 (by omega) (by omega) (fun x5 ex5 => ?_)
      replace hF := hF.trans (dv_bn (ex5.symm))
      refine th_put hC cf_X5 hB h0 (Or.inl h0) ro_20 rfl (j := 5) rfl th_sIa (by decide) rfl rfl rfl kf_X5_30 dX5_take_30 (fun H30 locs hB hf hst30 => ?_)
      replace hF := hF.trans (dv_bn (dv_putI hB.1 h0 ro_20 (j := 5) rfl (th_apart hC cf_X5) hst30 (Eq.refl _) (by decide)))
      have hR := th_RD_st (th_RC_F hB.1 hR.1 hf (th_T_s h0 ro_20 hst30) (by decide)) hR h0 hst30 (th_RD_up (th_apart hC cf_X5 0 5 (by decide) (by decide) (by decide)) (hR.2 _ _ h0) ⟨_, _, _, _, mb2, hb2, mx3, mx4, by omega⟩ h0 mx3 (by omega) hst30)
      refine lv_iconst (v := 1) hx hb dX5_take_33 (by decide) ?_
      exact th_iret hC hH hr hlocks narrow_b1 hB.2.1 ⟨_, rfl, by decide, by decide, hB.1, hB.2.2, hR, by first | (intro _; rfl) | (intro h9; exact absurd h9 (by decide)), (hF0.symm.trans (hF.trans (by rw [tk_1])))⟩ dX5_take_34
    · replace hF := hF.trans (if_neg c18)
      refine lv_iconst (v := 0) hx hb dX5_take_21 (by decide) ?_
      exact th_iret hC hH hr hlocks narrow_b0 hB.2.1 ⟨_, rfl, by decide, by decide, hB.1, hB.2.2, hR, by first | (intro _; rfl) | (intro h9; exact absurd h9 (by decide)), (hF0.symm.trans (hF.trans (by rw [tk_0])))⟩ dX5_take_22

set_option maxHeartbeats 4000000 in
set_option maxRecDepth 100000 in
theorem c_X5_takeNumber (l : Launch) (G : th_G) (Γ : th_Ga) (H0 : Heap) (hI : th_I G Γ H0) (hR : th_RD G Γ H0) (hU : dv_U Γ) (a0 : Nat) (h0 : Γ a0 = (20, 0)) (p1 : Int32) (f1 : 0 ≤ p1.toInt) (p2 : Int32) : Met l yX5_takeNumber (.code yX5_takeNumber cX5_takeNumber 4 (some FieldType.int) :: th_tb) ({ frames := 0, cells := 0, slots := 0, locals := 0 } : Room) (th_P [.ref a0, .int p1, .int p2] G H0) (th_Q (fun (v : Option Value) (H1 : Heap) => ∃ r : Int32, v = some (.int r) ∧ (-1) ≤ r.toInt ∧ (r.toInt ≠ -1 → p1.toInt ≤ r.toInt ∧ r.toInt ≤ p2.toInt) ∧ th_I G Γ H1 ∧ th_F G Γ [(20, 5)] H0 H1 ∧ th_RD G Γ H1 ∧ (r.toInt = -1 → H1 = H0) ∧ (f_X5_takeNumber (dv G Γ H0) (a0 : Int) p1.toInt p2.toInt = (dv G Γ H1, r.toInt))) G) 0 0 (fun q => G.2.2 ≤ q) := by
  refine th_met RX5 (by decide) rfl (Nat.le_of_ble_eq_true rfl) ?_
  intro p e s m below meth c hC hH hr hlocks hnm ls hl
  have hx := hC.1
  have hb := hC.2.1
  have hB : th_B G Γ Γ [(20, 5)] H0 H0 [] := ⟨hI, va_S.rf, th_F_rf⟩
  have hl : lv_has ls 4 [(0, .ref a0), (1, .int p1), (2, .int p2)] := hl
  have lp1 := ti_lo p1; have up1 := ti_hi p1
  have lp2 := ti_lo p2; have up2 := ti_hi p2
  obtain ⟨F, hF0⟩ : ∃ F, F = f_X5_takeNumber (dv G Γ H0) ((a0 : Int)) (p1.toInt) (p2.toInt) := ⟨_, rfl⟩
  have hF := hF0.trans (f_X5_takeNumber.eq_1 (dv G Γ H0) ((a0 : Int)) (p1.toInt) (p2.toInt))
  refine lv_aload_n hx hb dX5_takeNumber_0 rfl (lv_at hl 0 rfl) ?_
  refine th_getO (j := 0) (r2 := 21) hC cf_X5 hB.1 h0 ro_20 rfl rfl kf_X5_11 dX5_takeNumber_1 (fun b1 mb1 hb1 => ?_)
  refine lv_aload_n hx hb dX5_takeNumber_4 rfl (lv_at hl 0 rfl) ?_
  refine th_getI (j := 5) hC cf_X5 hB.1 h0 ro_20 rfl rfl kf_X5_30 dX5_takeNumber_5 (fun x2 mx2 lx2 ux2 => ?_)
  obtain ⟨rax2, rbx2⟩ := th_RI_at (hR.2 _ _ h0) mx2
  replace hF := hF.trans (dv_bn (dv_getI h0 ro_20 (j := 5) rfl mx2 (by decide)))
  refine th_ialdF hC hB.1 hb1 ro_21 rfl (Eq.refl _) (by omega) (by omega) rfl dX5_takeNumber_8 (fun x3 mx3 lx3 ux3 => ?_)
  replace hF := hF.trans (dv_bn (dv_aldI hB.1 hU hb1 ow_21 (z := x2.toInt) mx3 (by omega)))
  refine lv_sipush (v := 400) hx hb dX5_takeNumber_9 (by decide) ?_
  refine lv_isub hx hb dX5_takeNumber_12 ?_
  refine lv_topi (fun x4 ex4 => ?_)
  have lx4 := ti_lo x4; have ux4 := ti_hi x4
  replace hF := hF.trans (dv_bn (dv_sub_e (Eq.refl _) tk_400 ex4))
  refine lv_istore_n (lv' := [(3, .int x4), (0, .ref a0), (1, .int p1), (2, .int p2)]) hx hb dX5_takeNumber_13 rfl hl (by decide) rfl (fun ls hl => ?_)
  refine lv_aload_n hx hb dX5_takeNumber_14 rfl (lv_at hl 1 rfl) ?_
  refine th_getI (j := 8) hC cf_X5 hB.1 h0 ro_20 rfl rfl kf_X5_40 dX5_takeNumber_15 (fun x5 mx5 lx5 ux5 => ?_)
  replace hF := hF.trans (dv_bn (dv_getI h0 ro_20 (j := 8) rfl mx5 (by decide)))
  refine lv_iconst (v := (-1)) hx hb dX5_takeNumber_18 (by decide) ?_
  refine tr_icmp_ne (tgt := 32) hx hb dX5_takeNumber_19 (by decide) (Eq.refl _) tk_m1 (fun c19 => ?_) (fun c19 => ?_)
  · replace hF := hF.trans (if_pos c19)
    refine lv_iconst (v := (-1)) hx hb dX5_takeNumber_32 (by decide) ?_
    exact th_iret hC hH hr hlocks rfl hB.2.1 ⟨_, rfl, by decide, by first | (intro h9; exact absurd h9 (by decide)) | (have w9 := tk_m1; intros; omega), hB.1, hB.2.2, hR, by first | (intro _; rfl) | (intro h9; omega), (hF0.symm.trans (hF.trans (by rw [tk_m1])))⟩ dX5_takeNumber_33
  · replace hF := hF.trans (if_neg (not_not_intro c19))
    refine lv_iload_n hx hb dX5_takeNumber_22 rfl (lv_at hl 0 rfl) ?_
    refine lv_iload_n hx hb dX5_takeNumber_23 rfl (lv_at hl 2 rfl) ?_
    refine tr_icmp_lt (tgt := 32) hx hb dX5_takeNumber_24 (by decide) (Eq.refl _) (Eq.refl _) (fun c24 => ?_) (fun c24 => ?_)
    · replace hF := hF.trans (if_pos c24)
      refine lv_iconst (v := (-1)) hx hb dX5_takeNumber_32 (by decide) ?_
      exact th_iret hC hH hr hlocks rfl hB.2.1 ⟨_, rfl, by decide, by first | (intro h9; exact absurd h9 (by decide)) | (have w9 := tk_m1; intros; omega), hB.1, hB.2.2, hR, by first | (intro _; rfl) | (intro h9; omega), (hF0.symm.trans (hF.trans (by rw [tk_m1])))⟩ dX5_takeNumber_33
    · replace hF := hF.trans (if_neg (Int.not_lt.mpr c24))
      refine lv_iload_n hx hb dX5_takeNumber_27 rfl (lv_at hl 0 rfl) ?_
      refine lv_iload_n hx hb dX5_takeNumber_28 rfl (lv_at hl 3 rfl) ?_
      refine tr_icmp_le (tgt := 34) hx hb dX5_takeNumber_29 (by decide) (Eq.refl _) (Eq.refl _) (fun c29 => ?_) (fun c29 => ?_)
      · replace hF := hF.trans (if_pos c29)
        refine lv_aload_n hx hb dX5_takeNumber_34 rfl (lv_at hl 1 rfl) ?_
        refine lv_dup hx hb dX5_takeNumber_35 rfl ?_
        refine th_getK hC cf_X5 hB.1 h0 ro_20 rfl (j := 5) (by decide) mx2 kf_X5_30 dX5_takeNumber_36 ?_
        replace hF := hF.trans (dv_bn (dv_getI h0 ro_20 (j := 5) rfl mx2 (by decide)))
        refine lv_iconst (v := 1) hx hb dX5_takeNumber_39 (by decide) ?_
        refine tr_iadd hx hb dX5_takeNumber_40 (Eq.refl _) tk_1 (by omega) (by omega) (fun x6 ex6 => ?_)
        replace hF := hF.trans (dv_bn (ex6.symm))
        refine th_put hC cf_X5 hB h0 (Or.inl h0) ro_20 rfl (j := 5) rfl th_sIa (by decide) rfl rfl rfl kf_X5_30 dX5_takeNumber_41 (fun H41 locs hB hf hst41 => ?_)
        replace hF := hF.trans (dv_bn (dv_putI hB.1 h0 ro_20 (j := 5) rfl (th_apart hC cf_X5) hst41 (Eq.refl _) (by decide)))
        have f41 : x3.toInt ≠ -1 := by
          intro q9
          have e9 : x3 = -1 := Int32.toInt_inj.mp q9
          rw [e9] at ex4
          have e8 : x4.toInt = -401 := by rw [ex4]; rfl
          omega
        have hR := th_RD_st (th_RC_F hB.1 hR.1 hf (th_T_s h0 ro_20 hst41) (by decide)) hR h0 hst41 (th_RD_up (th_apart hC cf_X5 0 5 (by decide) (by decide) (by decide)) (hR.2 _ _ h0) ⟨_, _, _, _, mb1, hb1, mx2, mx3, f41⟩ h0 mx2 (by omega) hst41)
        refine lv_iload_n hx hb dX5_takeNumber_44 rfl (lv_at hl 0 rfl) ?_
        exact th_iret hC hH hr hlocks rfl hB.2.1 ⟨_, rfl, by omega, by intros; omega, hB.1, hB.2.2, hR, by first | (intro _; rfl) | (intro h9; omega), (hF0.symm.trans hF)⟩ dX5_takeNumber_45
      · replace hF := hF.trans (if_neg (Int.not_le.mpr c29))
        refine lv_iconst (v := (-1)) hx hb dX5_takeNumber_32 (by decide) ?_
        exact th_iret hC hH hr hlocks rfl hB.2.1 ⟨_, rfl, by decide, by first | (intro h9; exact absurd h9 (by decide)) | (have w9 := tk_m1; intros; omega), hB.1, hB.2.2, hR, by first | (intro _; rfl) | (intro h9; omega), (hF0.symm.trans (hF.trans (by rw [tk_m1])))⟩ dX5_takeNumber_33

set_option maxHeartbeats 4000000 in
set_option maxRecDepth 100000 in
theorem c_X5_openBracket (l : Launch) (G : th_G) (Γ : th_Ga) (H0 : Heap) (hI : th_I G Γ H0) (hR : th_RD G Γ H0) (hU : dv_U Γ) (a0 : Nat) (h0 : Γ a0 = (20, 0)) (k1 : th_TK G Γ H0 a0) (bv : Int32) (mbv : th_sl H0 a0 (G.1.2 5 7) = .int bv) : Met l yX5_openBracket (.code yX5_openBracket cX5_openBracket 1 (some FieldType.boolean) :: th_tb) ({ frames := 0, cells := 0, slots := 0, locals := 0 } : Room) (th_P [.ref a0] G H0) (th_Q (fun (v : Option Value) (H1 : Heap) => ∃ r : Int32, v = some (.int r) ∧ 0 ≤ r.toInt ∧ r.toInt ≤ 1 ∧ th_I G Γ H1 ∧ th_F G Γ [(20, 5), (20, 7)] H0 H1 ∧ th_RD G Γ H1 ∧ (r.toInt = 1 → bv.toInt < 8 ∧ ∃ b1 : Int32, th_sl H1 a0 (G.1.2 5 7) = .int b1 ∧ b1.toInt = bv.toInt + 1) ∧ (r.toInt = 0 → H1 = H0) ∧ (f_X5_openBracket (dv G Γ H0) (a0 : Int) = (dv G Γ H1, r.toInt))) G) 0 0 (fun q => G.2.2 ≤ q) := by
  refine th_met RX5 (by decide) rfl (Nat.le_of_ble_eq_true rfl) ?_
  intro p e s m below meth c hC hH hr hlocks hnm ls hl
  have hx := hC.1
  have hb := hC.2.1
  have hB : th_B G Γ Γ [(20, 5), (20, 7)] H0 H0 [] := ⟨hI, va_S.rf, th_F_rf⟩
  have hl : lv_has ls 1 [(0, .ref a0)] := hl
  have lbv := ti_lo bv; have ubv := ti_hi bv
  obtain ⟨F, hF0⟩ : ∃ F, F = f_X5_openBracket (dv G Γ H0) ((a0 : Int)) := ⟨_, rfl⟩
  have hF := hF0.trans (f_X5_openBracket.eq_1 (dv G Γ H0) ((a0 : Int)))
  refine lv_aload_n hx hb dX5_openBracket_0 rfl (lv_at hl 0 rfl) ?_
  refine th_getK hC cf_X5 hB.1 h0 ro_20 rfl (j := 7) (by decide) mbv kf_X5_37 dX5_openBracket_1 ?_
  replace hF := hF.trans (dv_bn (dv_getI h0 ro_20 (j := 7) rfl mbv (by decide)))
  refine lv_bipush (v := 8) hx hb dX5_openBracket_4 (by decide) ?_
  refine tr_icmp_lt (tgt := 11) hx hb dX5_openBracket_6 (by decide) (Eq.refl _) tk_8 (fun c6 => ?_) (fun c6 => ?_)
  · replace hF := hF.trans (if_pos c6)
    refine lv_aload_n hx hb dX5_openBracket_11 rfl (lv_at hl 0 rfl) ?_
    refine lv_dup hx hb dX5_openBracket_12 rfl ?_
    refine th_getK hC cf_X5 hB.1 h0 ro_20 rfl (j := 7) (by decide) mbv kf_X5_37 dX5_openBracket_13 ?_
    replace hF := hF.trans (dv_bn (dv_getI h0 ro_20 (j := 7) rfl mbv (by decide)))
    refine lv_iconst (v := 1) hx hb dX5_openBracket_16 (by decide) ?_
    refine tr_iadd hx hb dX5_openBracket_17 (Eq.refl _) tk_1 (by omega) (by omega) (fun x1 ex1 => ?_)
    replace hF := hF.trans (dv_bn (ex1.symm))
    refine th_put hC cf_X5 hB h0 (Or.inl h0) ro_20 rfl (j := 7) rfl th_sIa (by decide) rfl rfl rfl kf_X5_37 dX5_openBracket_18 (fun H18 locs hB hf hst18 => ?_)
    have mc2 := th_TK_F k1 h0 hf (by decide)
    have hR := th_RD_F hB.1 hR hf (th_T_s h0 ro_20 hst18) (by decide)
    replace hF := hF.trans (dv_bn (dv_putI hB.1 h0 ro_20 (j := 7) rfl (th_apart hC cf_X5) hst18 (Eq.refl _) (by decide)))
    have mm3 := hst18.2.1
    refine lv_aload_n hx hb dX5_openBracket_21 rfl (lv_at hl 0 rfl) ?_
    refine lv_dup hx hb dX5_openBracket_22 rfl ?_
    refine th_getI (j := 5) hC cf_X5 hB.1 h0 ro_20 rfl rfl kf_X5_30 dX5_openBracket_23 (fun x4 mx4 lx4 ux4 => ?_)
    obtain ⟨rax4, rbx4⟩ := th_RI_at (hR.2 _ _ h0) mx4
    replace hF := hF.trans (dv_bn (dv_getI h0 ro_20 (j := 5) rfl mx4 (by decide)))
    refine lv_iconst (v := 1) hx hb dX5_openBracket_26 (by decide) ?_
    refine tr_iadd hx hb dX5_openBracket_27 (Eq.refl _) tk_1 (by omega) (by omega) (fun x5 ex5 => ?_)
    replace hF := hF.trans (dv_bn (ex5.symm))
    refine th_put hC cf_X5 hB h0 (Or.inl h0) ro_20 rfl (j := 5) rfl th_sIa (by decide) rfl rfl rfl kf_X5_30 dX5_openBracket_28 (fun H28 locs hB hf hst28 => ?_)
    have mm6 := (th_F_o hf h0 ro_20 (j := 7) (by decide) (by decide)).trans mm3
    replace hF := hF.trans (dv_bn (dv_putI hB.1 h0 ro_20 (j := 5) rfl (th_apart hC cf_X5) hst28 (Eq.refl _) (by decide)))
    have hR := th_RD_st (th_RC_F hB.1 hR.1 hf (th_T_s h0 ro_20 hst28) (by decide)) hR h0 hst28 (th_RD_up (th_apart hC cf_X5 0 5 (by decide) (by decide) (by decide)) (hR.2 _ _ h0) mc2 h0 mx4 (by omega) hst28)
    refine lv_iconst (v := 1) hx hb dX5_openBracket_31 (by decide) ?_
    exact th_iret hC hH hr hlocks narrow_b1 hB.2.1 ⟨_, rfl, by decide, by decide, hB.1, hB.2.2, hR, by first | (intro h9; exact absurd h9 (by decide)) | (intro _; exact ⟨by omega, _, mm6, by omega⟩), by first | (intro _; rfl) | (intro h9; exact absurd h9 (by decide)), (hF0.symm.trans (hF.trans (by rw [tk_1])))⟩ dX5_openBracket_32
  · replace hF := hF.trans (if_neg (Int.not_lt.mpr c6))
    refine lv_iconst (v := 0) hx hb dX5_openBracket_9 (by decide) ?_
    exact th_iret hC hH hr hlocks narrow_b0 hB.2.1 ⟨_, rfl, by decide, by decide, hB.1, hB.2.2, hR, by first | (intro h9; exact absurd h9 (by decide)) | (intro _; exact ⟨by omega, _, mbv, by omega⟩), by first | (intro _; rfl) | (intro h9; exact absurd h9 (by decide)), (hF0.symm.trans (hF.trans (by rw [tk_0])))⟩ dX5_openBracket_10
