section
set_option maxHeartbeats 4000000 in
set_option maxRecDepth 100000 in
theorem c_X8_init_i (l : Launch) (G : th_G) (Γ : th_Ga) (H0 : Heap) (hI : th_I G Γ H0) (hR : th_RC G Γ H0) (a0 : Nat) (ho : th_OB G Γ H0 a0 8 8 (fun j => defaultValue (tyX8 j))) (hsz : G.1.2.2 ≤ a0) (hlt : a0 < H0.size) (hm : ¬ th_MR G Γ H0 a0) (hz1 : H0.size = a0 + 1) : Met l yX8_init (.code yX8_init cX8_init 2 (none) :: th_tb) ({ frames := 2, cells := 30, slots := 3095, locals := 32 } : Room) (th_P [.ref a0] G H0) (th_Q (fun (v : Option Value) (H1 : Heap) => v = none ∧ ∃ Γ1 : th_Ga, th_NY G Γ Γ1 a0 32 [3, 4, 5, 6, 7, 8, 9, 10, 32, 33, 34, 35, 36, 39, 40, 41] H0 H1 ∧ th_IN G Γ1 a0 H0 H1 ∧ H1.size = H0.size + 30) G) 30 3095 (fun q => G.1.2.2 ≤ q) := by
  refine th_met RX8 (by decide) rfl (Nat.le_of_ble_eq_true rfl) ?_
  intro p e s m below meth c hC hH hr hlocks hnm ls hl
  have hx := hC.1
  have hb := hC.2.1
  have hB : th_NR G Γ Γ a0 H0 H0 [] := ⟨⟨hI, va_S.rf, fun _ _ _ => rfl, fun _ _ _ => rfl, ho.1, hsz, hlt⟩, hR, hm, fun q w => Or.inl w⟩
  have hl : lv_has ls 2 [(0, .ref a0)] := hl
  have hs : H0.size ≤ H0.size := Nat.le_refl _
  have hN := th_new_0 (a0 := a0) hI ho.1
  have hIN := th_IN_0 (a0 := a0) hI ho.1
  refine lv_aload_n hx hb gX8_init_0.1 rfl (lv_at hl 0 rfl) ?_
  refine W.objInit hx hb hC.2.2.2.1 (hC.2.2.2.2.1 _ kw_35) (hC.2.2.2.2.1 _ kw_28) (hC.2.2.2.2.1 _ kw_29) rfl (hl.1.trans hC.2.2.1.symm) rfl gX8_init_0.2.1 (Nat.le_of_ble_eq_true rfl) (Nat.le_of_ble_eq_true rfl) ?_
  refine W.eq (g2 := F0 m 4 ls []) rfl ?_
  refine lv_aload_n hx hb gX8_init_0.2.2.1 rfl (lv_at hl 0 rfl) ?_
  refine tc_new hC cf_X1 hB.1 kw_36 kw_37 kw_3 (Nat.le_of_ble_eq_true rfl) (Nat.le_of_ble_eq_true rfl) gX8_init_0.2.2.2.1 (fun b5 H5 eb5 zb5 oq5 hB1 kn => ?_)
  have of_b5 : b5 = a0 + 1 := by omega
  have n50 : ¬ th_MR G Γ H0 b5 := fun w => absurd (th_MR_lt hB.2.1 w) (by omega)
  have u5 := kn.1
  have hB := th_NR_s hB hB1 u5 n50 (by omega) oq5
  have hIN := th_IN_s hIN u5 oq5
  have nb : ¬ th_MR G Γ H5 b5 := fun w => n50 (th_MR_s u5 oq5 w)
  have ho := tc_OBo ho oq5 (by omega)
  have lbn : H0.size ≤ b5 := by omega
  have ltn : b5 < H5.size := by omega
  have szn : G.1.2.2 ≤ b5 := by have q9 := hB.1.2.2.2.2.2.1; have q8 := hB.1.2.2.2.2.2.2; omega
  have hs : H5.size = H0.size + 1 := by omega
  refine lv_dup hx hb gX8_init_0.2.2.2.2.1 rfl ?_
  refine th_call (th_runI (As := []) (rest := [.ref b5, .ref a0]) hC mf_X1_init km_X8_11 im_X1_init rfl (c_X1_init_i l G Γ H5 hB.1.1 hB.2.1 b5 kn szn ltn nb (by omega)) rfl rfl ⟨Nat.le_of_ble_eq_true rfl, Nat.le_of_ble_eq_true rfl⟩ rfl hl.1 rfl (Nat.le_of_ble_eq_true rfl) gX8_init_0.2.2.2.2.2.1 ⟨Nat.le_of_ble_eq_true rfl, Nat.le_of_ble_eq_true rfl⟩) hB.1.2.1 (fun v9 H9 locs hp hz hS => ?_)
  obtain ⟨rfl, Γ9, hy, hi, hzn⟩ := hp
  have hB := th_NR_c hB hy lbn hS
  have hIN := th_IN_c hIN hy hi
  have ho := tc_OBc ho hy (by omega) (by omega)
  have hr_b5 := hy.2.2.1
  have hs : H9.size = H0.size + 8 := by omega
  have hN := th_new_c hN hy
  refine W.eq (g2 := F0 m 12 ls [.ref b5, .ref a0]) rfl ?_
  refine tc_putF hC cf_X8 hB.1 ho (j := 0) (by decide) rfl hnm rfl rfl kf_X8_12 gX8_init_0.2.2.2.2.2.2.1 (fun H12 locs hB1 ho z12 oq12 => ?_)
  have hu := hB.1.2.2.2.2.1
  have hB := th_NR_s hB hB1 hu hB.2.2.1 (by omega) oq12
  have hIN := th_IN_s hIN hu oq12
  have hs : H12.size = H0.size + 8 := by omega
  refine lv_aload_n hx hb gX8_init_0.2.2.2.2.2.2.2 rfl (lv_at hl 0 rfl) ?_
  refine lv_bipush (v := 6) hx hb gX8_init_1.1 (by decide) ?_
  refine tc_anew (t := 4) hC hB.1 rfl hC.2.2.2.2.2.2.1 kw_105 (N := 6) tk_6 (by decide) (Nat.le_of_ble_eq_true rfl) (Nat.le_of_ble_eq_true rfl) gX8_init_1.2.1 (fun b18 H18 eb18 zb18 oq18 hB1 k18 => ?_)
  have u18 := k18.2.1
  have of_b18 : b18 = a0 + 9 := by omega
  have n180 : ¬ th_MR G Γ9 H12 b18 := fun w => absurd (th_MR_lt hB.2.1 w) (by omega)
  have hB := th_NR_s hB hB1 u18 n180 (by omega) oq18
  have hIN := th_IN_s hIN u18 oq18
  have n18 : ¬ th_MR G Γ9 H18 b18 := fun w => n180 (th_MR_s u18 oq18 w)
  have lb18 : H0.size ≤ b18 := by omega
  have ho := tc_OBo ho oq18 (by omega)
  have hs : H18.size = H0.size + 9 := by omega
  refine tc_putF hC cf_X8 hB.1 ho (j := 1) (by decide) rfl hnm rfl rfl kf_X8_20 gX8_init_1.2.2.1 (fun H21 locs hB1 ho z21 oq21 => ?_)
  have hu := hB.1.2.2.2.2.1
  have hB := th_NR_s hB hB1 hu hB.2.2.1 (by omega) oq21
  have hIN := th_IN_s hIN hu oq21
  have k18x := tm_MAo k18 oq21 (of_n0 of_b18 (by decide))
  have n18x : ¬ th_MR G Γ9 H21 b18 := fun w => n18 (th_MR_s hu oq21 w)
  have hs : H21.size = H0.size + 9 := by omega
  refine lv_aload_n hx hb gX8_init_1.2.2.2.1 rfl (lv_at hl 0 rfl) ?_
  refine lv_bipush (v := 6) hx hb gX8_init_1.2.2.2.2.1 (by decide) ?_
  refine tc_newa (ty := .int) (t := 0) hC hB.1 rfl rfl rfl kw_104 (N := 6) tk_6 (by decide) (Nat.le_of_ble_eq_true rfl) (Nat.le_of_ble_eq_true rfl) gX8_init_1.2.2.2.2.2.1 (fun b27 H27 eb27 zb27 oq27 hB1 k27 => ?_)
  have u27 := k27.2.1
  have of_b27 : b27 = a0 + 10 := by omega
  have n270 : ¬ th_MR G Γ9 H21 b27 := fun w => absurd (th_MR_lt hB.2.1 w) (by omega)
  have hB := th_NR_s hB hB1 u27 n270 (by omega) oq27
  have hIN := th_IN_s hIN u27 oq27
  have n27 : ¬ th_MR G Γ9 H27 b27 := fun w => n270 (th_MR_s u27 oq27 w)
  have lb27 : H0.size ≤ b27 := by omega
  have ho := tc_OBo ho oq27 (by omega)
  have k18xx := tm_MAo k18x oq27 (of_ne of_b18 of_b27 (by decide))
  have n18xx : ¬ th_MR G Γ9 H27 b18 := fun w => n18x (th_MR_s u27 oq27 w)
  have hs : H27.size = H0.size + 10 := by omega
  refine tc_putF hC cf_X8 hB.1 ho (j := 2) (by decide) rfl hnm rfl rfl kf_X8_24 gX8_init_1.2.2.2.2.2.2.1 (fun H29 locs hB1 ho z29 oq29 => ?_)
  have hu := hB.1.2.2.2.2.1
  have hB := th_NR_s hB hB1 hu hB.2.2.1 (by omega) oq29
  have hIN := th_IN_s hIN hu oq29
  have k18xxx := tm_MAo k18xx oq29 (of_n0 of_b18 (by decide))
  have n18xxx : ¬ th_MR G Γ9 H29 b18 := fun w => n18xx (th_MR_s hu oq29 w)
  have k27x := tm_MAo k27 oq29 (of_n0 of_b27 (by decide))
  have n27x : ¬ th_MR G Γ9 H29 b27 := fun w => n27 (th_MR_s hu oq29 w)
  have hs : H29.size = H0.size + 10 := by omega
  refine lv_aload_n hx hb gX8_init_1.2.2.2.2.2.2.2 rfl (lv_at hl 0 rfl) ?_
  refine lv_bipush (v := 6) hx hb gX8_init_2.1 (by decide) ?_
  refine tc_newa (ty := .int) (t := 0) hC hB.1 rfl rfl rfl kw_104 (N := 6) tk_6 (by decide) (Nat.le_of_ble_eq_true rfl) (Nat.le_of_ble_eq_true rfl) gX8_init_2.2.1 (fun b35 H35 eb35 zb35 oq35 hB1 k35 => ?_)
  have u35 := k35.2.1
  have of_b35 : b35 = a0 + 11 := by omega
  have n350 : ¬ th_MR G Γ9 H29 b35 := fun w => absurd (th_MR_lt hB.2.1 w) (by omega)
  have hB := th_NR_s hB hB1 u35 n350 (by omega) oq35
  have hIN := th_IN_s hIN u35 oq35
  have n35 : ¬ th_MR G Γ9 H35 b35 := fun w => n350 (th_MR_s u35 oq35 w)
  have lb35 : H0.size ≤ b35 := by omega
  have ho := tc_OBo ho oq35 (by omega)
  have k18xxxx := tm_MAo k18xxx oq35 (of_ne of_b18 of_b35 (by decide))
  have n18xxxx : ¬ th_MR G Γ9 H35 b18 := fun w => n18xxx (th_MR_s u35 oq35 w)
  have k27xx := tm_MAo k27x oq35 (of_ne of_b27 of_b35 (by decide))
  have n27xx : ¬ th_MR G Γ9 H35 b27 := fun w => n27x (th_MR_s u35 oq35 w)
  have hs : H35.size = H0.size + 11 := by omega
  refine tc_putF hC cf_X8 hB.1 ho (j := 3) (by decide) rfl hnm rfl rfl kf_X8_28 gX8_init_2.2.2.1 (fun H37 locs hB1 ho z37 oq37 => ?_)
  have hu := hB.1.2.2.2.2.1
  have hB := th_NR_s hB hB1 hu hB.2.2.1 (by omega) oq37
  have hIN := th_IN_s hIN hu oq37
  have k18xxxxx := tm_MAo k18xxxx oq37 (of_n0 of_b18 (by decide))
  have n18xxxxx : ¬ th_MR G Γ9 H37 b18 := fun w => n18xxxx (th_MR_s hu oq37 w)
  have k27xxx := tm_MAo k27xx oq37 (of_n0 of_b27 (by decide))
  have n27xxx : ¬ th_MR G Γ9 H37 b27 := fun w => n27xx (th_MR_s hu oq37 w)
  have k35x := tm_MAo k35 oq37 (of_n0 of_b35 (by decide))
  have n35x : ¬ th_MR G Γ9 H37 b35 := fun w => n35 (th_MR_s hu oq37 w)
  have hs : H37.size = H0.size + 11 := by omega
  refine lv_aload_n hx hb gX8_init_2.2.2.2.1 rfl (lv_at hl 0 rfl) ?_
  refine lv_bipush (v := 6) hx hb gX8_init_2.2.2.2.2.1 (by decide) ?_
  refine tc_newa (ty := .int) (t := 0) hC hB.1 rfl rfl rfl kw_104 (N := 6) tk_6 (by decide) (Nat.le_of_ble_eq_true rfl) (Nat.le_of_ble_eq_true rfl) gX8_init_2.2.2.2.2.2.1 (fun b43 H43 eb43 zb43 oq43 hB1 k43 => ?_)
  have u43 := k43.2.1
  have of_b43 : b43 = a0 + 12 := by omega
  have n430 : ¬ th_MR G Γ9 H37 b43 := fun w => absurd (th_MR_lt hB.2.1 w) (by omega)
  have hB := th_NR_s hB hB1 u43 n430 (by omega) oq43
  have hIN := th_IN_s hIN u43 oq43
  have n43 : ¬ th_MR G Γ9 H43 b43 := fun w => n430 (th_MR_s u43 oq43 w)
  have lb43 : H0.size ≤ b43 := by omega
  have ho := tc_OBo ho oq43 (by omega)
  have k18xxxxxx := tm_MAo k18xxxxx oq43 (of_ne of_b18 of_b43 (by decide))
  have n18xxxxxx : ¬ th_MR G Γ9 H43 b18 := fun w => n18xxxxx (th_MR_s u43 oq43 w)
  have k27xxxx := tm_MAo k27xxx oq43 (of_ne of_b27 of_b43 (by decide))
  have n27xxxx : ¬ th_MR G Γ9 H43 b27 := fun w => n27xxx (th_MR_s u43 oq43 w)
  have k35xx := tm_MAo k35x oq43 (of_ne of_b35 of_b43 (by decide))
  have n35xx : ¬ th_MR G Γ9 H43 b35 := fun w => n35x (th_MR_s u43 oq43 w)
  have hs : H43.size = H0.size + 12 := by omega
  refine tc_putF hC cf_X8 hB.1 ho (j := 4) (by decide) rfl hnm rfl rfl kf_X8_31 gX8_init_2.2.2.2.2.2.2.1 (fun H45 locs hB1 ho z45 oq45 => ?_)
  have hu := hB.1.2.2.2.2.1
  have hB := th_NR_s hB hB1 hu hB.2.2.1 (by omega) oq45
  have hIN := th_IN_s hIN hu oq45
  have k18xxxxxxx := tm_MAo k18xxxxxx oq45 (of_n0 of_b18 (by decide))
  have n18xxxxxxx : ¬ th_MR G Γ9 H45 b18 := fun w => n18xxxxxx (th_MR_s hu oq45 w)
  have k27xxxxx := tm_MAo k27xxxx oq45 (of_n0 of_b27 (by decide))
  have n27xxxxx : ¬ th_MR G Γ9 H45 b27 := fun w => n27xxxx (th_MR_s hu oq45 w)
  have k35xxx := tm_MAo k35xx oq45 (of_n0 of_b35 (by decide))
  have n35xxx : ¬ th_MR G Γ9 H45 b35 := fun w => n35xx (th_MR_s hu oq45 w)
  have k43x := tm_MAo k43 oq45 (of_n0 of_b43 (by decide))
  have n43x : ¬ th_MR G Γ9 H45 b43 := fun w => n43 (th_MR_s hu oq45 w)
  have hs : H45.size = H0.size + 12 := by omega
  refine lv_aload_n hx hb gX8_init_2.2.2.2.2.2.2.2 rfl (lv_at hl 0 rfl) ?_
  refine lv_iconst (v := 0) hx hb gX8_init_3.1 (by decide) ?_
  refine tc_put hC cf_X8 hB.1 ho (j := 5) (by decide) rfl rfl rfl kf_X8_34 gX8_init_3.2.1 (fun H50 locs hB1 ho z50 oq50 => ?_)
  have hu := hB.1.2.2.2.2.1
  have hB := th_NR_s hB hB1 hu hB.2.2.1 (by omega) oq50
  have hIN := th_IN_s hIN hu oq50
  have k18xxxxxxxx := tm_MAo k18xxxxxxx oq50 (of_n0 of_b18 (by decide))
  have n18xxxxxxxx : ¬ th_MR G Γ9 H50 b18 := fun w => n18xxxxxxx (th_MR_s hu oq50 w)
  have k27xxxxxx := tm_MAo k27xxxxx oq50 (of_n0 of_b27 (by decide))
  have n27xxxxxx : ¬ th_MR G Γ9 H50 b27 := fun w => n27xxxxx (th_MR_s hu oq50 w)
  have k35xxxx := tm_MAo k35xxx oq50 (of_n0 of_b35 (by decide))
  have n35xxxx : ¬ th_MR G Γ9 H50 b35 := fun w => n35xxx (th_MR_s hu oq50 w)
  have k43xx := tm_MAo k43x oq50 (of_n0 of_b43 (by decide))
  have n43xx : ¬ th_MR G Γ9 H50 b43 := fun w => n43x (th_MR_s hu oq50 w)
  have hs : H50.size = H0.size + 12 := by omega
  refine lv_aload_n hx hb gX8_init_3.2.2.1 rfl (lv_at hl 0 rfl) ?_
  refine lv_iconst (v := (-1)) hx hb gX8_init_3.2.2.2.1 (by decide) ?_
  refine tc_put hC cf_X8 hB.1 ho (j := 6) (by decide) rfl rfl rfl kf_X8_38 gX8_init_3.2.2.2.2.1 (fun H55 locs hB1 ho z55 oq55 => ?_)
  have hu := hB.1.2.2.2.2.1
  have hB := th_NR_s hB hB1 hu hB.2.2.1 (by omega) oq55
  have hIN := th_IN_s hIN hu oq55
  have k18xxxxxxxxx := tm_MAo k18xxxxxxxx oq55 (of_n0 of_b18 (by decide))
  have n18xxxxxxxxx : ¬ th_MR G Γ9 H55 b18 := fun w => n18xxxxxxxx (th_MR_s hu oq55 w)
  have k27xxxxxxx := tm_MAo k27xxxxxx oq55 (of_n0 of_b27 (by decide))
  have n27xxxxxxx : ¬ th_MR G Γ9 H55 b27 := fun w => n27xxxxxx (th_MR_s hu oq55 w)
  have k35xxxxx := tm_MAo k35xxxx oq55 (of_n0 of_b35 (by decide))
  have n35xxxxx : ¬ th_MR G Γ9 H55 b35 := fun w => n35xxxx (th_MR_s hu oq55 w)
  have k43xxx := tm_MAo k43xx oq55 (of_n0 of_b43 (by decide))
  have n43xxx : ¬ th_MR G Γ9 H55 b43 := fun w => n43xx (th_MR_s hu oq55 w)
  have hs : H55.size = H0.size + 12 := by omega
  refine lv_aload_n hx hb gX8_init_3.2.2.2.2.2.1 rfl (lv_at hl 0 rfl) ?_
  refine lv_iconst (v := 0) hx hb gX8_init_3.2.2.2.2.2.2.1 (by decide) ?_
  refine tc_put hC cf_X8 hB.1 ho (j := 7) (by decide) rfl rfl rfl kf_X8_41 gX8_init_3.2.2.2.2.2.2.2 (fun H60 locs hB1 ho z60 oq60 => ?_)
  have hu := hB.1.2.2.2.2.1
  have hB := th_NR_s hB hB1 hu hB.2.2.1 (by omega) oq60
  have hIN := th_IN_s hIN hu oq60
  have k18xxxxxxxxxx := tm_MAo k18xxxxxxxxx oq60 (of_n0 of_b18 (by decide))
  have n18xxxxxxxxxx : ¬ th_MR G Γ9 H60 b18 := fun w => n18xxxxxxxxx (th_MR_s hu oq60 w)
  have k27xxxxxxxx := tm_MAo k27xxxxxxx oq60 (of_n0 of_b27 (by decide))
  have n27xxxxxxxx : ¬ th_MR G Γ9 H60 b27 := fun w => n27xxxxxxx (th_MR_s hu oq60 w)
  have k35xxxxxx := tm_MAo k35xxxxx oq60 (of_n0 of_b35 (by decide))
  have n35xxxxxx : ¬ th_MR G Γ9 H60 b35 := fun w => n35xxxxx (th_MR_s hu oq60 w)
  have k43xxxx := tm_MAo k43xxx oq60 (of_n0 of_b43 (by decide))
  have n43xxxx : ¬ th_MR G Γ9 H60 b43 := fun w => n43xxx (th_MR_s hu oq60 w)
  have hs : H60.size = H0.size + 12 := by omega
  refine lv_iconst (v := 0) hx hb gX8_init_4.1 (by decide) ?_
  refine lv_istore_n (lv' := [(1, .int 0), (0, .ref a0)]) hx hb gX8_init_4.2.1 rfl hl (by decide) rfl (fun ls hl => ?_)
  refine lv_iload_n hx hb gX8_init_4.2.2.1 rfl (lv_at hl 0 rfl) ?_
  refine lv_bipush (v := 6) hx hb gX8_init_4.2.2.2.1 (by decide) ?_
  refine tr_icmp_ge (tgt := 90) hx hb gX8_init_4.2.2.2.2.1 (by decide) tk_0 tk_6 (fun c => absurd c (by decide)) (fun _ => ?_)
  refine lv_aload_n hx hb gX8_init_4.2.2.2.2.2.1 rfl (lv_at hl 1 rfl) ?_
  refine tc_get hC cf_X8 ho (j := 1) (by decide) rfl kf_X8_20 gX8_init_4.2.2.2.2.2.2.1 ?_
  refine lv_iload_n hx hb gX8_init_4.2.2.2.2.2.2.2 rfl (lv_at hl 0 rfl) ?_
  refine tc_new hC cf_X10 hB.1 kw_105 kw_107 kw_4 (Nat.le_of_ble_eq_true rfl) (Nat.le_of_ble_eq_true rfl) gX8_init_5.1 (fun b76 H76 eb76 zb76 oq76 hB1 kn => ?_)
  have of_b76 : b76 = a0 + 13 := by omega
  have n760 : ¬ th_MR G Γ9 H60 b76 := fun w => absurd (th_MR_lt hB.2.1 w) (by omega)
  have u76 := kn.1
  have hB := th_NR_s hB hB1 u76 n760 (by omega) oq76
  have hIN := th_IN_s hIN u76 oq76
  have nb : ¬ th_MR G Γ9 H76 b76 := fun w => n760 (th_MR_s u76 oq76 w)
  have ho := tc_OBo ho oq76 (by omega)
  have k18xxxxxxxxxxx := tm_MAo k18xxxxxxxxxx oq76 (of_ne of_b18 of_b76 (by decide))
  have n18xxxxxxxxxxx : ¬ th_MR G Γ9 H76 b18 := fun w => n18xxxxxxxxxx (th_MR_s u76 oq76 w)
  have k27xxxxxxxxx := tm_MAo k27xxxxxxxx oq76 (of_ne of_b27 of_b76 (by decide))
  have n27xxxxxxxxx : ¬ th_MR G Γ9 H76 b27 := fun w => n27xxxxxxxx (th_MR_s u76 oq76 w)
  have k35xxxxxxx := tm_MAo k35xxxxxx oq76 (of_ne of_b35 of_b76 (by decide))
  have n35xxxxxxx : ¬ th_MR G Γ9 H76 b35 := fun w => n35xxxxxx (th_MR_s u76 oq76 w)
  have k43xxxxx := tm_MAo k43xxxx oq76 (of_ne of_b43 of_b76 (by decide))
  have n43xxxxx : ¬ th_MR G Γ9 H76 b43 := fun w => n43xxxx (th_MR_s u76 oq76 w)
  have lbn : H0.size ≤ b76 := by omega
  have ltn : b76 < H76.size := by omega
  have szn : G.1.2.2 ≤ b76 := by have q9 := hB.1.2.2.2.2.2.1; have q8 := hB.1.2.2.2.2.2.2; omega
  have hs : H76.size = H0.size + 13 := by omega
  refine lv_dup hx hb gX8_init_5.2.1 rfl ?_
  refine th_call (th_runI (As := []) (rest := [.ref b76, .int 0, .ref b18]) hC mf_X10_init km_X8_44 im_X10_init rfl (c_X10_init_i l G Γ9 H76 hB.1.1 hB.2.1 b76 kn szn ltn nb (by omega)) rfl rfl ⟨Nat.le_of_ble_eq_true rfl, Nat.le_of_ble_eq_true rfl⟩ rfl hl.1 rfl (Nat.le_of_ble_eq_true rfl) gX8_init_5.2.2.1 ⟨Nat.le_of_ble_eq_true rfl, Nat.le_of_ble_eq_true rfl⟩) hB.1.2.1 (fun v80 H80 locs hp hz hS => ?_)
  obtain ⟨rfl, Γ80, hy, hi, hzn⟩ := hp
  have hB := th_NR_c hB hy lbn hS
  have hIN := th_IN_c hIN hy hi
  have ho := tc_OBc ho hy (by omega) (by omega)
  have n18xxxxxxxxxxxx : ¬ th_MR G Γ80 H80 b18 := fun w => (hy.2.2.2.1 _ w).elim n18xxxxxxxxxxx (fun w => absurd w (by have q9 := (of_lt hz1 hs of_b18 (by decide)); omega))
  have k18xxxxxxxxxxxx := tc_MAc k18xxxxxxxxxxx hy (of_ne of_b18 of_b76 (by decide))
  have n27xxxxxxxxxx : ¬ th_MR G Γ80 H80 b27 := fun w => (hy.2.2.2.1 _ w).elim n27xxxxxxxxx (fun w => absurd w (by have q9 := (of_lt hz1 hs of_b27 (by decide)); omega))
  have k27xxxxxxxxxx := tc_MAc k27xxxxxxxxx hy (of_ne of_b27 of_b76 (by decide))
  have n35xxxxxxxx : ¬ th_MR G Γ80 H80 b35 := fun w => (hy.2.2.2.1 _ w).elim n35xxxxxxx (fun w => absurd w (by have q9 := (of_lt hz1 hs of_b35 (by decide)); omega))
  have k35xxxxxxxx := tc_MAc k35xxxxxxx hy (of_ne of_b35 of_b76 (by decide))
  have n43xxxxxx : ¬ th_MR G Γ80 H80 b43 := fun w => (hy.2.2.2.1 _ w).elim n43xxxxx (fun w => absurd w (by have q9 := (of_lt hz1 hs of_b43 (by decide)); omega))
  have k43xxxxxx := tc_MAc k43xxxxx hy (of_ne of_b43 of_b76 (by decide))
  have hr_b5x := (hy.1.2.2 b5 (of_lt hz1 hs of_b5 (by decide)) (of_ne of_b5 of_b76 (by decide))).1.trans hr_b5
  have hr_b76 := hy.2.2.1
  have hs : H80.size = H0.size + 15 := by omega
  have hN := th_new_c hN hy
  refine W.eq (g2 := F0 m 83 ls [.ref b76, .int 0, .ref b18]) rfl ?_
  refine tc_aast (x := 0) hC hB.1 k18xxxxxxxxxxxx lb18 rfl hr_b76 ro_39 rfl tk_0 (by decide) (by decide) gX8_init_5.2.2.2.1 (fun H83 locs hB1 kq z83 oq83 => ?_)
  have hq := k18xxxxxxxxxxxx.2.1
  have hB := th_NR_s hB hB1 hq n18xxxxxxxxxxxx (by omega) oq83
  have hIN := th_IN_s hIN hq oq83
  have n18xxxxxxxxxxxxx : ¬ th_MR G Γ80 H83 b18 := fun w => n18xxxxxxxxxxxx (th_MR_s hq oq83 w)
  have ho := tc_OBo ho oq83 (by have q9 := lb18; omega)
  have k27xxxxxxxxxxx := tm_MAo k27xxxxxxxxxx oq83 (fun e => (of_ne of_b18 of_b27 (by decide)) e.symm)
  have n27xxxxxxxxxxx : ¬ th_MR G Γ80 H83 b27 := fun w => n27xxxxxxxxxx (th_MR_s hq oq83 w)
  have k35xxxxxxxxx := tm_MAo k35xxxxxxxx oq83 (fun e => (of_ne of_b18 of_b35 (by decide)) e.symm)
  have n35xxxxxxxxx : ¬ th_MR G Γ80 H83 b35 := fun w => n35xxxxxxxx (th_MR_s hq oq83 w)
  have k43xxxxxxx := tm_MAo k43xxxxxx oq83 (fun e => (of_ne of_b18 of_b43 (by decide)) e.symm)
  have n43xxxxxxx : ¬ th_MR G Γ80 H83 b43 := fun w => n43xxxxxx (th_MR_s hq oq83 w)
  have kz83 := kq
  have hs : H83.size = H0.size + 15 := by omega
  refine tr_iinc (fun z84_1 => [(1, .int z84_1), (0, .ref a0)]) hx hb gX8_init_5.2.2.2.2.1 hl (k := 0) rfl tk_0 tk_1 (by decide) (by decide) (by decide) (fun _ => rfl) (fun z84_1 ls ez84_1 hl => ?_)
  have pz84_1 : z84_1.toInt = 1 := ez84_1
  refine lv_goto (tgt := 65) hx hb gX8_init_5.2.2.2.2.2.1 (by decide) ?_
  refine lv_iload_n hx hb gX8_init_4.2.2.1 rfl (lv_at hl 0 rfl) ?_
  refine lv_bipush (v := 6) hx hb gX8_init_4.2.2.2.1 (by decide) ?_
  refine tr_icmp_ge (tgt := 90) hx hb gX8_init_4.2.2.2.2.1 (by decide) pz84_1 tk_6 (fun c => absurd c (by decide)) (fun _ => ?_)
  refine lv_aload_n hx hb gX8_init_4.2.2.2.2.2.1 rfl (lv_at hl 1 rfl) ?_
  refine tc_get hC cf_X8 ho (j := 1) (by decide) rfl kf_X8_20 gX8_init_4.2.2.2.2.2.2.1 ?_
  refine lv_iload_n hx hb gX8_init_4.2.2.2.2.2.2.2 rfl (lv_at hl 0 rfl) ?_
  refine tc_new hC cf_X10 hB.1 kw_105 kw_107 kw_4 (Nat.le_of_ble_eq_true rfl) (Nat.le_of_ble_eq_true rfl) gX8_init_5.1 (fun b76_1 H76_1 eb76 zb76 oq76 hB1 kn => ?_)
  have of_b76_1 : b76_1 = a0 + 16 := by omega
  have n760 : ¬ th_MR G Γ80 H83 b76_1 := fun w => absurd (th_MR_lt hB.2.1 w) (by omega)
  have u76 := kn.1
  have hB := th_NR_s hB hB1 u76 n760 (by omega) oq76
  have hIN := th_IN_s hIN u76 oq76
  have nb : ¬ th_MR G Γ80 H76_1 b76_1 := fun w => n760 (th_MR_s u76 oq76 w)
  have ho := tc_OBo ho oq76 (by omega)
  have kz83x := tm_MAo kz83 oq76 (of_ne of_b18 of_b76_1 (by decide))
  have n18xxxxxxxxxxxxxx : ¬ th_MR G Γ80 H76_1 b18 := fun w => n18xxxxxxxxxxxxx (th_MR_s u76 oq76 w)
  have k27xxxxxxxxxxxx := tm_MAo k27xxxxxxxxxxx oq76 (of_ne of_b27 of_b76_1 (by decide))
  have n27xxxxxxxxxxxx : ¬ th_MR G Γ80 H76_1 b27 := fun w => n27xxxxxxxxxxx (th_MR_s u76 oq76 w)
  have k35xxxxxxxxxx := tm_MAo k35xxxxxxxxx oq76 (of_ne of_b35 of_b76_1 (by decide))
  have n35xxxxxxxxxx : ¬ th_MR G Γ80 H76_1 b35 := fun w => n35xxxxxxxxx (th_MR_s u76 oq76 w)
  have k43xxxxxxxx := tm_MAo k43xxxxxxx oq76 (of_ne of_b43 of_b76_1 (by decide))
  have n43xxxxxxxx : ¬ th_MR G Γ80 H76_1 b43 := fun w => n43xxxxxxx (th_MR_s u76 oq76 w)
  have lbn : H0.size ≤ b76_1 := by omega
  have ltn : b76_1 < H76_1.size := by omega
  have szn : G.1.2.2 ≤ b76_1 := by have q9 := hB.1.2.2.2.2.2.1; have q8 := hB.1.2.2.2.2.2.2; omega
  have hs : H76_1.size = H0.size + 16 := by omega
  refine lv_dup hx hb gX8_init_5.2.1 rfl ?_
  refine th_call (th_runI (As := []) (rest := [.ref b76_1, .int z84_1, .ref b18]) hC mf_X10_init km_X8_44 im_X10_init rfl (c_X10_init_i l G Γ80 H76_1 hB.1.1 hB.2.1 b76_1 kn szn ltn nb (by omega)) rfl rfl ⟨Nat.le_of_ble_eq_true rfl, Nat.le_of_ble_eq_true rfl⟩ rfl hl.1 rfl (Nat.le_of_ble_eq_true rfl) gX8_init_5.2.2.1 ⟨Nat.le_of_ble_eq_true rfl, Nat.le_of_ble_eq_true rfl⟩) hB.1.2.1 (fun v80 H80_1 locs hp hz hS => ?_)
  obtain ⟨rfl, Γ80_1, hy, hi, hzn⟩ := hp
  have hB := th_NR_c hB hy lbn hS
  have hIN := th_IN_c hIN hy hi
  have ho := tc_OBc ho hy (by omega) (by omega)
  have n18xxxxxxxxxxxxxxx : ¬ th_MR G Γ80_1 H80_1 b18 := fun w => (hy.2.2.2.1 _ w).elim n18xxxxxxxxxxxxxx (fun w => absurd w (by have q9 := (of_lt hz1 hs of_b18 (by decide)); omega))
  have kz83xx := tc_MAc kz83x hy (of_ne of_b18 of_b76_1 (by decide))
  have n27xxxxxxxxxxxxx : ¬ th_MR G Γ80_1 H80_1 b27 := fun w => (hy.2.2.2.1 _ w).elim n27xxxxxxxxxxxx (fun w => absurd w (by have q9 := (of_lt hz1 hs of_b27 (by decide)); omega))
  have k27xxxxxxxxxxxxx := tc_MAc k27xxxxxxxxxxxx hy (of_ne of_b27 of_b76_1 (by decide))
  have n35xxxxxxxxxxx : ¬ th_MR G Γ80_1 H80_1 b35 := fun w => (hy.2.2.2.1 _ w).elim n35xxxxxxxxxx (fun w => absurd w (by have q9 := (of_lt hz1 hs of_b35 (by decide)); omega))
  have k35xxxxxxxxxxx := tc_MAc k35xxxxxxxxxx hy (of_ne of_b35 of_b76_1 (by decide))
  have n43xxxxxxxxx : ¬ th_MR G Γ80_1 H80_1 b43 := fun w => (hy.2.2.2.1 _ w).elim n43xxxxxxxx (fun w => absurd w (by have q9 := (of_lt hz1 hs of_b43 (by decide)); omega))
  have k43xxxxxxxxx := tc_MAc k43xxxxxxxx hy (of_ne of_b43 of_b76_1 (by decide))
  have hr_b5xx := (hy.1.2.2 b5 (of_lt hz1 hs of_b5 (by decide)) (of_ne of_b5 of_b76_1 (by decide))).1.trans hr_b5x
  have hr_b76x := (hy.1.2.2 b76 (of_lt hz1 hs of_b76 (by decide)) (of_ne of_b76 of_b76_1 (by decide))).1.trans hr_b76
  have hr_b76_1 := hy.2.2.1
  have hs : H80_1.size = H0.size + 18 := by omega
  have hN := th_new_c hN hy
  refine W.eq (g2 := F0 m 83 ls [.ref b76_1, .int z84_1, .ref b18]) rfl ?_
  refine tc_aast (x := 1) hC hB.1 kz83xx lb18 rfl hr_b76_1 ro_39 rfl pz84_1 (by decide) (by decide) gX8_init_5.2.2.2.1 (fun H83_1 locs hB1 kq z83 oq83 => ?_)
  have hq := kz83xx.2.1
  have hB := th_NR_s hB hB1 hq n18xxxxxxxxxxxxxxx (by omega) oq83
  have hIN := th_IN_s hIN hq oq83
  have n18xxxxxxxxxxxxxxxx : ¬ th_MR G Γ80_1 H83_1 b18 := fun w => n18xxxxxxxxxxxxxxx (th_MR_s hq oq83 w)
  have ho := tc_OBo ho oq83 (by have q9 := lb18; omega)
  have k27xxxxxxxxxxxxxx := tm_MAo k27xxxxxxxxxxxxx oq83 (fun e => (of_ne of_b18 of_b27 (by decide)) e.symm)
  have n27xxxxxxxxxxxxxx : ¬ th_MR G Γ80_1 H83_1 b27 := fun w => n27xxxxxxxxxxxxx (th_MR_s hq oq83 w)
  have k35xxxxxxxxxxxx := tm_MAo k35xxxxxxxxxxx oq83 (fun e => (of_ne of_b18 of_b35 (by decide)) e.symm)
  have n35xxxxxxxxxxxx : ¬ th_MR G Γ80_1 H83_1 b35 := fun w => n35xxxxxxxxxxx (th_MR_s hq oq83 w)
  have k43xxxxxxxxxx := tm_MAo k43xxxxxxxxx oq83 (fun e => (of_ne of_b18 of_b43 (by decide)) e.symm)
  have n43xxxxxxxxxx : ¬ th_MR G Γ80_1 H83_1 b43 := fun w => n43xxxxxxxxx (th_MR_s hq oq83 w)
  have kz83_1 := kq
  have hs : H83_1.size = H0.size + 18 := by omega
  refine tr_iinc (fun z84_2 => [(1, .int z84_2), (0, .ref a0)]) hx hb gX8_init_5.2.2.2.2.1 hl (k := 0) rfl pz84_1 tk_1 (by decide) (by decide) (by decide) (fun _ => rfl) (fun z84_2 ls ez84_2 hl => ?_)
  have pz84_2 : z84_2.toInt = 2 := ez84_2
  refine lv_goto (tgt := 65) hx hb gX8_init_5.2.2.2.2.2.1 (by decide) ?_
  refine lv_iload_n hx hb gX8_init_4.2.2.1 rfl (lv_at hl 0 rfl) ?_
  refine lv_bipush (v := 6) hx hb gX8_init_4.2.2.2.1 (by decide) ?_
  refine tr_icmp_ge (tgt := 90) hx hb gX8_init_4.2.2.2.2.1 (by decide) pz84_2 tk_6 (fun c => absurd c (by decide)) (fun _ => ?_)
  refine lv_aload_n hx hb gX8_init_4.2.2.2.2.2.1 rfl (lv_at hl 1 rfl) ?_
  refine tc_get hC cf_X8 ho (j := 1) (by decide) rfl kf_X8_20 gX8_init_4.2.2.2.2.2.2.1 ?_
  refine lv_iload_n hx hb gX8_init_4.2.2.2.2.2.2.2 rfl (lv_at hl 0 rfl) ?_
  refine tc_new hC cf_X10 hB.1 kw_105 kw_107 kw_4 (Nat.le_of_ble_eq_true rfl) (Nat.le_of_ble_eq_true rfl) gX8_init_5.1 (fun b76_2 H76_2 eb76 zb76 oq76 hB1 kn => ?_)
  have of_b76_2 : b76_2 = a0 + 19 := by omega
  have n760 : ¬ th_MR G Γ80_1 H83_1 b76_2 := fun w => absurd (th_MR_lt hB.2.1 w) (by omega)
  have u76 := kn.1
  have hB := th_NR_s hB hB1 u76 n760 (by omega) oq76
  have hIN := th_IN_s hIN u76 oq76
  have nb : ¬ th_MR G Γ80_1 H76_2 b76_2 := fun w => n760 (th_MR_s u76 oq76 w)
  have ho := tc_OBo ho oq76 (by omega)
  have kz83_1x := tm_MAo kz83_1 oq76 (of_ne of_b18 of_b76_2 (by decide))
  have n18xxxxxxxxxxxxxxxxx : ¬ th_MR G Γ80_1 H76_2 b18 := fun w => n18xxxxxxxxxxxxxxxx (th_MR_s u76 oq76 w)
  have k27xxxxxxxxxxxxxxx := tm_MAo k27xxxxxxxxxxxxxx oq76 (of_ne of_b27 of_b76_2 (by decide))
  have n27xxxxxxxxxxxxxxx : ¬ th_MR G Γ80_1 H76_2 b27 := fun w => n27xxxxxxxxxxxxxx (th_MR_s u76 oq76 w)
  have k35xxxxxxxxxxxxx := tm_MAo k35xxxxxxxxxxxx oq76 (of_ne of_b35 of_b76_2 (by decide))
  have n35xxxxxxxxxxxxx : ¬ th_MR G Γ80_1 H76_2 b35 := fun w => n35xxxxxxxxxxxx (th_MR_s u76 oq76 w)
  have k43xxxxxxxxxxx := tm_MAo k43xxxxxxxxxx oq76 (of_ne of_b43 of_b76_2 (by decide))
  have n43xxxxxxxxxxx : ¬ th_MR G Γ80_1 H76_2 b43 := fun w => n43xxxxxxxxxx (th_MR_s u76 oq76 w)
  have lbn : H0.size ≤ b76_2 := by omega
  have ltn : b76_2 < H76_2.size := by omega
  have szn : G.1.2.2 ≤ b76_2 := by have q9 := hB.1.2.2.2.2.2.1; have q8 := hB.1.2.2.2.2.2.2; omega
  have hs : H76_2.size = H0.size + 19 := by omega
  refine lv_dup hx hb gX8_init_5.2.1 rfl ?_
  refine th_call (th_runI (As := []) (rest := [.ref b76_2, .int z84_2, .ref b18]) hC mf_X10_init km_X8_44 im_X10_init rfl (c_X10_init_i l G Γ80_1 H76_2 hB.1.1 hB.2.1 b76_2 kn szn ltn nb (by omega)) rfl rfl ⟨Nat.le_of_ble_eq_true rfl, Nat.le_of_ble_eq_true rfl⟩ rfl hl.1 rfl (Nat.le_of_ble_eq_true rfl) gX8_init_5.2.2.1 ⟨Nat.le_of_ble_eq_true rfl, Nat.le_of_ble_eq_true rfl⟩) hB.1.2.1 (fun v80 H80_2 locs hp hz hS => ?_)
  obtain ⟨rfl, Γ80_2, hy, hi, hzn⟩ := hp
  have hB := th_NR_c hB hy lbn hS
  have hIN := th_IN_c hIN hy hi
  have ho := tc_OBc ho hy (by omega) (by omega)
  have n18xxxxxxxxxxxxxxxxxx : ¬ th_MR G Γ80_2 H80_2 b18 := fun w => (hy.2.2.2.1 _ w).elim n18xxxxxxxxxxxxxxxxx (fun w => absurd w (by have q9 := (of_lt hz1 hs of_b18 (by decide)); omega))
  have kz83_1xx := tc_MAc kz83_1x hy (of_ne of_b18 of_b76_2 (by decide))
  have n27xxxxxxxxxxxxxxxx : ¬ th_MR G Γ80_2 H80_2 b27 := fun w => (hy.2.2.2.1 _ w).elim n27xxxxxxxxxxxxxxx (fun w => absurd w (by have q9 := (of_lt hz1 hs of_b27 (by decide)); omega))
  have k27xxxxxxxxxxxxxxxx := tc_MAc k27xxxxxxxxxxxxxxx hy (of_ne of_b27 of_b76_2 (by decide))
  have n35xxxxxxxxxxxxxx : ¬ th_MR G Γ80_2 H80_2 b35 := fun w => (hy.2.2.2.1 _ w).elim n35xxxxxxxxxxxxx (fun w => absurd w (by have q9 := (of_lt hz1 hs of_b35 (by decide)); omega))
  have k35xxxxxxxxxxxxxx := tc_MAc k35xxxxxxxxxxxxx hy (of_ne of_b35 of_b76_2 (by decide))
  have n43xxxxxxxxxxxx : ¬ th_MR G Γ80_2 H80_2 b43 := fun w => (hy.2.2.2.1 _ w).elim n43xxxxxxxxxxx (fun w => absurd w (by have q9 := (of_lt hz1 hs of_b43 (by decide)); omega))
  have k43xxxxxxxxxxxx := tc_MAc k43xxxxxxxxxxx hy (of_ne of_b43 of_b76_2 (by decide))
  have hr_b5xxx := (hy.1.2.2 b5 (of_lt hz1 hs of_b5 (by decide)) (of_ne of_b5 of_b76_2 (by decide))).1.trans hr_b5xx
  have hr_b76xx := (hy.1.2.2 b76 (of_lt hz1 hs of_b76 (by decide)) (of_ne of_b76 of_b76_2 (by decide))).1.trans hr_b76x
  have hr_b76_1x := (hy.1.2.2 b76_1 (of_lt hz1 hs of_b76_1 (by decide)) (of_ne of_b76_1 of_b76_2 (by decide))).1.trans hr_b76_1
  have hr_b76_2 := hy.2.2.1
  have hs : H80_2.size = H0.size + 21 := by omega
  have hN := th_new_c hN hy
  refine W.eq (g2 := F0 m 83 ls [.ref b76_2, .int z84_2, .ref b18]) rfl ?_
  refine tc_aast (x := 2) hC hB.1 kz83_1xx lb18 rfl hr_b76_2 ro_39 rfl pz84_2 (by decide) (by decide) gX8_init_5.2.2.2.1 (fun H83_2 locs hB1 kq z83 oq83 => ?_)
  have hq := kz83_1xx.2.1
  have hB := th_NR_s hB hB1 hq n18xxxxxxxxxxxxxxxxxx (by omega) oq83
  have hIN := th_IN_s hIN hq oq83
  have n18xxxxxxxxxxxxxxxxxxx : ¬ th_MR G Γ80_2 H83_2 b18 := fun w => n18xxxxxxxxxxxxxxxxxx (th_MR_s hq oq83 w)
  have ho := tc_OBo ho oq83 (by have q9 := lb18; omega)
  have k27xxxxxxxxxxxxxxxxx := tm_MAo k27xxxxxxxxxxxxxxxx oq83 (fun e => (of_ne of_b18 of_b27 (by decide)) e.symm)
  have n27xxxxxxxxxxxxxxxxx : ¬ th_MR G Γ80_2 H83_2 b27 := fun w => n27xxxxxxxxxxxxxxxx (th_MR_s hq oq83 w)
  have k35xxxxxxxxxxxxxxx := tm_MAo k35xxxxxxxxxxxxxx oq83 (fun e => (of_ne of_b18 of_b35 (by decide)) e.symm)
  have n35xxxxxxxxxxxxxxx : ¬ th_MR G Γ80_2 H83_2 b35 := fun w => n35xxxxxxxxxxxxxx (th_MR_s hq oq83 w)
  have k43xxxxxxxxxxxxx := tm_MAo k43xxxxxxxxxxxx oq83 (fun e => (of_ne of_b18 of_b43 (by decide)) e.symm)
  have n43xxxxxxxxxxxxx : ¬ th_MR G Γ80_2 H83_2 b43 := fun w => n43xxxxxxxxxxxx (th_MR_s hq oq83 w)
  have kz83_2 := kq
  have hs : H83_2.size = H0.size + 21 := by omega
  refine tr_iinc (fun z84_3 => [(1, .int z84_3), (0, .ref a0)]) hx hb gX8_init_5.2.2.2.2.1 hl (k := 0) rfl pz84_2 tk_1 (by decide) (by decide) (by decide) (fun _ => rfl) (fun z84_3 ls ez84_3 hl => ?_)
  have pz84_3 : z84_3.toInt = 3 := ez84_3
  refine lv_goto (tgt := 65) hx hb gX8_init_5.2.2.2.2.2.1 (by decide) ?_
  refine lv_iload_n hx hb gX8_init_4.2.2.1 rfl (lv_at hl 0 rfl) ?_
  refine lv_bipush (v := 6) hx hb gX8_init_4.2.2.2.1 (by decide) ?_
  refine tr_icmp_ge (tgt := 90) hx hb gX8_init_4.2.2.2.2.1 (by decide) pz84_3 tk_6 (fun c => absurd c (by decide)) (fun _ => ?_)
  refine lv_aload_n hx hb gX8_init_4.2.2.2.2.2.1 rfl (lv_at hl 1 rfl) ?_
  refine tc_get hC cf_X8 ho (j := 1) (by decide) rfl kf_X8_20 gX8_init_4.2.2.2.2.2.2.1 ?_
  refine lv_iload_n hx hb gX8_init_4.2.2.2.2.2.2.2 rfl (lv_at hl 0 rfl) ?_
  refine tc_new hC cf_X10 hB.1 kw_105 kw_107 kw_4 (Nat.le_of_ble_eq_true rfl) (Nat.le_of_ble_eq_true rfl) gX8_init_5.1 (fun b76_3 H76_3 eb76 zb76 oq76 hB1 kn => ?_)
  have of_b76_3 : b76_3 = a0 + 22 := by omega
  have n760 : ¬ th_MR G Γ80_2 H83_2 b76_3 := fun w => absurd (th_MR_lt hB.2.1 w) (by omega)
  have u76 := kn.1
  have hB := th_NR_s hB hB1 u76 n760 (by omega) oq76
  have hIN := th_IN_s hIN u76 oq76
  have nb : ¬ th_MR G Γ80_2 H76_3 b76_3 := fun w => n760 (th_MR_s u76 oq76 w)
  have ho := tc_OBo ho oq76 (by omega)
  have kz83_2x := tm_MAo kz83_2 oq76 (of_ne of_b18 of_b76_3 (by decide))
  have n18xxxxxxxxxxxxxxxxxxxx : ¬ th_MR G Γ80_2 H76_3 b18 := fun w => n18xxxxxxxxxxxxxxxxxxx (th_MR_s u76 oq76 w)
  have k27xxxxxxxxxxxxxxxxxx := tm_MAo k27xxxxxxxxxxxxxxxxx oq76 (of_ne of_b27 of_b76_3 (by decide))
  have n27xxxxxxxxxxxxxxxxxx : ¬ th_MR G Γ80_2 H76_3 b27 := fun w => n27xxxxxxxxxxxxxxxxx (th_MR_s u76 oq76 w)
  have k35xxxxxxxxxxxxxxxx := tm_MAo k35xxxxxxxxxxxxxxx oq76 (of_ne of_b35 of_b76_3 (by decide))
  have n35xxxxxxxxxxxxxxxx : ¬ th_MR G Γ80_2 H76_3 b35 := fun w => n35xxxxxxxxxxxxxxx (th_MR_s u76 oq76 w)
  have k43xxxxxxxxxxxxxx := tm_MAo k43xxxxxxxxxxxxx oq76 (of_ne of_b43 of_b76_3 (by decide))
  have n43xxxxxxxxxxxxxx : ¬ th_MR G Γ80_2 H76_3 b43 := fun w => n43xxxxxxxxxxxxx (th_MR_s u76 oq76 w)
  have lbn : H0.size ≤ b76_3 := by omega
  have ltn : b76_3 < H76_3.size := by omega
  have szn : G.1.2.2 ≤ b76_3 := by have q9 := hB.1.2.2.2.2.2.1; have q8 := hB.1.2.2.2.2.2.2; omega
  have hs : H76_3.size = H0.size + 22 := by omega
  refine lv_dup hx hb gX8_init_5.2.1 rfl ?_
  refine th_call (th_runI (As := []) (rest := [.ref b76_3, .int z84_3, .ref b18]) hC mf_X10_init km_X8_44 im_X10_init rfl (c_X10_init_i l G Γ80_2 H76_3 hB.1.1 hB.2.1 b76_3 kn szn ltn nb (by omega)) rfl rfl ⟨Nat.le_of_ble_eq_true rfl, Nat.le_of_ble_eq_true rfl⟩ rfl hl.1 rfl (Nat.le_of_ble_eq_true rfl) gX8_init_5.2.2.1 ⟨Nat.le_of_ble_eq_true rfl, Nat.le_of_ble_eq_true rfl⟩) hB.1.2.1 (fun v80 H80_3 locs hp hz hS => ?_)
  obtain ⟨rfl, Γ80_3, hy, hi, hzn⟩ := hp
  have hB := th_NR_c hB hy lbn hS
  have hIN := th_IN_c hIN hy hi
  have ho := tc_OBc ho hy (by omega) (by omega)
  have n18xxxxxxxxxxxxxxxxxxxxx : ¬ th_MR G Γ80_3 H80_3 b18 := fun w => (hy.2.2.2.1 _ w).elim n18xxxxxxxxxxxxxxxxxxxx (fun w => absurd w (by have q9 := (of_lt hz1 hs of_b18 (by decide)); omega))
  have kz83_2xx := tc_MAc kz83_2x hy (of_ne of_b18 of_b76_3 (by decide))
  have n27xxxxxxxxxxxxxxxxxxx : ¬ th_MR G Γ80_3 H80_3 b27 := fun w => (hy.2.2.2.1 _ w).elim n27xxxxxxxxxxxxxxxxxx (fun w => absurd w (by have q9 := (of_lt hz1 hs of_b27 (by decide)); omega))
  have k27xxxxxxxxxxxxxxxxxxx := tc_MAc k27xxxxxxxxxxxxxxxxxx hy (of_ne of_b27 of_b76_3 (by decide))
  have n35xxxxxxxxxxxxxxxxx : ¬ th_MR G Γ80_3 H80_3 b35 := fun w => (hy.2.2.2.1 _ w).elim n35xxxxxxxxxxxxxxxx (fun w => absurd w (by have q9 := (of_lt hz1 hs of_b35 (by decide)); omega))
  have k35xxxxxxxxxxxxxxxxx := tc_MAc k35xxxxxxxxxxxxxxxx hy (of_ne of_b35 of_b76_3 (by decide))
  have n43xxxxxxxxxxxxxxx : ¬ th_MR G Γ80_3 H80_3 b43 := fun w => (hy.2.2.2.1 _ w).elim n43xxxxxxxxxxxxxx (fun w => absurd w (by have q9 := (of_lt hz1 hs of_b43 (by decide)); omega))
  have k43xxxxxxxxxxxxxxx := tc_MAc k43xxxxxxxxxxxxxx hy (of_ne of_b43 of_b76_3 (by decide))
  have hr_b5xxxx := (hy.1.2.2 b5 (of_lt hz1 hs of_b5 (by decide)) (of_ne of_b5 of_b76_3 (by decide))).1.trans hr_b5xxx
  have hr_b76xxx := (hy.1.2.2 b76 (of_lt hz1 hs of_b76 (by decide)) (of_ne of_b76 of_b76_3 (by decide))).1.trans hr_b76xx
  have hr_b76_1xx := (hy.1.2.2 b76_1 (of_lt hz1 hs of_b76_1 (by decide)) (of_ne of_b76_1 of_b76_3 (by decide))).1.trans hr_b76_1x
  have hr_b76_2x := (hy.1.2.2 b76_2 (of_lt hz1 hs of_b76_2 (by decide)) (of_ne of_b76_2 of_b76_3 (by decide))).1.trans hr_b76_2
  have hr_b76_3 := hy.2.2.1
  have hs : H80_3.size = H0.size + 24 := by omega
  have hN := th_new_c hN hy
  refine W.eq (g2 := F0 m 83 ls [.ref b76_3, .int z84_3, .ref b18]) rfl ?_
  refine tc_aast (x := 3) hC hB.1 kz83_2xx lb18 rfl hr_b76_3 ro_39 rfl pz84_3 (by decide) (by decide) gX8_init_5.2.2.2.1 (fun H83_3 locs hB1 kq z83 oq83 => ?_)
  have hq := kz83_2xx.2.1
  have hB := th_NR_s hB hB1 hq n18xxxxxxxxxxxxxxxxxxxxx (by omega) oq83
  have hIN := th_IN_s hIN hq oq83
  have n18xxxxxxxxxxxxxxxxxxxxxx : ¬ th_MR G Γ80_3 H83_3 b18 := fun w => n18xxxxxxxxxxxxxxxxxxxxx (th_MR_s hq oq83 w)
  have ho := tc_OBo ho oq83 (by have q9 := lb18; omega)
  have k27xxxxxxxxxxxxxxxxxxxx := tm_MAo k27xxxxxxxxxxxxxxxxxxx oq83 (fun e => (of_ne of_b18 of_b27 (by decide)) e.symm)
  have n27xxxxxxxxxxxxxxxxxxxx : ¬ th_MR G Γ80_3 H83_3 b27 := fun w => n27xxxxxxxxxxxxxxxxxxx (th_MR_s hq oq83 w)
  have k35xxxxxxxxxxxxxxxxxx := tm_MAo k35xxxxxxxxxxxxxxxxx oq83 (fun e => (of_ne of_b18 of_b35 (by decide)) e.symm)
  have n35xxxxxxxxxxxxxxxxxx : ¬ th_MR G Γ80_3 H83_3 b35 := fun w => n35xxxxxxxxxxxxxxxxx (th_MR_s hq oq83 w)
  have k43xxxxxxxxxxxxxxxx := tm_MAo k43xxxxxxxxxxxxxxx oq83 (fun e => (of_ne of_b18 of_b43 (by decide)) e.symm)
  have n43xxxxxxxxxxxxxxxx : ¬ th_MR G Γ80_3 H83_3 b43 := fun w => n43xxxxxxxxxxxxxxx (th_MR_s hq oq83 w)
  have kz83_3 := kq
  have hs : H83_3.size = H0.size + 24 := by omega
  refine tr_iinc (fun z84_4 => [(1, .int z84_4), (0, .ref a0)]) hx hb gX8_init_5.2.2.2.2.1 hl (k := 0) rfl pz84_3 tk_1 (by decide) (by decide) (by decide) (fun _ => rfl) (fun z84_4 ls ez84_4 hl => ?_)
  have pz84_4 : z84_4.toInt = 4 := ez84_4
  refine lv_goto (tgt := 65) hx hb gX8_init_5.2.2.2.2.2.1 (by decide) ?_
  refine lv_iload_n hx hb gX8_init_4.2.2.1 rfl (lv_at hl 0 rfl) ?_
  refine lv_bipush (v := 6) hx hb gX8_init_4.2.2.2.1 (by decide) ?_
  refine tr_icmp_ge (tgt := 90) hx hb gX8_init_4.2.2.2.2.1 (by decide) pz84_4 tk_6 (fun c => absurd c (by decide)) (fun _ => ?_)
  refine lv_aload_n hx hb gX8_init_4.2.2.2.2.2.1 rfl (lv_at hl 1 rfl) ?_
  refine tc_get hC cf_X8 ho (j := 1) (by decide) rfl kf_X8_20 gX8_init_4.2.2.2.2.2.2.1 ?_
  refine lv_iload_n hx hb gX8_init_4.2.2.2.2.2.2.2 rfl (lv_at hl 0 rfl) ?_
  refine tc_new hC cf_X10 hB.1 kw_105 kw_107 kw_4 (Nat.le_of_ble_eq_true rfl) (Nat.le_of_ble_eq_true rfl) gX8_init_5.1 (fun b76_4 H76_4 eb76 zb76 oq76 hB1 kn => ?_)
  have of_b76_4 : b76_4 = a0 + 25 := by omega
  have n760 : ¬ th_MR G Γ80_3 H83_3 b76_4 := fun w => absurd (th_MR_lt hB.2.1 w) (by omega)
  have u76 := kn.1
  have hB := th_NR_s hB hB1 u76 n760 (by omega) oq76
  have hIN := th_IN_s hIN u76 oq76
  have nb : ¬ th_MR G Γ80_3 H76_4 b76_4 := fun w => n760 (th_MR_s u76 oq76 w)
  have ho := tc_OBo ho oq76 (by omega)
  have kz83_3x := tm_MAo kz83_3 oq76 (of_ne of_b18 of_b76_4 (by decide))
  have n18xxxxxxxxxxxxxxxxxxxxxxx : ¬ th_MR G Γ80_3 H76_4 b18 := fun w => n18xxxxxxxxxxxxxxxxxxxxxx (th_MR_s u76 oq76 w)
  have k27xxxxxxxxxxxxxxxxxxxxx := tm_MAo k27xxxxxxxxxxxxxxxxxxxx oq76 (of_ne of_b27 of_b76_4 (by decide))
  have n27xxxxxxxxxxxxxxxxxxxxx : ¬ th_MR G Γ80_3 H76_4 b27 := fun w => n27xxxxxxxxxxxxxxxxxxxx (th_MR_s u76 oq76 w)
  have k35xxxxxxxxxxxxxxxxxxx := tm_MAo k35xxxxxxxxxxxxxxxxxx oq76 (of_ne of_b35 of_b76_4 (by decide))
  have n35xxxxxxxxxxxxxxxxxxx : ¬ th_MR G Γ80_3 H76_4 b35 := fun w => n35xxxxxxxxxxxxxxxxxx (th_MR_s u76 oq76 w)
  have k43xxxxxxxxxxxxxxxxx := tm_MAo k43xxxxxxxxxxxxxxxx oq76 (of_ne of_b43 of_b76_4 (by decide))
  have n43xxxxxxxxxxxxxxxxx : ¬ th_MR G Γ80_3 H76_4 b43 := fun w => n43xxxxxxxxxxxxxxxx (th_MR_s u76 oq76 w)
  have lbn : H0.size ≤ b76_4 := by omega
  have ltn : b76_4 < H76_4.size := by omega
  have szn : G.1.2.2 ≤ b76_4 := by have q9 := hB.1.2.2.2.2.2.1; have q8 := hB.1.2.2.2.2.2.2; omega
  have hs : H76_4.size = H0.size + 25 := by omega
  refine lv_dup hx hb gX8_init_5.2.1 rfl ?_
  refine th_call (th_runI (As := []) (rest := [.ref b76_4, .int z84_4, .ref b18]) hC mf_X10_init km_X8_44 im_X10_init rfl (c_X10_init_i l G Γ80_3 H76_4 hB.1.1 hB.2.1 b76_4 kn szn ltn nb (by omega)) rfl rfl ⟨Nat.le_of_ble_eq_true rfl, Nat.le_of_ble_eq_true rfl⟩ rfl hl.1 rfl (Nat.le_of_ble_eq_true rfl) gX8_init_5.2.2.1 ⟨Nat.le_of_ble_eq_true rfl, Nat.le_of_ble_eq_true rfl⟩) hB.1.2.1 (fun v80 H80_4 locs hp hz hS => ?_)
  obtain ⟨rfl, Γ80_4, hy, hi, hzn⟩ := hp
  have hB := th_NR_c hB hy lbn hS
  have hIN := th_IN_c hIN hy hi
  have ho := tc_OBc ho hy (by omega) (by omega)
  have n18xxxxxxxxxxxxxxxxxxxxxxxx : ¬ th_MR G Γ80_4 H80_4 b18 := fun w => (hy.2.2.2.1 _ w).elim n18xxxxxxxxxxxxxxxxxxxxxxx (fun w => absurd w (by have q9 := (of_lt hz1 hs of_b18 (by decide)); omega))
  have kz83_3xx := tc_MAc kz83_3x hy (of_ne of_b18 of_b76_4 (by decide))
  have n27xxxxxxxxxxxxxxxxxxxxxx : ¬ th_MR G Γ80_4 H80_4 b27 := fun w => (hy.2.2.2.1 _ w).elim n27xxxxxxxxxxxxxxxxxxxxx (fun w => absurd w (by have q9 := (of_lt hz1 hs of_b27 (by decide)); omega))
  have k27xxxxxxxxxxxxxxxxxxxxxx := tc_MAc k27xxxxxxxxxxxxxxxxxxxxx hy (of_ne of_b27 of_b76_4 (by decide))
  have n35xxxxxxxxxxxxxxxxxxxx : ¬ th_MR G Γ80_4 H80_4 b35 := fun w => (hy.2.2.2.1 _ w).elim n35xxxxxxxxxxxxxxxxxxx (fun w => absurd w (by have q9 := (of_lt hz1 hs of_b35 (by decide)); omega))
  have k35xxxxxxxxxxxxxxxxxxxx := tc_MAc k35xxxxxxxxxxxxxxxxxxx hy (of_ne of_b35 of_b76_4 (by decide))
  have n43xxxxxxxxxxxxxxxxxx : ¬ th_MR G Γ80_4 H80_4 b43 := fun w => (hy.2.2.2.1 _ w).elim n43xxxxxxxxxxxxxxxxx (fun w => absurd w (by have q9 := (of_lt hz1 hs of_b43 (by decide)); omega))
  have k43xxxxxxxxxxxxxxxxxx := tc_MAc k43xxxxxxxxxxxxxxxxx hy (of_ne of_b43 of_b76_4 (by decide))
  have hr_b5xxxxx := (hy.1.2.2 b5 (of_lt hz1 hs of_b5 (by decide)) (of_ne of_b5 of_b76_4 (by decide))).1.trans hr_b5xxxx
  have hr_b76xxxx := (hy.1.2.2 b76 (of_lt hz1 hs of_b76 (by decide)) (of_ne of_b76 of_b76_4 (by decide))).1.trans hr_b76xxx
  have hr_b76_1xxx := (hy.1.2.2 b76_1 (of_lt hz1 hs of_b76_1 (by decide)) (of_ne of_b76_1 of_b76_4 (by decide))).1.trans hr_b76_1xx
  have hr_b76_2xx := (hy.1.2.2 b76_2 (of_lt hz1 hs of_b76_2 (by decide)) (of_ne of_b76_2 of_b76_4 (by decide))).1.trans hr_b76_2x
  have hr_b76_3x := (hy.1.2.2 b76_3 (of_lt hz1 hs of_b76_3 (by decide)) (of_ne of_b76_3 of_b76_4 (by decide))).1.trans hr_b76_3
  have hr_b76_4 := hy.2.2.1
  have hs : H80_4.size = H0.size + 27 := by omega
  have hN := th_new_c hN hy
  refine W.eq (g2 := F0 m 83 ls [.ref b76_4, .int z84_4, .ref b18]) rfl ?_
  refine tc_aast (x := 4) hC hB.1 kz83_3xx lb18 rfl hr_b76_4 ro_39 rfl pz84_4 (by decide) (by decide) gX8_init_5.2.2.2.1 (fun H83_4 locs hB1 kq z83 oq83 => ?_)
  have hq := kz83_3xx.2.1
  have hB := th_NR_s hB hB1 hq n18xxxxxxxxxxxxxxxxxxxxxxxx (by omega) oq83
  have hIN := th_IN_s hIN hq oq83
  have n18xxxxxxxxxxxxxxxxxxxxxxxxx : ¬ th_MR G Γ80_4 H83_4 b18 := fun w => n18xxxxxxxxxxxxxxxxxxxxxxxx (th_MR_s hq oq83 w)
  have ho := tc_OBo ho oq83 (by have q9 := lb18; omega)
  have k27xxxxxxxxxxxxxxxxxxxxxxx := tm_MAo k27xxxxxxxxxxxxxxxxxxxxxx oq83 (fun e => (of_ne of_b18 of_b27 (by decide)) e.symm)
  have n27xxxxxxxxxxxxxxxxxxxxxxx : ¬ th_MR G Γ80_4 H83_4 b27 := fun w => n27xxxxxxxxxxxxxxxxxxxxxx (th_MR_s hq oq83 w)
  have k35xxxxxxxxxxxxxxxxxxxxx := tm_MAo k35xxxxxxxxxxxxxxxxxxxx oq83 (fun e => (of_ne of_b18 of_b35 (by decide)) e.symm)
  have n35xxxxxxxxxxxxxxxxxxxxx : ¬ th_MR G Γ80_4 H83_4 b35 := fun w => n35xxxxxxxxxxxxxxxxxxxx (th_MR_s hq oq83 w)
  have k43xxxxxxxxxxxxxxxxxxx := tm_MAo k43xxxxxxxxxxxxxxxxxx oq83 (fun e => (of_ne of_b18 of_b43 (by decide)) e.symm)
  have n43xxxxxxxxxxxxxxxxxxx : ¬ th_MR G Γ80_4 H83_4 b43 := fun w => n43xxxxxxxxxxxxxxxxxx (th_MR_s hq oq83 w)
  have kz83_4 := kq
  have hs : H83_4.size = H0.size + 27 := by omega
  refine tr_iinc (fun z84_5 => [(1, .int z84_5), (0, .ref a0)]) hx hb gX8_init_5.2.2.2.2.1 hl (k := 0) rfl pz84_4 tk_1 (by decide) (by decide) (by decide) (fun _ => rfl) (fun z84_5 ls ez84_5 hl => ?_)
  have pz84_5 : z84_5.toInt = 5 := ez84_5
  refine lv_goto (tgt := 65) hx hb gX8_init_5.2.2.2.2.2.1 (by decide) ?_
  refine lv_iload_n hx hb gX8_init_4.2.2.1 rfl (lv_at hl 0 rfl) ?_
  refine lv_bipush (v := 6) hx hb gX8_init_4.2.2.2.1 (by decide) ?_
  refine tr_icmp_ge (tgt := 90) hx hb gX8_init_4.2.2.2.2.1 (by decide) pz84_5 tk_6 (fun c => absurd c (by decide)) (fun _ => ?_)
  refine lv_aload_n hx hb gX8_init_4.2.2.2.2.2.1 rfl (lv_at hl 1 rfl) ?_
  refine tc_get hC cf_X8 ho (j := 1) (by decide) rfl kf_X8_20 gX8_init_4.2.2.2.2.2.2.1 ?_
  refine lv_iload_n hx hb gX8_init_4.2.2.2.2.2.2.2 rfl (lv_at hl 0 rfl) ?_
  refine tc_new hC cf_X10 hB.1 kw_105 kw_107 kw_4 (Nat.le_of_ble_eq_true rfl) (Nat.le_of_ble_eq_true rfl) gX8_init_5.1 (fun b76_5 H76_5 eb76 zb76 oq76 hB1 kn => ?_)
  have of_b76_5 : b76_5 = a0 + 28 := by omega
  have n760 : ¬ th_MR G Γ80_4 H83_4 b76_5 := fun w => absurd (th_MR_lt hB.2.1 w) (by omega)
  have u76 := kn.1
  have hB := th_NR_s hB hB1 u76 n760 (by omega) oq76
  have hIN := th_IN_s hIN u76 oq76
  have nb : ¬ th_MR G Γ80_4 H76_5 b76_5 := fun w => n760 (th_MR_s u76 oq76 w)
  have ho := tc_OBo ho oq76 (by omega)
  have kz83_4x := tm_MAo kz83_4 oq76 (of_ne of_b18 of_b76_5 (by decide))
  have n18xxxxxxxxxxxxxxxxxxxxxxxxxx : ¬ th_MR G Γ80_4 H76_5 b18 := fun w => n18xxxxxxxxxxxxxxxxxxxxxxxxx (th_MR_s u76 oq76 w)
  have k27xxxxxxxxxxxxxxxxxxxxxxxx := tm_MAo k27xxxxxxxxxxxxxxxxxxxxxxx oq76 (of_ne of_b27 of_b76_5 (by decide))
  have n27xxxxxxxxxxxxxxxxxxxxxxxx : ¬ th_MR G Γ80_4 H76_5 b27 := fun w => n27xxxxxxxxxxxxxxxxxxxxxxx (th_MR_s u76 oq76 w)
  have k35xxxxxxxxxxxxxxxxxxxxxx := tm_MAo k35xxxxxxxxxxxxxxxxxxxxx oq76 (of_ne of_b35 of_b76_5 (by decide))
  have n35xxxxxxxxxxxxxxxxxxxxxx : ¬ th_MR G Γ80_4 H76_5 b35 := fun w => n35xxxxxxxxxxxxxxxxxxxxx (th_MR_s u76 oq76 w)
  have k43xxxxxxxxxxxxxxxxxxxx := tm_MAo k43xxxxxxxxxxxxxxxxxxx oq76 (of_ne of_b43 of_b76_5 (by decide))
  have n43xxxxxxxxxxxxxxxxxxxx : ¬ th_MR G Γ80_4 H76_5 b43 := fun w => n43xxxxxxxxxxxxxxxxxxx (th_MR_s u76 oq76 w)
  have lbn : H0.size ≤ b76_5 := by omega
  have ltn : b76_5 < H76_5.size := by omega
  have szn : G.1.2.2 ≤ b76_5 := by have q9 := hB.1.2.2.2.2.2.1; have q8 := hB.1.2.2.2.2.2.2; omega
  have hs : H76_5.size = H0.size + 28 := by omega
  refine lv_dup hx hb gX8_init_5.2.1 rfl ?_
  refine th_call (th_runI (As := []) (rest := [.ref b76_5, .int z84_5, .ref b18]) hC mf_X10_init km_X8_44 im_X10_init rfl (c_X10_init_i l G Γ80_4 H76_5 hB.1.1 hB.2.1 b76_5 kn szn ltn nb (by omega)) rfl rfl ⟨Nat.le_of_ble_eq_true rfl, Nat.le_of_ble_eq_true rfl⟩ rfl hl.1 rfl (Nat.le_of_ble_eq_true rfl) gX8_init_5.2.2.1 ⟨Nat.le_of_ble_eq_true rfl, Nat.le_of_ble_eq_true rfl⟩) hB.1.2.1 (fun v80 H80_5 locs hp hz hS => ?_)
  obtain ⟨rfl, Γ80_5, hy, hi, hzn⟩ := hp
  have hB := th_NR_c hB hy lbn hS
  have hIN := th_IN_c hIN hy hi
  have ho := tc_OBc ho hy (by omega) (by omega)
  have n18xxxxxxxxxxxxxxxxxxxxxxxxxxx : ¬ th_MR G Γ80_5 H80_5 b18 := fun w => (hy.2.2.2.1 _ w).elim n18xxxxxxxxxxxxxxxxxxxxxxxxxx (fun w => absurd w (by have q9 := (of_lt hz1 hs of_b18 (by decide)); omega))
  have kz83_4xx := tc_MAc kz83_4x hy (of_ne of_b18 of_b76_5 (by decide))
  have n27xxxxxxxxxxxxxxxxxxxxxxxxx : ¬ th_MR G Γ80_5 H80_5 b27 := fun w => (hy.2.2.2.1 _ w).elim n27xxxxxxxxxxxxxxxxxxxxxxxx (fun w => absurd w (by have q9 := (of_lt hz1 hs of_b27 (by decide)); omega))
  have k27xxxxxxxxxxxxxxxxxxxxxxxxx := tc_MAc k27xxxxxxxxxxxxxxxxxxxxxxxx hy (of_ne of_b27 of_b76_5 (by decide))
  have n35xxxxxxxxxxxxxxxxxxxxxxx : ¬ th_MR G Γ80_5 H80_5 b35 := fun w => (hy.2.2.2.1 _ w).elim n35xxxxxxxxxxxxxxxxxxxxxx (fun w => absurd w (by have q9 := (of_lt hz1 hs of_b35 (by decide)); omega))
  have k35xxxxxxxxxxxxxxxxxxxxxxx := tc_MAc k35xxxxxxxxxxxxxxxxxxxxxx hy (of_ne of_b35 of_b76_5 (by decide))
  have n43xxxxxxxxxxxxxxxxxxxxx : ¬ th_MR G Γ80_5 H80_5 b43 := fun w => (hy.2.2.2.1 _ w).elim n43xxxxxxxxxxxxxxxxxxxx (fun w => absurd w (by have q9 := (of_lt hz1 hs of_b43 (by decide)); omega))
  have k43xxxxxxxxxxxxxxxxxxxxx := tc_MAc k43xxxxxxxxxxxxxxxxxxxx hy (of_ne of_b43 of_b76_5 (by decide))
  have hr_b5xxxxxx := (hy.1.2.2 b5 (of_lt hz1 hs of_b5 (by decide)) (of_ne of_b5 of_b76_5 (by decide))).1.trans hr_b5xxxxx
  have hr_b76xxxxx := (hy.1.2.2 b76 (of_lt hz1 hs of_b76 (by decide)) (of_ne of_b76 of_b76_5 (by decide))).1.trans hr_b76xxxx
  have hr_b76_1xxxx := (hy.1.2.2 b76_1 (of_lt hz1 hs of_b76_1 (by decide)) (of_ne of_b76_1 of_b76_5 (by decide))).1.trans hr_b76_1xxx
  have hr_b76_2xxx := (hy.1.2.2 b76_2 (of_lt hz1 hs of_b76_2 (by decide)) (of_ne of_b76_2 of_b76_5 (by decide))).1.trans hr_b76_2xx
  have hr_b76_3xx := (hy.1.2.2 b76_3 (of_lt hz1 hs of_b76_3 (by decide)) (of_ne of_b76_3 of_b76_5 (by decide))).1.trans hr_b76_3x
  have hr_b76_4x := (hy.1.2.2 b76_4 (of_lt hz1 hs of_b76_4 (by decide)) (of_ne of_b76_4 of_b76_5 (by decide))).1.trans hr_b76_4
  have hr_b76_5 := hy.2.2.1
  have hs : H80_5.size = H0.size + 30 := by omega
  have hN := th_new_c hN hy
  refine W.eq (g2 := F0 m 83 ls [.ref b76_5, .int z84_5, .ref b18]) rfl ?_
  refine tc_aast (x := 5) hC hB.1 kz83_4xx lb18 rfl hr_b76_5 ro_39 rfl pz84_5 (by decide) (by decide) gX8_init_5.2.2.2.1 (fun H83_5 locs hB1 kq z83 oq83 => ?_)
  have hq := kz83_4xx.2.1
  have hB := th_NR_s hB hB1 hq n18xxxxxxxxxxxxxxxxxxxxxxxxxxx (by omega) oq83
  have hIN := th_IN_s hIN hq oq83
  have n18xxxxxxxxxxxxxxxxxxxxxxxxxxxx : ¬ th_MR G Γ80_5 H83_5 b18 := fun w => n18xxxxxxxxxxxxxxxxxxxxxxxxxxx (th_MR_s hq oq83 w)
  have ho := tc_OBo ho oq83 (by have q9 := lb18; omega)
  have k27xxxxxxxxxxxxxxxxxxxxxxxxxx := tm_MAo k27xxxxxxxxxxxxxxxxxxxxxxxxx oq83 (fun e => (of_ne of_b18 of_b27 (by decide)) e.symm)
  have n27xxxxxxxxxxxxxxxxxxxxxxxxxx : ¬ th_MR G Γ80_5 H83_5 b27 := fun w => n27xxxxxxxxxxxxxxxxxxxxxxxxx (th_MR_s hq oq83 w)
  have k35xxxxxxxxxxxxxxxxxxxxxxxx := tm_MAo k35xxxxxxxxxxxxxxxxxxxxxxx oq83 (fun e => (of_ne of_b18 of_b35 (by decide)) e.symm)
  have n35xxxxxxxxxxxxxxxxxxxxxxxx : ¬ th_MR G Γ80_5 H83_5 b35 := fun w => n35xxxxxxxxxxxxxxxxxxxxxxx (th_MR_s hq oq83 w)
  have k43xxxxxxxxxxxxxxxxxxxxxx := tm_MAo k43xxxxxxxxxxxxxxxxxxxxx oq83 (fun e => (of_ne of_b18 of_b43 (by decide)) e.symm)
  have n43xxxxxxxxxxxxxxxxxxxxxx : ¬ th_MR G Γ80_5 H83_5 b43 := fun w => n43xxxxxxxxxxxxxxxxxxxxx (th_MR_s hq oq83 w)
  have kz83_5 := kq
  have hs : H83_5.size = H0.size + 30 := by omega
  refine tr_iinc (fun z84_6 => [(1, .int z84_6), (0, .ref a0)]) hx hb gX8_init_5.2.2.2.2.1 hl (k := 0) rfl pz84_5 tk_1 (by decide) (by decide) (by decide) (fun _ => rfl) (fun z84_6 ls ez84_6 hl => ?_)
  have pz84_6 : z84_6.toInt = 6 := ez84_6
  refine lv_goto (tgt := 65) hx hb gX8_init_5.2.2.2.2.2.1 (by decide) ?_
  refine lv_iload_n hx hb gX8_init_4.2.2.1 rfl (lv_at hl 0 rfl) ?_
  refine lv_bipush (v := 6) hx hb gX8_init_4.2.2.2.1 (by decide) ?_
  refine tr_icmp_ge (tgt := 90) hx hb gX8_init_4.2.2.2.2.1 (by decide) pz84_6 tk_6 (fun _ => ?_) (fun c => absurd c (by decide))
  have hI1 := hB.1.1
  have hR1 := hB.2.1
  have hI2 := th_nmA (r := 33) (o := a0) hI1 kz83_5 ro_33 (Nat.le_refl _) (Nat.le_refl _) (fun i hi => by
    match i, hi with
    | 0, _ => exact th_sR hr_b76xxxxx
    | 1, _ => exact th_sR hr_b76_1xxxx
    | 2, _ => exact th_sR hr_b76_2xxx
    | 3, _ => exact th_sR hr_b76_3xx
    | 4, _ => exact th_sR hr_b76_4x
    | 5, _ => exact th_sR hr_b76_5
    | n + 6, h => exact absurd h (by omega))
  have hR1 := th_RC_up hI1 hR1 (x := (33, a0)) kz83_5.2.1 n18xxxxxxxxxxxxxxxxxxxxxxxxxxxx hI2 (fun e => absurd (show (33 : Nat) = 3 from e) (by decide)) (fun e => absurd (show (33 : Nat) = 18 ∨ (33 : Nat) = 19 from e) (by decide)) (show (33 : Nat) ≠ 12 by decide)
  have hI1 := hI2
  have hIN := th_IN_up (b := b18) (x := (33, a0)) hIN (ini_q rfl rfl rfl (fun i d hm => by
    rcases List.mem_cons.mp hm with e | hm
    · cases e; exact (th_sl_at kz83_5.2.2 (arrV_read _ _ (by decide))).trans (congrArg Value.ref (show b76 = b18 + 4 by omega))
    rcases List.mem_cons.mp hm with e | hm
    · cases e; exact (th_sl_at kz83_5.2.2 (arrV_read _ _ (by decide))).trans (congrArg Value.ref (show b76_1 = b18 + 7 by omega))
    rcases List.mem_cons.mp hm with e | hm
    · cases e; exact (th_sl_at kz83_5.2.2 (arrV_read _ _ (by decide))).trans (congrArg Value.ref (show b76_2 = b18 + 10 by omega))
    rcases List.mem_cons.mp hm with e | hm
    · cases e; exact (th_sl_at kz83_5.2.2 (arrV_read _ _ (by decide))).trans (congrArg Value.ref (show b76_3 = b18 + 13 by omega))
    rcases List.mem_cons.mp hm with e | hm
    · cases e; exact (th_sl_at kz83_5.2.2 (arrV_read _ _ (by decide))).trans (congrArg Value.ref (show b76_4 = b18 + 16 by omega))
    rcases List.mem_cons.mp hm with e | hm
    · cases e; exact (th_sl_at kz83_5.2.2 (arrV_read _ _ (by decide))).trans (congrArg Value.ref (show b76_5 = b18 + 19 by omega))
    cases hm))
  have ho := th_OB_up (b := b18) (x := (33, a0)) ho (by have q9 := lb18; omega)
  have k27xxxxxxxxxxxxxxxxxxxxxxxxxxu := th_MA_up (b := b18) (x := (33, a0)) k27xxxxxxxxxxxxxxxxxxxxxxxxxx (fun e => (of_ne of_b18 of_b27 (by decide)) e.symm)
  have n27xxxxxxxxxxxxxxxxxxxxxxxxxxu : ¬ th_MR G (th_up Γ80_5 b18 (33, a0)) H83_5 b27 := fun w => n27xxxxxxxxxxxxxxxxxxxxxxxxxx (th_MR_up (show (33 : Nat) ≠ 12 by decide) w)
  have k35xxxxxxxxxxxxxxxxxxxxxxxxu := th_MA_up (b := b18) (x := (33, a0)) k35xxxxxxxxxxxxxxxxxxxxxxxx (fun e => (of_ne of_b18 of_b35 (by decide)) e.symm)
  have n35xxxxxxxxxxxxxxxxxxxxxxxxu : ¬ th_MR G (th_up Γ80_5 b18 (33, a0)) H83_5 b35 := fun w => n35xxxxxxxxxxxxxxxxxxxxxxxx (th_MR_up (show (33 : Nat) ≠ 12 by decide) w)
  have k43xxxxxxxxxxxxxxxxxxxxxxu := th_MA_up (b := b18) (x := (33, a0)) k43xxxxxxxxxxxxxxxxxxxxxx (fun e => (of_ne of_b18 of_b43 (by decide)) e.symm)
  have n43xxxxxxxxxxxxxxxxxxxxxxu : ¬ th_MR G (th_up Γ80_5 b18 (33, a0)) H83_5 b43 := fun w => n43xxxxxxxxxxxxxxxxxxxxxx (th_MR_up (show (33 : Nat) ≠ 12 by decide) w)
  have hI2 := th_nmA (r := 34) (o := a0) hI1 k27xxxxxxxxxxxxxxxxxxxxxxxxxxu ro_34 (Nat.le_refl _) (Nat.le_refl _) (fun i _ => th_sI (x := 0) (by decide) (by decide))
  have hR1 := th_RC_up hI1 hR1 (x := (34, a0)) k27xxxxxxxxxxxxxxxxxxxxxxxxxxu.2.1 n27xxxxxxxxxxxxxxxxxxxxxxxxxxu hI2 (fun e => absurd (show (34 : Nat) = 3 from e) (by decide)) (fun e => absurd (show (34 : Nat) = 18 ∨ (34 : Nat) = 19 from e) (by decide)) (show (34 : Nat) ≠ 12 by decide)
  have hI1 := hI2
  have hIN := th_IN_up (b := b27) (x := (34, a0)) hIN (ini_r rfl rfl rfl rfl (fun i hi => th_sl_at k27xxxxxxxxxxxxxxxxxxxxxxxxxx.2.2 (arrV_read _ _ hi)))
  have ho := th_OB_up (b := b27) (x := (34, a0)) ho (by have q9 := lb27; omega)
  have k35xxxxxxxxxxxxxxxxxxxxxxxxuu := th_MA_up (b := b27) (x := (34, a0)) k35xxxxxxxxxxxxxxxxxxxxxxxxu (fun e => (of_ne of_b27 of_b35 (by decide)) e.symm)
  have n35xxxxxxxxxxxxxxxxxxxxxxxxuu : ¬ th_MR G (th_up (th_up Γ80_5 b18 (33, a0)) b27 (34, a0)) H83_5 b35 := fun w => n35xxxxxxxxxxxxxxxxxxxxxxxxu (th_MR_up (show (34 : Nat) ≠ 12 by decide) w)
  have k43xxxxxxxxxxxxxxxxxxxxxxuu := th_MA_up (b := b27) (x := (34, a0)) k43xxxxxxxxxxxxxxxxxxxxxxu (fun e => (of_ne of_b27 of_b43 (by decide)) e.symm)
  have n43xxxxxxxxxxxxxxxxxxxxxxuu : ¬ th_MR G (th_up (th_up Γ80_5 b18 (33, a0)) b27 (34, a0)) H83_5 b43 := fun w => n43xxxxxxxxxxxxxxxxxxxxxxu (th_MR_up (show (34 : Nat) ≠ 12 by decide) w)
  have hI2 := th_nmA (r := 35) (o := a0) hI1 k35xxxxxxxxxxxxxxxxxxxxxxxxuu ro_35 (Nat.le_refl _) (Nat.le_refl _) (fun i _ => th_sI (x := 0) (by decide) (by decide))
  have hR1 := th_RC_up hI1 hR1 (x := (35, a0)) k35xxxxxxxxxxxxxxxxxxxxxxxxuu.2.1 n35xxxxxxxxxxxxxxxxxxxxxxxxuu hI2 (fun e => absurd (show (35 : Nat) = 3 from e) (by decide)) (fun e => absurd (show (35 : Nat) = 18 ∨ (35 : Nat) = 19 from e) (by decide)) (show (35 : Nat) ≠ 12 by decide)
  have hI1 := hI2
  have hIN := th_IN_up (b := b35) (x := (35, a0)) hIN (ini_r rfl rfl rfl rfl (fun i hi => th_sl_at k35xxxxxxxxxxxxxxxxxxxxxxxx.2.2 (arrV_read _ _ hi)))
  have ho := th_OB_up (b := b35) (x := (35, a0)) ho (by have q9 := lb35; omega)
  have k43xxxxxxxxxxxxxxxxxxxxxxuuu := th_MA_up (b := b35) (x := (35, a0)) k43xxxxxxxxxxxxxxxxxxxxxxuu (fun e => (of_ne of_b35 of_b43 (by decide)) e.symm)
  have n43xxxxxxxxxxxxxxxxxxxxxxuuu : ¬ th_MR G (th_up (th_up (th_up Γ80_5 b18 (33, a0)) b27 (34, a0)) b35 (35, a0)) H83_5 b43 := fun w => n43xxxxxxxxxxxxxxxxxxxxxxuu (th_MR_up (show (35 : Nat) ≠ 12 by decide) w)
  have hI2 := th_nmA (r := 36) (o := a0) hI1 k43xxxxxxxxxxxxxxxxxxxxxxuuu ro_36 (Nat.le_refl _) (Nat.le_refl _) (fun i _ => th_sI (x := 0) (by decide) (by decide))
  have hR1 := th_RC_up hI1 hR1 (x := (36, a0)) k43xxxxxxxxxxxxxxxxxxxxxxuuu.2.1 n43xxxxxxxxxxxxxxxxxxxxxxuuu hI2 (fun e => absurd (show (36 : Nat) = 3 from e) (by decide)) (fun e => absurd (show (36 : Nat) = 18 ∨ (36 : Nat) = 19 from e) (by decide)) (show (36 : Nat) ≠ 12 by decide)
  have hI1 := hI2
  have hIN := th_IN_up (b := b43) (x := (36, a0)) hIN (ini_r rfl rfl rfl rfl (fun i hi => th_sl_at k43xxxxxxxxxxxxxxxxxxxxxx.2.2 (arrV_read _ _ hi)))
  have ho := th_OB_up (b := b43) (x := (36, a0)) ho (by have q9 := lb43; omega)
  have g_b18 : (th_up (th_up (th_up (th_up Γ80_5 b18 (33, a0)) b27 (34, a0)) b35 (35, a0)) b43 (36, a0)) b18 = (33, a0) := (th_up_n ((of_ne of_b18 of_b43 (by decide)))).trans ((th_up_n ((of_ne of_b18 of_b35 (by decide)))).trans ((th_up_n ((of_ne of_b18 of_b27 (by decide)))).trans (th_up_s)))
  have g_b27 : (th_up (th_up (th_up (th_up Γ80_5 b18 (33, a0)) b27 (34, a0)) b35 (35, a0)) b43 (36, a0)) b27 = (34, a0) := (th_up_n ((of_ne of_b27 of_b43 (by decide)))).trans ((th_up_n ((of_ne of_b27 of_b35 (by decide)))).trans (th_up_s))
  have g_b35 : (th_up (th_up (th_up (th_up Γ80_5 b18 (33, a0)) b27 (34, a0)) b35 (35, a0)) b43 (36, a0)) b35 = (35, a0) := (th_up_n ((of_ne of_b35 of_b43 (by decide)))).trans (th_up_s)
  have g_b43 : (th_up (th_up (th_up (th_up Γ80_5 b18 (33, a0)) b27 (34, a0)) b35 (35, a0)) b43 (36, a0)) b43 = (36, a0) := th_up_s
  have nm0 : ¬ th_MR G (th_up (th_up (th_up (th_up Γ80_5 b18 (33, a0)) b27 (34, a0)) b35 (35, a0)) b43 (36, a0)) H83_5 a0 := fun w => hB.2.2.1 (th_MR_up (show (33 : Nat) ≠ 12 by decide) (th_MR_up (show (34 : Nat) ≠ 12 by decide) (th_MR_up (show (35 : Nat) ≠ 12 by decide) (th_MR_up (show (36 : Nat) ≠ 12 by decide) w))))
  have hI2 := th_nmO (r := 32) hI1 ho hsz ro_32 rfl (fun j q hq => by
    match j, hq with
    | 0, hq => have e9 := Option.some.inj hq; subst e9; exact th_sR ((th_up_n (of_ne of_b5 of_b43 (by decide))).trans ((th_up_n (of_ne of_b5 of_b35 (by decide))).trans ((th_up_n (of_ne of_b5 of_b27 (by decide))).trans ((th_up_n (of_ne of_b5 of_b18 (by decide))).trans hr_b5xxxxxx))))
    | 1, hq => have e9 := Option.some.inj hq; subst e9; exact th_sO g_b18
    | 2, hq => have e9 := Option.some.inj hq; subst e9; exact th_sO g_b27
    | 3, hq => have e9 := Option.some.inj hq; subst e9; exact th_sO g_b35
    | 4, hq => have e9 := Option.some.inj hq; subst e9; exact th_sO g_b43
    | 5, hq => have e9 := Option.some.inj hq; subst e9; exact th_sI (x := 0) (by decide) (by decide)
    | 6, hq => have e9 := Option.some.inj hq; subst e9; exact th_sI (x := (-1)) (by decide) (by decide)
    | 7, hq => have e9 := Option.some.inj hq; subst e9; exact th_sI (x := 0) (by decide) (by decide)
    | n + 8, hq => exact absurd (List.getElem?_eq_some_iff.mp hq).1 (by simp))
  have hR2 := th_RC_up hI1 hR1 (x := (32, 0)) ho.1 nm0 hI2 (fun e => absurd e (by decide)) (fun e => absurd e (by decide)) (by decide)
  have hIN2 := th_IN_up (b := a0) (x := (32, 0)) hIN (ini_f (r := 32) ho rfl rfl rfl (fun j x hm => by
    rcases List.mem_cons.mp hm with e | hm
    · cases e; exact ⟨by decide, rfl⟩
    rcases List.mem_cons.mp hm with e | hm
    · cases e; exact ⟨by decide, rfl⟩
    rcases List.mem_cons.mp hm with e | hm
    · cases e; exact ⟨by decide, rfl⟩
    cases hm) (fun j d hm => by
    rcases List.mem_cons.mp hm with e | hm
    · cases e; exact ⟨by decide, by rw [← of_b5]; rfl⟩
    rcases List.mem_cons.mp hm with e | hm
    · cases e; exact ⟨by decide, by rw [← of_b18]; rfl⟩
    rcases List.mem_cons.mp hm with e | hm
    · cases e; exact ⟨by decide, by rw [← of_b27]; rfl⟩
    rcases List.mem_cons.mp hm with e | hm
    · cases e; exact ⟨by decide, by rw [← of_b35]; rfl⟩
    rcases List.mem_cons.mp hm with e | hm
    · cases e; exact ⟨by decide, by rw [← of_b43]; rfl⟩
    cases hm))
  have gq : ∀ q, q < H0.size → q ≠ a0 → (th_up (th_up (th_up (th_up (th_up Γ80_5 b18 (33, a0)) b27 (34, a0)) b35 (35, a0)) b43 (36, a0)) a0 (32, 0)) q = Γ80_5 q := fun q h1 h2 => (((((th_up_n h2).trans (th_up_n (by have q9 := lb43; omega))).trans (th_up_n (by have q9 := lb35; omega))).trans (th_up_n (by have q9 := lb27; omega))).trans (th_up_n (by have q9 := lb18; omega)))
  refine th_vret hC hH hr hlocks hB.1.2.1 ⟨rfl, (th_up (th_up (th_up (th_up (th_up Γ80_5 b18 (33, a0)) b27 (34, a0)) b35 (35, a0)) b43 (36, a0)) a0 (32, 0)), ⟨⟨hI2, (by omega), fun q h1 h2 => ⟨(gq q h1 h2).trans (hB.1.2.2.2.1 q h1 h2), hB.1.2.2.1 q h1 h2⟩⟩, hR2, th_up_s, fun q w => hB.2.2.2 q (th_MR_up (show (33 : Nat) ≠ 12 by decide) (th_MR_up (show (34 : Nat) ≠ 12 by decide) (th_MR_up (show (35 : Nat) ≠ 12 by decide) (th_MR_up (show (36 : Nat) ≠ 12 by decide) (th_MR_up (show (32 : Nat) ≠ 12 by decide) w))))), fun q x o hg hq hs => ?_⟩, hIN2, hs⟩ gX8_init_5.2.2.2.2.2.2
  by_cases e_a0 : q = a0
  · rw [e_a0, th_up_s] at hg; cases hg; decide
  rw [th_up_n e_a0] at hg
  by_cases e_b43 : q = b43
  · rw [e_b43, th_up_s] at hg; cases hg; decide
  rw [th_up_n e_b43] at hg
  by_cases e_b35 : q = b35
  · rw [e_b35, th_up_s] at hg; cases hg; decide
  rw [th_up_n e_b35] at hg
  by_cases e_b27 : q = b27
  · rw [e_b27, th_up_s] at hg; cases hg; decide
  rw [th_up_n e_b27] at hg
  by_cases e_b18 : q = b18
  · rw [e_b18, th_up_s] at hg; cases hg; decide
  rw [th_up_n e_b18] at hg
  exact (show ∀ x ∈ (((((((([] ++ [3, 4, 5, 6, 7, 8, 9, 10]) ++ [39, 40, 41]) ++ [39, 40, 41]) ++ [39, 40, 41]) ++ [39, 40, 41]) ++ [39, 40, 41]) ++ [39, 40, 41]) : List Nat), x ∈ [3, 4, 5, 6, 7, 8, 9, 10, 32, 33, 34, 35, 36, 39, 40, 41] by decide) x (hN q x o hg hq hs)
end
section
set_option maxHeartbeats 4000000 in
set_option maxRecDepth 100000 in
theorem c_X3_init_i (l : Launch) (G : th_G) (Γ : th_Ga) (H0 : Heap) (hI : th_I G Γ H0) (hR : th_RC G Γ H0) (a0 : Nat) (ho : th_OB G Γ H0 a0 3 7 (fun j => defaultValue (tyX3 j))) (hsz : G.1.2.2 ≤ a0) (hlt : a0 < H0.size) (hm : ¬ th_MR G Γ H0 a0) (hz1 : H0.size = a0 + 1) (hno : ∀ a o : Nat, Γ a ≠ (12, o)) : Met l yX3_init (.code yX3_init cX3_init 1 (none) :: th_tb) ({ frames := 1, cells := 4, slots := 3584, locals := 24 } : Room) (th_P [.ref a0] G H0) (th_Q (fun (v : Option Value) (H1 : Heap) => v = none ∧ ∃ Γ1 : th_Ga, th_NY G Γ Γ1 a0 12 [12] H0 H1 ∧ th_IN G Γ1 a0 H0 H1 ∧ H1.size = H0.size + 4) G) 4 3584 (fun q => G.1.2.2 ≤ q) := by
  refine th_met RX3 (by decide) rfl (Nat.le_of_ble_eq_true rfl) ?_
  intro p e s m below meth c hC hH hr hlocks hnm ls hl
  have hx := hC.1
  have hb := hC.2.1
  have hB : th_NR G Γ Γ a0 H0 H0 [] := ⟨⟨hI, va_S.rf, fun _ _ _ => rfl, fun _ _ _ => rfl, ho.1, hsz, hlt⟩, hR, hm, fun q w => Or.inl w⟩
  have hl : lv_has ls 1 [(0, .ref a0)] := hl
  have hs : H0.size ≤ H0.size := Nat.le_refl _
  have hN := th_new_0 (a0 := a0) hI ho.1
  have hIN := th_IN_0 (a0 := a0) hI ho.1
  refine lv_aload_n hx hb gX3_init_0.1 rfl (lv_at hl 0 rfl) ?_
  refine W.objInit hx hb hC.2.2.2.1 (hC.2.2.2.2.1 _ kw_295) (hC.2.2.2.2.1 _ kw_28) (hC.2.2.2.2.1 _ kw_29) rfl (hl.1.trans hC.2.2.1.symm) rfl gX3_init_0.2.1 (Nat.le_of_ble_eq_true rfl) (Nat.le_of_ble_eq_true rfl) ?_
  refine W.eq (g2 := F0 m 4 ls []) rfl ?_
  refine lv_aload_n hx hb gX3_init_0.2.2.1 rfl (lv_at hl 0 rfl) ?_
  refine lv_bipush (v := 10) hx hb gX3_init_0.2.2.2.1 (by decide) ?_
  refine tc_put hC cf_X3 hB.1 ho (j := 0) (by decide) rfl rfl rfl kf_X3_11 gX3_init_0.2.2.2.2.1 (fun H7 locs hB1 ho z7 oq7 => ?_)
  have hu := hB.1.2.2.2.2.1
  have hB := th_NR_s hB hB1 hu hB.2.2.1 (by omega) oq7
  have hIN := th_IN_s hIN hu oq7
  have hs : H7.size = H0.size + 0 := by omega
  refine lv_aload_n hx hb gX3_init_0.2.2.2.2.2.1 rfl (lv_at hl 0 rfl) ?_
  refine lv_sipush (v := 1024) hx hb gX3_init_0.2.2.2.2.2.2.1 (by decide) ?_
  refine tc_newa (ty := .long) (t := 1) hC hB.1 rfl rfl rfl kw_246 (N := 1024) tk_1024 (by decide) (Nat.le_of_ble_eq_true rfl) (Nat.le_of_ble_eq_true rfl) gX3_init_0.2.2.2.2.2.2.2 (fun b14 H14 eb14 zb14 oq14 hB1 k14 => ?_)
  have u14 := k14.2.1
  have of_b14 : b14 = a0 + 1 := by omega
  have n140 : ¬ th_MR G Γ H7 b14 := fun w => absurd (th_MR_lt hB.2.1 w) (by omega)
  have hB := th_NR_s hB hB1 u14 n140 (by omega) oq14
  have hIN := th_IN_s hIN u14 oq14
  have n14 : ¬ th_MR G Γ H14 b14 := fun w => n140 (th_MR_s u14 oq14 w)
  have lb14 : H0.size ≤ b14 := by omega
  have ho := tc_OBo ho oq14 (by omega)
  have hs : H14.size = H0.size + 1 := by omega
  refine tc_put hC cf_X3 hB.1 ho (j := 1) (by decide) rfl rfl rfl kf_X3_15 gX3_init_1.1 (fun H16 locs hB1 ho z16 oq16 => ?_)
  have hu := hB.1.2.2.2.2.1
  have hB := th_NR_s hB hB1 hu hB.2.2.1 (by omega) oq16
  have hIN := th_IN_s hIN hu oq16
  have k14x := tm_MAo k14 oq16 (of_n0 of_b14 (by decide))
  have n14x : ¬ th_MR G Γ H16 b14 := fun w => n14 (th_MR_s hu oq16 w)
  have hs : H16.size = H0.size + 1 := by omega
  refine lv_aload_n hx hb gX3_init_1.2.1 rfl (lv_at hl 0 rfl) ?_
  refine lv_sipush (v := 1024) hx hb gX3_init_1.2.2.1 (by decide) ?_
  refine tc_newa (ty := .int) (t := 0) hC hB.1 rfl rfl rfl kw_104 (N := 1024) tk_1024 (by decide) (Nat.le_of_ble_eq_true rfl) (Nat.le_of_ble_eq_true rfl) gX3_init_1.2.2.2.1 (fun b23 H23 eb23 zb23 oq23 hB1 k23 => ?_)
  have u23 := k23.2.1
  have of_b23 : b23 = a0 + 2 := by omega
  have n230 : ¬ th_MR G Γ H16 b23 := fun w => absurd (th_MR_lt hB.2.1 w) (by omega)
  have hB := th_NR_s hB hB1 u23 n230 (by omega) oq23
  have hIN := th_IN_s hIN u23 oq23
  have n23 : ¬ th_MR G Γ H23 b23 := fun w => n230 (th_MR_s u23 oq23 w)
  have lb23 : H0.size ≤ b23 := by omega
  have ho := tc_OBo ho oq23 (by omega)
  have k14xx := tm_MAo k14x oq23 (of_ne of_b14 of_b23 (by decide))
  have n14xx : ¬ th_MR G Γ H23 b14 := fun w => n14x (th_MR_s u23 oq23 w)
  have hs : H23.size = H0.size + 2 := by omega
  refine tc_put hC cf_X3 hB.1 ho (j := 2) (by decide) rfl rfl rfl kf_X3_19 gX3_init_1.2.2.2.2.1 (fun H25 locs hB1 ho z25 oq25 => ?_)
  have hu := hB.1.2.2.2.2.1
  have hB := th_NR_s hB hB1 hu hB.2.2.1 (by omega) oq25
  have hIN := th_IN_s hIN hu oq25
  have k14xxx := tm_MAo k14xx oq25 (of_n0 of_b14 (by decide))
  have n14xxx : ¬ th_MR G Γ H25 b14 := fun w => n14xx (th_MR_s hu oq25 w)
  have k23x := tm_MAo k23 oq25 (of_n0 of_b23 (by decide))
  have n23x : ¬ th_MR G Γ H25 b23 := fun w => n23 (th_MR_s hu oq25 w)
  have hs : H25.size = H0.size + 2 := by omega
  refine lv_aload_n hx hb gX3_init_1.2.2.2.2.2.1 rfl (lv_at hl 0 rfl) ?_
  refine lv_sipush (v := 1024) hx hb gX3_init_1.2.2.2.2.2.2.1 (by decide) ?_
  refine tc_newa (ty := .int) (t := 0) hC hB.1 rfl rfl rfl kw_104 (N := 1024) tk_1024 (by decide) (Nat.le_of_ble_eq_true rfl) (Nat.le_of_ble_eq_true rfl) gX3_init_1.2.2.2.2.2.2.2 (fun b32 H32 eb32 zb32 oq32 hB1 k32 => ?_)
  have u32 := k32.2.1
  have of_b32 : b32 = a0 + 3 := by omega
  have n320 : ¬ th_MR G Γ H25 b32 := fun w => absurd (th_MR_lt hB.2.1 w) (by omega)
  have hB := th_NR_s hB hB1 u32 n320 (by omega) oq32
  have hIN := th_IN_s hIN u32 oq32
  have n32 : ¬ th_MR G Γ H32 b32 := fun w => n320 (th_MR_s u32 oq32 w)
  have lb32 : H0.size ≤ b32 := by omega
  have ho := tc_OBo ho oq32 (by omega)
  have k14xxxx := tm_MAo k14xxx oq32 (of_ne of_b14 of_b32 (by decide))
  have n14xxxx : ¬ th_MR G Γ H32 b14 := fun w => n14xxx (th_MR_s u32 oq32 w)
  have k23xx := tm_MAo k23x oq32 (of_ne of_b23 of_b32 (by decide))
  have n23xx : ¬ th_MR G Γ H32 b23 := fun w => n23x (th_MR_s u32 oq32 w)
  have hs : H32.size = H0.size + 3 := by omega
  refine tc_put hC cf_X3 hB.1 ho (j := 3) (by decide) rfl rfl rfl kf_X3_23 gX3_init_2.1 (fun H34 locs hB1 ho z34 oq34 => ?_)
  have hu := hB.1.2.2.2.2.1
  have hB := th_NR_s hB hB1 hu hB.2.2.1 (by omega) oq34
  have hIN := th_IN_s hIN hu oq34
  have k14xxxxx := tm_MAo k14xxxx oq34 (of_n0 of_b14 (by decide))
  have n14xxxxx : ¬ th_MR G Γ H34 b14 := fun w => n14xxxx (th_MR_s hu oq34 w)
  have k23xxx := tm_MAo k23xx oq34 (of_n0 of_b23 (by decide))
  have n23xxx : ¬ th_MR G Γ H34 b23 := fun w => n23xx (th_MR_s hu oq34 w)
  have k32x := tm_MAo k32 oq34 (of_n0 of_b32 (by decide))
  have n32x : ¬ th_MR G Γ H34 b32 := fun w => n32 (th_MR_s hu oq34 w)
  have hs : H34.size = H0.size + 3 := by omega
  refine lv_aload_n hx hb gX3_init_2.2.1 rfl (lv_at hl 0 rfl) ?_
  refine lv_sipush (v := 512) hx hb gX3_init_2.2.2.1 (by decide) ?_
  refine tc_newa (ty := .int) (t := 0) hC hB.1 rfl rfl rfl kw_104 (N := 512) tk_512 (by decide) (Nat.le_of_ble_eq_true rfl) (Nat.le_of_ble_eq_true rfl) gX3_init_2.2.2.2.1 (fun b41 H41 eb41 zb41 oq41 hB1 k41 => ?_)
  have u41 := k41.2.1
  have of_b41 : b41 = a0 + 4 := by omega
  have n410 : ¬ th_MR G Γ H34 b41 := fun w => absurd (th_MR_lt hB.2.1 w) (by omega)
  have hB := th_NR_s hB hB1 u41 n410 (by omega) oq41
  have hIN := th_IN_s hIN u41 oq41
  have n41 : ¬ th_MR G Γ H41 b41 := fun w => n410 (th_MR_s u41 oq41 w)
  have lb41 : H0.size ≤ b41 := by omega
  have ho := tc_OBo ho oq41 (by omega)
  have k14xxxxxx := tm_MAo k14xxxxx oq41 (of_ne of_b14 of_b41 (by decide))
  have n14xxxxxx : ¬ th_MR G Γ H41 b14 := fun w => n14xxxxx (th_MR_s u41 oq41 w)
  have k23xxxx := tm_MAo k23xxx oq41 (of_ne of_b23 of_b41 (by decide))
  have n23xxxx : ¬ th_MR G Γ H41 b23 := fun w => n23xxx (th_MR_s u41 oq41 w)
  have k32xx := tm_MAo k32x oq41 (of_ne of_b32 of_b41 (by decide))
  have n32xx : ¬ th_MR G Γ H41 b32 := fun w => n32x (th_MR_s u41 oq41 w)
  have hs : H41.size = H0.size + 4 := by omega
  refine tc_put hC cf_X3 hB.1 ho (j := 4) (by decide) rfl rfl rfl kf_X3_26 gX3_init_2.2.2.2.2.1 (fun H43 locs hB1 ho z43 oq43 => ?_)
  have hu := hB.1.2.2.2.2.1
  have hB := th_NR_s hB hB1 hu hB.2.2.1 (by omega) oq43
  have hIN := th_IN_s hIN hu oq43
  have k14xxxxxxx := tm_MAo k14xxxxxx oq43 (of_n0 of_b14 (by decide))
  have n14xxxxxxx : ¬ th_MR G Γ H43 b14 := fun w => n14xxxxxx (th_MR_s hu oq43 w)
  have k23xxxxx := tm_MAo k23xxxx oq43 (of_n0 of_b23 (by decide))
  have n23xxxxx : ¬ th_MR G Γ H43 b23 := fun w => n23xxxx (th_MR_s hu oq43 w)
  have k32xxx := tm_MAo k32xx oq43 (of_n0 of_b32 (by decide))
  have n32xxx : ¬ th_MR G Γ H43 b32 := fun w => n32xx (th_MR_s hu oq43 w)
  have k41x := tm_MAo k41 oq43 (of_n0 of_b41 (by decide))
  have n41x : ¬ th_MR G Γ H43 b41 := fun w => n41 (th_MR_s hu oq43 w)
  have hs : H43.size = H0.size + 4 := by omega
  refine lv_aload_n hx hb gX3_init_2.2.2.2.2.2.1 rfl (lv_at hl 0 rfl) ?_
  refine lv_iconst (v := 0) hx hb gX3_init_2.2.2.2.2.2.2.1 (by decide) ?_
  refine tc_put hC cf_X3 hB.1 ho (j := 5) (by decide) rfl rfl rfl kf_X3_29 gX3_init_2.2.2.2.2.2.2.2 (fun H48 locs hB1 ho z48 oq48 => ?_)
  have hu := hB.1.2.2.2.2.1
  have hB := th_NR_s hB hB1 hu hB.2.2.1 (by omega) oq48
  have hIN := th_IN_s hIN hu oq48
  have k14xxxxxxxx := tm_MAo k14xxxxxxx oq48 (of_n0 of_b14 (by decide))
  have n14xxxxxxxx : ¬ th_MR G Γ H48 b14 := fun w => n14xxxxxxx (th_MR_s hu oq48 w)
  have k23xxxxxx := tm_MAo k23xxxxx oq48 (of_n0 of_b23 (by decide))
  have n23xxxxxx : ¬ th_MR G Γ H48 b23 := fun w => n23xxxxx (th_MR_s hu oq48 w)
  have k32xxxx := tm_MAo k32xxx oq48 (of_n0 of_b32 (by decide))
  have n32xxxx : ¬ th_MR G Γ H48 b32 := fun w => n32xxx (th_MR_s hu oq48 w)
  have k41xx := tm_MAo k41x oq48 (of_n0 of_b41 (by decide))
  have n41xx : ¬ th_MR G Γ H48 b41 := fun w => n41x (th_MR_s hu oq48 w)
  have hs : H48.size = H0.size + 4 := by omega
  refine lv_aload_n hx hb gX3_init_3.1 rfl (lv_at hl 0 rfl) ?_
  refine lv_iconst (v := 0) hx hb gX3_init_3.2.1 (by decide) ?_
  refine tc_put hC cf_X3 hB.1 ho (j := 6) (by decide) rfl narrow_b0 rfl kf_X3_32 gX3_init_3.2.2.1 (fun H53 locs hB1 ho z53 oq53 => ?_)
  have hu := hB.1.2.2.2.2.1
  have hB := th_NR_s hB hB1 hu hB.2.2.1 (by omega) oq53
  have hIN := th_IN_s hIN hu oq53
  have k14xxxxxxxxx := tm_MAo k14xxxxxxxx oq53 (of_n0 of_b14 (by decide))
  have n14xxxxxxxxx : ¬ th_MR G Γ H53 b14 := fun w => n14xxxxxxxx (th_MR_s hu oq53 w)
  have k23xxxxxxx := tm_MAo k23xxxxxx oq53 (of_n0 of_b23 (by decide))
  have n23xxxxxxx : ¬ th_MR G Γ H53 b23 := fun w => n23xxxxxx (th_MR_s hu oq53 w)
  have k32xxxxx := tm_MAo k32xxxx oq53 (of_n0 of_b32 (by decide))
  have n32xxxxx : ¬ th_MR G Γ H53 b32 := fun w => n32xxxx (th_MR_s hu oq53 w)
  have k41xxx := tm_MAo k41xx oq53 (of_n0 of_b41 (by decide))
  have n41xxx : ¬ th_MR G Γ H53 b41 := fun w => n41xx (th_MR_s hu oq53 w)
  have hs : H53.size = H0.size + 4 := by omega
  refine lv_aload_n hx hb gX3_init_3.2.2.2.1 rfl (lv_at hl 0 rfl) ?_
  refine tc_get hC cf_X3 ho (j := 1) (by decide) rfl kf_X3_15 gX3_init_3.2.2.2.2.1 ?_
  refine lv_ldc2 (v := (-1)) hx hb hC.2.2.2.1 (hC.2.2.2.2.1 _ kw_296) gX3_init_3.2.2.2.2.2.1 ?_
  refine th_call (th_runS (As := [.ref b14, .long (-1)]) (rest := []) hC mf_J7_fill_d0a16 km_X3_38 st_J7_fill_d0a16 (c_J7_fill_d0a16_m1024 l G Γ H53 hB.1.1 b14 (fun _ => 0) k14xxxxxxxxx (-1)) rfl rfl ⟨Nat.le_of_ble_eq_true rfl, Nat.le_of_ble_eq_true rfl⟩ rfl hl.1 rfl (Nat.le_of_ble_eq_true rfl) gX3_init_3.2.2.2.2.2.2.1 ⟨Nat.le_refl _, Nat.le_refl _⟩) hB.1.2.1 (fun v63 H63 locs hp hz hS => ?_)
  obtain ⟨rfl, hIf, hf, ⟨gf, kq, gq⟩, hfr⟩ := hp
  have oq : ∀ q, q ≠ b14 → H63[q]? = H53[q]? := fun q hq => hfr q (by simpa using hq)
  have hB1 : th_N G Γ Γ a0 H0 H63 locs := ⟨hIf, hS, fun q h1 h2 => (oq q (by have q9 := lb14; omega)).trans (hB.1.2.2.1 q h1 h2), hB.1.2.2.2⟩
  have hq := k14xxxxxxxxx.2.1
  have hB := th_NR_s hB hB1 hq n14xxxxxxxxx hz oq
  have hIN := th_IN_s hIN hq oq
  have ho := tc_OBo ho oq (by have q9 := lb14; omega)
  have k23xxxxxxxx := tm_MAo k23xxxxxxx oq (fun e => (of_ne of_b14 of_b23 (by decide)) e.symm)
  have k32xxxxxx := tm_MAo k32xxxxx oq (fun e => (of_ne of_b14 of_b32 (by decide)) e.symm)
  have k41xxxx := tm_MAo k41xxx oq (fun e => (of_ne of_b14 of_b41 (by decide)) e.symm)
  have kf := kq
  have zf := sz_oq (of_lt hz1 hs of_b14 (by decide)) oq hz
  have hs : H63.size = H0.size + 4 := by omega
  refine W.eq (g2 := F0 m 66 ls []) rfl ?_
  have hI2 := th_nmO (r := 12) hB.1.1 ho hsz ro_12 rfl (fun j q hq => by
    match j, hq with
    | 0, hq => have e9 := Option.some.inj hq; subst e9; exact th_sI (x := 10) (by decide) (by decide)
    | 1, hq => have e9 := Option.some.inj hq; subst e9; exact th_s5
    | 2, hq => have e9 := Option.some.inj hq; subst e9; exact th_s5
    | 3, hq => have e9 := Option.some.inj hq; subst e9; exact th_s5
    | 4, hq => have e9 := Option.some.inj hq; subst e9; exact th_s5
    | 5, hq => have e9 := Option.some.inj hq; subst e9; exact th_sI (x := 0) (by decide) (by decide)
    | 6, hq => have e9 := Option.some.inj hq; subst e9; exact th_sI (x := 0) (by decide) (by decide)
    | n + 7, hq => exact absurd (List.getElem?_eq_some_iff.mp hq).1 (by simp))
  have hR2 := th_RC_mm hB.2.1 hno ho rfl rfl rfl rfl rfl rfl kf gq k23xxxxxxxx k32xxxxxx k41xxxx (fun e => (of_ne of_b14 of_b23 (by decide)) e) (fun e => (of_ne of_b14 of_b32 (by decide)) e) (fun e => (of_ne of_b14 of_b41 (by decide)) e) (fun e => (of_ne of_b23 of_b32 (by decide)) e) (fun e => (of_ne of_b23 of_b41 (by decide)) e) (fun e => (of_ne of_b32 of_b41 (by decide)) e) (by have q9 := lb14; omega) (by have q9 := lb23; omega) (by have q9 := lb32; omega) (by have q9 := lb41; omega)
  have hIN2 := th_IN_up (b := a0) (x := (12, 0)) hIN (ini_o rfl rfl rfl rfl)
  refine th_vret hC hH hr hlocks hB.1.2.1 ⟨rfl, th_up Γ a0 (12, 0), ⟨⟨hI2, (by omega), fun q h1 h2 => ⟨th_up_n h2, hB.1.2.2.1 q h1 h2⟩⟩, hR2, th_up_s, fun q w => Or.inr (th_MR_mm hno ho rfl rfl rfl rfl lb14 lb23 lb32 lb41 w), fun q x o hg hq hs => ?_⟩, hIN2, hs⟩ gX3_init_3.2.2.2.2.2.2.2
  by_cases e_a0 : q = a0
  · rw [e_a0, th_up_s] at hg; cases hg; decide
  rw [th_up_n e_a0] at hg
  exact (show ∀ x ∈ ([] : List Nat), x ∈ [12] by decide) x (hN q x o hg hq hs)

set_option maxHeartbeats 4000000 in
set_option maxRecDepth 100000 in
theorem c_X7_init_i (l : Launch) (G : th_G) (Γ : th_Ga) (H0 : Heap) (hI : th_I G Γ H0) (hR : th_RC G Γ H0) (a0 : Nat) (ho : th_OB G Γ H0 a0 7 14 (fun j => defaultValue (tyX7 j))) (hsz : G.1.2.2 ≤ a0) (hlt : a0 < H0.size) (hm : ¬ th_MR G Γ H0 a0) (hz1 : H0.size = a0 + 1) (hno : ∀ a o : Nat, Γ a ≠ (12, o)) : Met l yX7_init (.code yX7_init cX7_init 1 (none) :: th_tb) ({ frames := 2, cells := 9, slots := 7488, locals := 44 } : Room) (th_P [.ref a0] G H0) (th_Q (fun (v : Option Value) (H1 : Heap) => v = none ∧ ∃ Γ1 : th_Ga, th_NY G Γ Γ1 a0 27 [12, 27, 28, 29, 30, 31] H0 H1 ∧ th_IN G Γ1 a0 H0 H1 ∧ H1.size = H0.size + 9) G) 9 7488 (fun q => G.1.2.2 ≤ q) := by
  refine th_met RX7 (by decide) rfl (Nat.le_of_ble_eq_true rfl) ?_
  intro p e s m below meth c hC hH hr hlocks hnm ls hl
  have hx := hC.1
  have hb := hC.2.1
  have hB : th_NR G Γ Γ a0 H0 H0 [] := ⟨⟨hI, va_S.rf, fun _ _ _ => rfl, fun _ _ _ => rfl, ho.1, hsz, hlt⟩, hR, hm, fun q w => Or.inl w⟩
  have hl : lv_has ls 1 [(0, .ref a0)] := hl
  have hs : H0.size ≤ H0.size := Nat.le_refl _
  have hN := th_new_0 (a0 := a0) hI ho.1
  have hIN := th_IN_0 (a0 := a0) hI ho.1
  refine lv_aload_n hx hb gX7_init_0.1 rfl (lv_at hl 0 rfl) ?_
  refine W.objInit hx hb hC.2.2.2.1 (hC.2.2.2.2.1 _ kw_289) (hC.2.2.2.2.1 _ kw_28) (hC.2.2.2.2.1 _ kw_29) rfl (hl.1.trans hC.2.2.1.symm) rfl gX7_init_0.2.1 (Nat.le_of_ble_eq_true rfl) (Nat.le_of_ble_eq_true rfl) ?_
  refine W.eq (g2 := F0 m 4 ls []) rfl ?_
  refine lv_aload_n hx hb gX7_init_0.2.2.1 rfl (lv_at hl 0 rfl) ?_
  refine tc_new hC cf_X3 hB.1 kw_290 kw_291 kw_11 (Nat.le_of_ble_eq_true rfl) (Nat.le_of_ble_eq_true rfl) gX7_init_0.2.2.2.1 (fun b5 H5 eb5 zb5 oq5 hB1 kn => ?_)
  have of_b5 : b5 = a0 + 1 := by omega
  have n50 : ¬ th_MR G Γ H0 b5 := fun w => absurd (th_MR_lt hB.2.1 w) (by omega)
  have u5 := kn.1
  have hB := th_NR_s hB hB1 u5 n50 (by omega) oq5
  have hIN := th_IN_s hIN u5 oq5
  have nb : ¬ th_MR G Γ H5 b5 := fun w => n50 (th_MR_s u5 oq5 w)
  have ho := tc_OBo ho oq5 (by omega)
  have lbn : H0.size ≤ b5 := by omega
  have ltn : b5 < H5.size := by omega
  have szn : G.1.2.2 ≤ b5 := by have q9 := hB.1.2.2.2.2.2.1; have q8 := hB.1.2.2.2.2.2.2; omega
  have hs : H5.size = H0.size + 1 := by omega
  refine lv_dup hx hb gX7_init_0.2.2.2.2.1 rfl ?_
  refine th_call (th_runI (As := []) (rest := [.ref b5, .ref a0]) hC mf_X3_init km_X7_11 im_X3_init rfl (c_X3_init_i l G Γ H5 hB.1.1 hB.2.1 b5 kn szn ltn nb (by omega) hno) rfl rfl ⟨Nat.le_of_ble_eq_true rfl, Nat.le_of_ble_eq_true rfl⟩ rfl hl.1 rfl (Nat.le_of_ble_eq_true rfl) gX7_init_0.2.2.2.2.2.1 ⟨Nat.le_of_ble_eq_true rfl, Nat.le_of_ble_eq_true rfl⟩) hB.1.2.1 (fun v9 H9 locs hp hz hS => ?_)
  obtain ⟨rfl, Γ9, hy, hi, hzn⟩ := hp
  have hB := th_NR_c hB hy lbn hS
  have hIN := th_IN_c hIN hy hi
  have ho := tc_OBc ho hy (by omega) (by omega)
  have hr_b5 := hy.2.2.1
  have hs : H9.size = H0.size + 5 := by omega
  have hN := th_new_c hN hy
  refine W.eq (g2 := F0 m 12 ls [.ref b5, .ref a0]) rfl ?_
  refine tc_putF hC cf_X7 hB.1 ho (j := 0) (by decide) rfl hnm rfl rfl kf_X7_12 gX7_init_0.2.2.2.2.2.2.1 (fun H12 locs hB1 ho z12 oq12 => ?_)
  have hu := hB.1.2.2.2.2.1
  have hB := th_NR_s hB hB1 hu hB.2.2.1 (by omega) oq12
  have hIN := th_IN_s hIN hu oq12
  have hs : H12.size = H0.size + 5 := by omega
  refine lv_aload_n hx hb gX7_init_0.2.2.2.2.2.2.2 rfl (lv_at hl 0 rfl) ?_
  refine lv_sipush (v := 1296) hx hb gX7_init_1.1 (by decide) ?_
  refine tc_newa (ty := .int) (t := 0) hC hB.1 rfl rfl rfl kw_104 (N := 1296) tk_1296 (by decide) (Nat.le_of_ble_eq_true rfl) (Nat.le_of_ble_eq_true rfl) gX7_init_1.2.1 (fun b19 H19 eb19 zb19 oq19 hB1 k19 => ?_)
  have u19 := k19.2.1
  have of_b19 : b19 = a0 + 6 := by omega
  have n190 : ¬ th_MR G Γ9 H12 b19 := fun w => absurd (th_MR_lt hB.2.1 w) (by omega)
  have hB := th_NR_s hB hB1 u19 n190 (by omega) oq19
  have hIN := th_IN_s hIN u19 oq19
  have n19 : ¬ th_MR G Γ9 H19 b19 := fun w => n190 (th_MR_s u19 oq19 w)
  have lb19 : H0.size ≤ b19 := by omega
  have ho := tc_OBo ho oq19 (by omega)
  have hs : H19.size = H0.size + 6 := by omega
  refine tc_putF hC cf_X7 hB.1 ho (j := 1) (by decide) rfl hnm rfl rfl kf_X7_18 gX7_init_1.2.2.1 (fun H21 locs hB1 ho z21 oq21 => ?_)
  have hu := hB.1.2.2.2.2.1
  have hB := th_NR_s hB hB1 hu hB.2.2.1 (by omega) oq21
  have hIN := th_IN_s hIN hu oq21
  have k19x := tm_MAo k19 oq21 (of_n0 of_b19 (by decide))
  have n19x : ¬ th_MR G Γ9 H21 b19 := fun w => n19 (th_MR_s hu oq21 w)
  have hs : H21.size = H0.size + 6 := by omega
  refine lv_aload_n hx hb gX7_init_1.2.2.2.1 rfl (lv_at hl 0 rfl) ?_
  refine lv_sipush (v := 1296) hx hb gX7_init_1.2.2.2.2.1 (by decide) ?_
  refine tc_newa (ty := .int) (t := 0) hC hB.1 rfl rfl rfl kw_104 (N := 1296) tk_1296 (by decide) (Nat.le_of_ble_eq_true rfl) (Nat.le_of_ble_eq_true rfl) gX7_init_1.2.2.2.2.2.1 (fun b28 H28 eb28 zb28 oq28 hB1 k28 => ?_)
  have u28 := k28.2.1
  have of_b28 : b28 = a0 + 7 := by omega
  have n280 : ¬ th_MR G Γ9 H21 b28 := fun w => absurd (th_MR_lt hB.2.1 w) (by omega)
  have hB := th_NR_s hB hB1 u28 n280 (by omega) oq28
  have hIN := th_IN_s hIN u28 oq28
  have n28 : ¬ th_MR G Γ9 H28 b28 := fun w => n280 (th_MR_s u28 oq28 w)
  have lb28 : H0.size ≤ b28 := by omega
  have ho := tc_OBo ho oq28 (by omega)
  have k19xx := tm_MAo k19x oq28 (of_ne of_b19 of_b28 (by decide))
  have n19xx : ¬ th_MR G Γ9 H28 b19 := fun w => n19x (th_MR_s u28 oq28 w)
  have hs : H28.size = H0.size + 7 := by omega
  refine tc_putF hC cf_X7 hB.1 ho (j := 2) (by decide) rfl hnm rfl rfl kf_X7_22 gX7_init_1.2.2.2.2.2.2.1 (fun H30 locs hB1 ho z30 oq30 => ?_)
  have hu := hB.1.2.2.2.2.1
  have hB := th_NR_s hB hB1 hu hB.2.2.1 (by omega) oq30
  have hIN := th_IN_s hIN hu oq30
  have k19xxx := tm_MAo k19xx oq30 (of_n0 of_b19 (by decide))
  have n19xxx : ¬ th_MR G Γ9 H30 b19 := fun w => n19xx (th_MR_s hu oq30 w)
  have k28x := tm_MAo k28 oq30 (of_n0 of_b28 (by decide))
  have n28x : ¬ th_MR G Γ9 H30 b28 := fun w => n28 (th_MR_s hu oq30 w)
  have hs : H30.size = H0.size + 7 := by omega
  refine lv_aload_n hx hb gX7_init_1.2.2.2.2.2.2.2 rfl (lv_at hl 0 rfl) ?_
  refine lv_sipush (v := 1296) hx hb gX7_init_2.1 (by decide) ?_
  refine tc_newa (ty := .int) (t := 0) hC hB.1 rfl rfl rfl kw_104 (N := 1296) tk_1296 (by decide) (Nat.le_of_ble_eq_true rfl) (Nat.le_of_ble_eq_true rfl) gX7_init_2.2.1 (fun b37 H37 eb37 zb37 oq37 hB1 k37 => ?_)
  have u37 := k37.2.1
  have of_b37 : b37 = a0 + 8 := by omega
  have n370 : ¬ th_MR G Γ9 H30 b37 := fun w => absurd (th_MR_lt hB.2.1 w) (by omega)
  have hB := th_NR_s hB hB1 u37 n370 (by omega) oq37
  have hIN := th_IN_s hIN u37 oq37
  have n37 : ¬ th_MR G Γ9 H37 b37 := fun w => n370 (th_MR_s u37 oq37 w)
  have lb37 : H0.size ≤ b37 := by omega
  have ho := tc_OBo ho oq37 (by omega)
  have k19xxxx := tm_MAo k19xxx oq37 (of_ne of_b19 of_b37 (by decide))
  have n19xxxx : ¬ th_MR G Γ9 H37 b19 := fun w => n19xxx (th_MR_s u37 oq37 w)
  have k28xx := tm_MAo k28x oq37 (of_ne of_b28 of_b37 (by decide))
  have n28xx : ¬ th_MR G Γ9 H37 b28 := fun w => n28x (th_MR_s u37 oq37 w)
  have hs : H37.size = H0.size + 8 := by omega
  refine tc_putF hC cf_X7 hB.1 ho (j := 3) (by decide) rfl hnm rfl rfl kf_X7_25 gX7_init_2.2.2.1 (fun H39 locs hB1 ho z39 oq39 => ?_)
  have hu := hB.1.2.2.2.2.1
  have hB := th_NR_s hB hB1 hu hB.2.2.1 (by omega) oq39
  have hIN := th_IN_s hIN hu oq39
  have k19xxxxx := tm_MAo k19xxxx oq39 (of_n0 of_b19 (by decide))
  have n19xxxxx : ¬ th_MR G Γ9 H39 b19 := fun w => n19xxxx (th_MR_s hu oq39 w)
  have k28xxx := tm_MAo k28xx oq39 (of_n0 of_b28 (by decide))
  have n28xxx : ¬ th_MR G Γ9 H39 b28 := fun w => n28xx (th_MR_s hu oq39 w)
  have k37x := tm_MAo k37 oq39 (of_n0 of_b37 (by decide))
  have n37x : ¬ th_MR G Γ9 H39 b37 := fun w => n37 (th_MR_s hu oq39 w)
  have hs : H39.size = H0.size + 8 := by omega
  refine lv_aload_n hx hb gX7_init_2.2.2.2.1 rfl (lv_at hl 0 rfl) ?_
  refine lv_bipush (v := 9) hx hb gX7_init_2.2.2.2.2.1 (by decide) ?_
  refine tc_newa (ty := .int) (t := 0) hC hB.1 rfl rfl rfl kw_104 (N := 9) tk_9 (by decide) (Nat.le_of_ble_eq_true rfl) (Nat.le_of_ble_eq_true rfl) gX7_init_2.2.2.2.2.2.1 (fun b45 H45 eb45 zb45 oq45 hB1 k45 => ?_)
  have u45 := k45.2.1
  have of_b45 : b45 = a0 + 9 := by omega
  have n450 : ¬ th_MR G Γ9 H39 b45 := fun w => absurd (th_MR_lt hB.2.1 w) (by omega)
  have hB := th_NR_s hB hB1 u45 n450 (by omega) oq45
  have hIN := th_IN_s hIN u45 oq45
  have n45 : ¬ th_MR G Γ9 H45 b45 := fun w => n450 (th_MR_s u45 oq45 w)
  have lb45 : H0.size ≤ b45 := by omega
  have ho := tc_OBo ho oq45 (by omega)
  have k19xxxxxx := tm_MAo k19xxxxx oq45 (of_ne of_b19 of_b45 (by decide))
  have n19xxxxxx : ¬ th_MR G Γ9 H45 b19 := fun w => n19xxxxx (th_MR_s u45 oq45 w)
  have k28xxxx := tm_MAo k28xxx oq45 (of_ne of_b28 of_b45 (by decide))
  have n28xxxx : ¬ th_MR G Γ9 H45 b28 := fun w => n28xxx (th_MR_s u45 oq45 w)
  have k37xx := tm_MAo k37x oq45 (of_ne of_b37 of_b45 (by decide))
  have n37xx : ¬ th_MR G Γ9 H45 b37 := fun w => n37x (th_MR_s u45 oq45 w)
  have hs : H45.size = H0.size + 9 := by omega
  refine tc_putF hC cf_X7 hB.1 ho (j := 4) (by decide) rfl hnm rfl rfl kf_X7_28 gX7_init_2.2.2.2.2.2.2.1 (fun H47 locs hB1 ho z47 oq47 => ?_)
  have hu := hB.1.2.2.2.2.1
  have hB := th_NR_s hB hB1 hu hB.2.2.1 (by omega) oq47
  have hIN := th_IN_s hIN hu oq47
  have k19xxxxxxx := tm_MAo k19xxxxxx oq47 (of_n0 of_b19 (by decide))
  have n19xxxxxxx : ¬ th_MR G Γ9 H47 b19 := fun w => n19xxxxxx (th_MR_s hu oq47 w)
  have k28xxxxx := tm_MAo k28xxxx oq47 (of_n0 of_b28 (by decide))
  have n28xxxxx : ¬ th_MR G Γ9 H47 b28 := fun w => n28xxxx (th_MR_s hu oq47 w)
  have k37xxx := tm_MAo k37xx oq47 (of_n0 of_b37 (by decide))
  have n37xxx : ¬ th_MR G Γ9 H47 b37 := fun w => n37xx (th_MR_s hu oq47 w)
  have k45x := tm_MAo k45 oq47 (of_n0 of_b45 (by decide))
  have n45x : ¬ th_MR G Γ9 H47 b45 := fun w => n45 (th_MR_s hu oq47 w)
  have hs : H47.size = H0.size + 9 := by omega
  refine lv_aload_n hx hb gX7_init_2.2.2.2.2.2.2.2 rfl (lv_at hl 0 rfl) ?_
  refine lv_iconst (v := 0) hx hb gX7_init_3.1 (by decide) ?_
  refine tc_put hC cf_X7 hB.1 ho (j := 5) (by decide) rfl rfl rfl kf_X7_31 gX7_init_3.2.1 (fun H52 locs hB1 ho z52 oq52 => ?_)
  have hu := hB.1.2.2.2.2.1
  have hB := th_NR_s hB hB1 hu hB.2.2.1 (by omega) oq52
  have hIN := th_IN_s hIN hu oq52
  have k19xxxxxxxx := tm_MAo k19xxxxxxx oq52 (of_n0 of_b19 (by decide))
  have n19xxxxxxxx : ¬ th_MR G Γ9 H52 b19 := fun w => n19xxxxxxx (th_MR_s hu oq52 w)
  have k28xxxxxx := tm_MAo k28xxxxx oq52 (of_n0 of_b28 (by decide))
  have n28xxxxxx : ¬ th_MR G Γ9 H52 b28 := fun w => n28xxxxx (th_MR_s hu oq52 w)
  have k37xxxx := tm_MAo k37xxx oq52 (of_n0 of_b37 (by decide))
  have n37xxxx : ¬ th_MR G Γ9 H52 b37 := fun w => n37xxx (th_MR_s hu oq52 w)
  have k45xx := tm_MAo k45x oq52 (of_n0 of_b45 (by decide))
  have n45xx : ¬ th_MR G Γ9 H52 b45 := fun w => n45x (th_MR_s hu oq52 w)
  have hs : H52.size = H0.size + 9 := by omega
  refine lv_aload_n hx hb gX7_init_3.2.2.1 rfl (lv_at hl 0 rfl) ?_
  refine lv_iconst (v := 0) hx hb gX7_init_3.2.2.2.1 (by decide) ?_
  refine tc_put hC cf_X7 hB.1 ho (j := 6) (by decide) rfl rfl rfl kf_X7_35 gX7_init_3.2.2.2.2.1 (fun H57 locs hB1 ho z57 oq57 => ?_)
  have hu := hB.1.2.2.2.2.1
  have hB := th_NR_s hB hB1 hu hB.2.2.1 (by omega) oq57
  have hIN := th_IN_s hIN hu oq57
  have k19xxxxxxxxx := tm_MAo k19xxxxxxxx oq57 (of_n0 of_b19 (by decide))
  have n19xxxxxxxxx : ¬ th_MR G Γ9 H57 b19 := fun w => n19xxxxxxxx (th_MR_s hu oq57 w)
  have k28xxxxxxx := tm_MAo k28xxxxxx oq57 (of_n0 of_b28 (by decide))
  have n28xxxxxxx : ¬ th_MR G Γ9 H57 b28 := fun w => n28xxxxxx (th_MR_s hu oq57 w)
  have k37xxxxx := tm_MAo k37xxxx oq57 (of_n0 of_b37 (by decide))
  have n37xxxxx : ¬ th_MR G Γ9 H57 b37 := fun w => n37xxxx (th_MR_s hu oq57 w)
  have k45xxx := tm_MAo k45xx oq57 (of_n0 of_b45 (by decide))
  have n45xxx : ¬ th_MR G Γ9 H57 b45 := fun w => n45xx (th_MR_s hu oq57 w)
  have hs : H57.size = H0.size + 9 := by omega
  have hI1 := hB.1.1
  have hR1 := hB.2.1
  have hI2 := th_nmA (r := 28) (o := a0) hI1 k19xxxxxxxxx ro_28 (Nat.le_refl _) (Nat.le_refl _) (fun i _ => th_sI (x := 0) (by decide) (by decide))
  have hR1 := th_RC_up hI1 hR1 (x := (28, a0)) k19xxxxxxxxx.2.1 n19xxxxxxxxx hI2 (fun e => absurd (show (28 : Nat) = 3 from e) (by decide)) (fun e => absurd (show (28 : Nat) = 18 ∨ (28 : Nat) = 19 from e) (by decide)) (show (28 : Nat) ≠ 12 by decide)
  have hI1 := hI2
  have hIN := th_IN_up (b := b19) (x := (28, a0)) hIN (ini_r rfl rfl rfl rfl (fun i hi => th_sl_at k19xxxxxxxxx.2.2 (arrV_read _ _ hi)))
  have ho := th_OB_up (b := b19) (x := (28, a0)) ho (by have q9 := lb19; omega)
  have k28xxxxxxxu := th_MA_up (b := b19) (x := (28, a0)) k28xxxxxxx (fun e => (of_ne of_b19 of_b28 (by decide)) e.symm)
  have n28xxxxxxxu : ¬ th_MR G (th_up Γ9 b19 (28, a0)) H57 b28 := fun w => n28xxxxxxx (th_MR_up (show (28 : Nat) ≠ 12 by decide) w)
  have k37xxxxxu := th_MA_up (b := b19) (x := (28, a0)) k37xxxxx (fun e => (of_ne of_b19 of_b37 (by decide)) e.symm)
  have n37xxxxxu : ¬ th_MR G (th_up Γ9 b19 (28, a0)) H57 b37 := fun w => n37xxxxx (th_MR_up (show (28 : Nat) ≠ 12 by decide) w)
  have k45xxxu := th_MA_up (b := b19) (x := (28, a0)) k45xxx (fun e => (of_ne of_b19 of_b45 (by decide)) e.symm)
  have n45xxxu : ¬ th_MR G (th_up Γ9 b19 (28, a0)) H57 b45 := fun w => n45xxx (th_MR_up (show (28 : Nat) ≠ 12 by decide) w)
  have hI2 := th_nmA (r := 29) (o := a0) hI1 k28xxxxxxxu ro_29 (Nat.le_refl _) (Nat.le_refl _) (fun i _ => th_sI (x := 0) (by decide) (by decide))
  have hR1 := th_RC_up hI1 hR1 (x := (29, a0)) k28xxxxxxxu.2.1 n28xxxxxxxu hI2 (fun e => absurd (show (29 : Nat) = 3 from e) (by decide)) (fun e => absurd (show (29 : Nat) = 18 ∨ (29 : Nat) = 19 from e) (by decide)) (show (29 : Nat) ≠ 12 by decide)
  have hI1 := hI2
  have hIN := th_IN_up (b := b28) (x := (29, a0)) hIN (ini_r rfl rfl rfl rfl (fun i hi => th_sl_at k28xxxxxxx.2.2 (arrV_read _ _ hi)))
  have ho := th_OB_up (b := b28) (x := (29, a0)) ho (by have q9 := lb28; omega)
  have k37xxxxxuu := th_MA_up (b := b28) (x := (29, a0)) k37xxxxxu (fun e => (of_ne of_b28 of_b37 (by decide)) e.symm)
  have n37xxxxxuu : ¬ th_MR G (th_up (th_up Γ9 b19 (28, a0)) b28 (29, a0)) H57 b37 := fun w => n37xxxxxu (th_MR_up (show (29 : Nat) ≠ 12 by decide) w)
  have k45xxxuu := th_MA_up (b := b28) (x := (29, a0)) k45xxxu (fun e => (of_ne of_b28 of_b45 (by decide)) e.symm)
  have n45xxxuu : ¬ th_MR G (th_up (th_up Γ9 b19 (28, a0)) b28 (29, a0)) H57 b45 := fun w => n45xxxu (th_MR_up (show (29 : Nat) ≠ 12 by decide) w)
  have hI2 := th_nmA (r := 30) (o := a0) hI1 k37xxxxxuu ro_30 (Nat.le_refl _) (Nat.le_refl _) (fun i _ => th_sI (x := 0) (by decide) (by decide))
  have hR1 := th_RC_up hI1 hR1 (x := (30, a0)) k37xxxxxuu.2.1 n37xxxxxuu hI2 (fun e => absurd (show (30 : Nat) = 3 from e) (by decide)) (fun e => absurd (show (30 : Nat) = 18 ∨ (30 : Nat) = 19 from e) (by decide)) (show (30 : Nat) ≠ 12 by decide)
  have hI1 := hI2
  have hIN := th_IN_up (b := b37) (x := (30, a0)) hIN (ini_r rfl rfl rfl rfl (fun i hi => th_sl_at k37xxxxx.2.2 (arrV_read _ _ hi)))
  have ho := th_OB_up (b := b37) (x := (30, a0)) ho (by have q9 := lb37; omega)
  have k45xxxuuu := th_MA_up (b := b37) (x := (30, a0)) k45xxxuu (fun e => (of_ne of_b37 of_b45 (by decide)) e.symm)
  have n45xxxuuu : ¬ th_MR G (th_up (th_up (th_up Γ9 b19 (28, a0)) b28 (29, a0)) b37 (30, a0)) H57 b45 := fun w => n45xxxuu (th_MR_up (show (30 : Nat) ≠ 12 by decide) w)
  have hI2 := th_nmA (r := 31) (o := a0) hI1 k45xxxuuu ro_31 (Nat.le_refl _) (Nat.le_refl _) (fun i _ => th_sI (x := 0) (by decide) (by decide))
  have hR1 := th_RC_up hI1 hR1 (x := (31, a0)) k45xxxuuu.2.1 n45xxxuuu hI2 (fun e => absurd (show (31 : Nat) = 3 from e) (by decide)) (fun e => absurd (show (31 : Nat) = 18 ∨ (31 : Nat) = 19 from e) (by decide)) (show (31 : Nat) ≠ 12 by decide)
  have hI1 := hI2
  have hIN := th_IN_up (b := b45) (x := (31, a0)) hIN (ini_r rfl rfl rfl rfl (fun i hi => th_sl_at k45xxx.2.2 (arrV_read _ _ hi)))
  have ho := th_OB_up (b := b45) (x := (31, a0)) ho (by have q9 := lb45; omega)
  have g_b19 : (th_up (th_up (th_up (th_up Γ9 b19 (28, a0)) b28 (29, a0)) b37 (30, a0)) b45 (31, a0)) b19 = (28, a0) := (th_up_n ((of_ne of_b19 of_b45 (by decide)))).trans ((th_up_n ((of_ne of_b19 of_b37 (by decide)))).trans ((th_up_n ((of_ne of_b19 of_b28 (by decide)))).trans (th_up_s)))
  have g_b28 : (th_up (th_up (th_up (th_up Γ9 b19 (28, a0)) b28 (29, a0)) b37 (30, a0)) b45 (31, a0)) b28 = (29, a0) := (th_up_n ((of_ne of_b28 of_b45 (by decide)))).trans ((th_up_n ((of_ne of_b28 of_b37 (by decide)))).trans (th_up_s))
  have g_b37 : (th_up (th_up (th_up (th_up Γ9 b19 (28, a0)) b28 (29, a0)) b37 (30, a0)) b45 (31, a0)) b37 = (30, a0) := (th_up_n ((of_ne of_b37 of_b45 (by decide)))).trans (th_up_s)
  have g_b45 : (th_up (th_up (th_up (th_up Γ9 b19 (28, a0)) b28 (29, a0)) b37 (30, a0)) b45 (31, a0)) b45 = (31, a0) := th_up_s
  have nm0 : ¬ th_MR G (th_up (th_up (th_up (th_up Γ9 b19 (28, a0)) b28 (29, a0)) b37 (30, a0)) b45 (31, a0)) H57 a0 := fun w => hB.2.2.1 (th_MR_up (show (28 : Nat) ≠ 12 by decide) (th_MR_up (show (29 : Nat) ≠ 12 by decide) (th_MR_up (show (30 : Nat) ≠ 12 by decide) (th_MR_up (show (31 : Nat) ≠ 12 by decide) w))))
  have hI2 := th_nmO (r := 27) hI1 ho hsz ro_27 rfl (fun j q hq => by
    match j, hq with
    | 0, hq => have e9 := Option.some.inj hq; subst e9; exact th_sR ((th_up_n (of_ne of_b5 of_b45 (by decide))).trans ((th_up_n (of_ne of_b5 of_b37 (by decide))).trans ((th_up_n (of_ne of_b5 of_b28 (by decide))).trans ((th_up_n (of_ne of_b5 of_b19 (by decide))).trans hr_b5))))
    | 1, hq => have e9 := Option.some.inj hq; subst e9; exact th_sO g_b19
    | 2, hq => have e9 := Option.some.inj hq; subst e9; exact th_sO g_b28
    | 3, hq => have e9 := Option.some.inj hq; subst e9; exact th_sO g_b37
    | 4, hq => have e9 := Option.some.inj hq; subst e9; exact th_sO g_b45
    | 5, hq => have e9 := Option.some.inj hq; subst e9; exact th_sI (x := 0) (by decide) (by decide)
    | 6, hq => have e9 := Option.some.inj hq; subst e9; exact th_sI (x := 0) (by decide) (by decide)
    | 7, hq => have e9 := Option.some.inj hq; subst e9; exact th_sN
    | 8, hq => have e9 := Option.some.inj hq; subst e9; exact th_sN
    | 9, hq => have e9 := Option.some.inj hq; subst e9; exact th_sN
    | 10, hq => have e9 := Option.some.inj hq; subst e9; exact th_sN
    | 11, hq => have e9 := Option.some.inj hq; subst e9; exact th_sI (x := 0) (by decide) (by decide)
    | 12, hq => have e9 := Option.some.inj hq; subst e9; exact th_sI (x := 0) (by decide) (by decide)
    | 13, hq => have e9 := Option.some.inj hq; subst e9; exact th_sI (x := 0) (by decide) (by decide)
    | n + 14, hq => exact absurd (List.getElem?_eq_some_iff.mp hq).1 (by simp))
  have hR2 := th_RC_up hI1 hR1 (x := (27, 0)) ho.1 nm0 hI2 (fun e => absurd e (by decide)) (fun e => absurd e (by decide)) (by decide)
  have hIN2 := th_IN_up (b := a0) (x := (27, 0)) hIN (ini_f (r := 27) ho rfl rfl rfl (fun j x hm => by
    rcases List.mem_cons.mp hm with e | hm
    · cases e; exact ⟨by decide, rfl⟩
    cases hm) (fun j d hm => by
    rcases List.mem_cons.mp hm with e | hm
    · cases e; exact ⟨by decide, by rw [← of_b5]; rfl⟩
    rcases List.mem_cons.mp hm with e | hm
    · cases e; exact ⟨by decide, by rw [← of_b19]; rfl⟩
    rcases List.mem_cons.mp hm with e | hm
    · cases e; exact ⟨by decide, by rw [← of_b28]; rfl⟩
    rcases List.mem_cons.mp hm with e | hm
    · cases e; exact ⟨by decide, by rw [← of_b37]; rfl⟩
    rcases List.mem_cons.mp hm with e | hm
    · cases e; exact ⟨by decide, by rw [← of_b45]; rfl⟩
    cases hm))
  have gq : ∀ q, q < H0.size → q ≠ a0 → (th_up (th_up (th_up (th_up (th_up Γ9 b19 (28, a0)) b28 (29, a0)) b37 (30, a0)) b45 (31, a0)) a0 (27, 0)) q = Γ9 q := fun q h1 h2 => (((((th_up_n h2).trans (th_up_n (by have q9 := lb45; omega))).trans (th_up_n (by have q9 := lb37; omega))).trans (th_up_n (by have q9 := lb28; omega))).trans (th_up_n (by have q9 := lb19; omega)))
  refine th_vret hC hH hr hlocks hB.1.2.1 ⟨rfl, (th_up (th_up (th_up (th_up (th_up Γ9 b19 (28, a0)) b28 (29, a0)) b37 (30, a0)) b45 (31, a0)) a0 (27, 0)), ⟨⟨hI2, (by omega), fun q h1 h2 => ⟨(gq q h1 h2).trans (hB.1.2.2.2.1 q h1 h2), hB.1.2.2.1 q h1 h2⟩⟩, hR2, th_up_s, fun q w => hB.2.2.2 q (th_MR_up (show (28 : Nat) ≠ 12 by decide) (th_MR_up (show (29 : Nat) ≠ 12 by decide) (th_MR_up (show (30 : Nat) ≠ 12 by decide) (th_MR_up (show (31 : Nat) ≠ 12 by decide) (th_MR_up (show (27 : Nat) ≠ 12 by decide) w))))), fun q x o hg hq hs => ?_⟩, hIN2, hs⟩ gX7_init_3.2.2.2.2.2
  by_cases e_a0 : q = a0
  · rw [e_a0, th_up_s] at hg; cases hg; decide
  rw [th_up_n e_a0] at hg
  by_cases e_b45 : q = b45
  · rw [e_b45, th_up_s] at hg; cases hg; decide
  rw [th_up_n e_b45] at hg
  by_cases e_b37 : q = b37
  · rw [e_b37, th_up_s] at hg; cases hg; decide
  rw [th_up_n e_b37] at hg
  by_cases e_b28 : q = b28
  · rw [e_b28, th_up_s] at hg; cases hg; decide
  rw [th_up_n e_b28] at hg
  by_cases e_b19 : q = b19
  · rw [e_b19, th_up_s] at hg; cases hg; decide
  rw [th_up_n e_b19] at hg
  exact (show ∀ x ∈ (([] ++ [12]) : List Nat), x ∈ [12, 27, 28, 29, 30, 31] by decide) x (hN q x o hg hq hs)
end
section
set_option maxHeartbeats 4000000 in
set_option maxRecDepth 100000 in
theorem c_X11_init_i (l : Launch) (G : th_G) (Γ : th_Ga) (H0 : Heap) (hI : th_I G Γ H0) (hR : th_RC G Γ H0) (a0 : Nat) (ho : th_OB G Γ H0 a0 11 18 (fun j => defaultValue (tyX11 j))) (hsz : G.1.2.2 ≤ a0) (hlt : a0 < H0.size) (hm : ¬ th_MR G Γ H0 a0) (hz1 : H0.size = a0 + 1) (hno : ∀ a o : Nat, Γ a ≠ (12, o)) : Met l yX11_init (.code yX11_init cX11_init 2 (none) :: th_tb) ({ frames := 3, cells := 152, slots := 20101, locals := 64 } : Room) (th_P [.ref a0] G H0) (th_Q (fun (v : Option Value) (H1 : Heap) => v = none ∧ ∃ Γ1 : th_Ga, th_NY G Γ Γ1 a0 42 [1, 2, 3, 4, 5, 6, 7, 8, 9, 10, 11, 12, 17, 18, 19, 20, 21, 22, 23, 24, 25, 26, 27, 28, 29, 30, 31, 32, 33, 34, 35, 36, 37, 38, 39, 40, 41, 42, 43, 44, 45] H0 H1 ∧ th_IN G Γ1 a0 H0 H1 ∧ H1.size = H0.size + 152) G) 152 20101 (fun q => G.1.2.2 ≤ q) := by
  refine th_met RX11 (by decide) rfl (Nat.le_of_ble_eq_true rfl) ?_
  intro p e s m below meth c hC hH hr hlocks hnm ls hl
  have hx := hC.1
  have hb := hC.2.1
  have hB : th_NR G Γ Γ a0 H0 H0 [] := ⟨⟨hI, va_S.rf, fun _ _ _ => rfl, fun _ _ _ => rfl, ho.1, hsz, hlt⟩, hR, hm, fun q w => Or.inl w⟩
  have hl : lv_has ls 2 [(0, .ref a0)] := hl
  have hs : H0.size ≤ H0.size := Nat.le_refl _
  have hN := th_new_0 (a0 := a0) hI ho.1
  have hIN := th_IN_0 (a0 := a0) hI ho.1
  refine lv_aload_n hx hb gX11_init_0.1 rfl (lv_at hl 0 rfl) ?_
  refine W.objInit hx hb hC.2.2.2.1 (hC.2.2.2.2.1 _ kw_27) (hC.2.2.2.2.1 _ kw_28) (hC.2.2.2.2.1 _ kw_29) rfl (hl.1.trans hC.2.2.1.symm) rfl gX11_init_0.2.1 (Nat.le_of_ble_eq_true rfl) (Nat.le_of_ble_eq_true rfl) ?_
  refine W.eq (g2 := F0 m 4 ls []) rfl ?_
  refine lv_aload_n hx hb gX11_init_0.2.2.1 rfl (lv_at hl 0 rfl) ?_
  refine tc_new hC cf_X8 hB.1 kw_30 kw_31 kw_2 (Nat.le_of_ble_eq_true rfl) (Nat.le_of_ble_eq_true rfl) gX11_init_0.2.2.2.1 (fun b5 H5 eb5 zb5 oq5 hB1 kn => ?_)
  have of_b5 : b5 = a0 + 1 := by omega
  have n50 : ¬ th_MR G Γ H0 b5 := fun w => absurd (th_MR_lt hB.2.1 w) (by omega)
  have u5 := kn.1
  have hB := th_NR_s hB hB1 u5 n50 (by omega) oq5
  have hIN := th_IN_s hIN u5 oq5
  have nb : ¬ th_MR G Γ H5 b5 := fun w => n50 (th_MR_s u5 oq5 w)
  have ho := tc_OBo ho oq5 (by omega)
  have lbn : H0.size ≤ b5 := by omega
  have ltn : b5 < H5.size := by omega
  have szn : G.1.2.2 ≤ b5 := by have q9 := hB.1.2.2.2.2.2.1; have q8 := hB.1.2.2.2.2.2.2; omega
  have hs : H5.size = H0.size + 1 := by omega
  refine lv_dup hx hb gX11_init_0.2.2.2.2.1 rfl ?_
  refine th_call (th_runI (As := []) (rest := [.ref b5, .ref a0]) hC mf_X8_init km_X11_11 im_X8_init rfl (c_X8_init_i l G Γ H5 hB.1.1 hB.2.1 b5 kn szn ltn nb (by omega)) rfl rfl ⟨Nat.le_of_ble_eq_true rfl, Nat.le_of_ble_eq_true rfl⟩ rfl hl.1 rfl (Nat.le_of_ble_eq_true rfl) gX11_init_0.2.2.2.2.2.1 ⟨Nat.le_of_ble_eq_true rfl, Nat.le_of_ble_eq_true rfl⟩) hB.1.2.1 (fun v9 H9 locs hp hz hS => ?_)
  obtain ⟨rfl, Γ9, hy, hi, hzn⟩ := hp
  have hB := th_NR_c hB hy lbn hS
  have hIN := th_IN_c hIN hy hi
  have ho := tc_OBc ho hy (by omega) (by omega)
  have hr_b5 := hy.2.2.1
  have hs : H9.size = H0.size + 31 := by omega
  have hN := th_new_c hN hy
  refine W.eq (g2 := F0 m 12 ls [.ref b5, .ref a0]) rfl ?_
  refine tc_putF hC cf_X11 hB.1 ho (j := 0) (by decide) rfl hnm rfl rfl kf_X11_12 gX11_init_0.2.2.2.2.2.2.1 (fun H12 locs hB1 ho z12 oq12 => ?_)
  have hu := hB.1.2.2.2.2.1
  have hB := th_NR_s hB hB1 hu hB.2.2.1 (by omega) oq12
  have hIN := th_IN_s hIN hu oq12
  have hs : H12.size = H0.size + 31 := by omega
  refine lv_aload_n hx hb gX11_init_0.2.2.2.2.2.2.2 rfl (lv_at hl 0 rfl) ?_
  refine lv_iconst (v := 2) hx hb gX11_init_1.1 (by decide) ?_
  refine tc_anew (t := 5) hC hB.1 rfl hC.2.2.2.2.2.2.2 kw_30 (N := 2) tk_2 (by decide) (Nat.le_of_ble_eq_true rfl) (Nat.le_of_ble_eq_true rfl) gX11_init_1.2.1 (fun b17 H17 eb17 zb17 oq17 hB1 k17 => ?_)
  have u17 := k17.2.1
  have of_b17 : b17 = a0 + 32 := by omega
  have n170 : ¬ th_MR G Γ9 H12 b17 := fun w => absurd (th_MR_lt hB.2.1 w) (by omega)
  have hB := th_NR_s hB hB1 u17 n170 (by omega) oq17
  have hIN := th_IN_s hIN u17 oq17
  have n17 : ¬ th_MR G Γ9 H17 b17 := fun w => n170 (th_MR_s u17 oq17 w)
  have lb17 : H0.size ≤ b17 := by omega
  have ho := tc_OBo ho oq17 (by omega)
  have hs : H17.size = H0.size + 32 := by omega
  refine tc_putF hC cf_X11 hB.1 ho (j := 1) (by decide) rfl hnm rfl rfl kf_X11_16 gX11_init_1.2.2.1 (fun H20 locs hB1 ho z20 oq20 => ?_)
  have hu := hB.1.2.2.2.2.1
  have hB := th_NR_s hB hB1 hu hB.2.2.1 (by omega) oq20
  have hIN := th_IN_s hIN hu oq20
  have k17x := tm_MAo k17 oq20 (of_n0 of_b17 (by decide))
  have n17x : ¬ th_MR G Γ9 H20 b17 := fun w => n17 (th_MR_s hu oq20 w)
  have hs : H20.size = H0.size + 32 := by omega
  refine lv_aload_n hx hb gX11_init_1.2.2.2.1 rfl (lv_at hl 0 rfl) ?_
  refine lv_iconst (v := 2) hx hb gX11_init_1.2.2.2.2.1 (by decide) ?_
  refine tc_newa (ty := .boolean) (t := 2) hC hB.1 rfl rfl rfl kw_187 (N := 2) tk_2 (by decide) (Nat.le_of_ble_eq_true rfl) (Nat.le_of_ble_eq_true rfl) gX11_init_1.2.2.2.2.2.1 (fun b25 H25 eb25 zb25 oq25 hB1 k25 => ?_)
  have u25 := k25.2.1
  have of_b25 : b25 = a0 + 33 := by omega
  have n250 : ¬ th_MR G Γ9 H20 b25 := fun w => absurd (th_MR_lt hB.2.1 w) (by omega)
  have hB := th_NR_s hB hB1 u25 n250 (by omega) oq25
  have hIN := th_IN_s hIN u25 oq25
  have n25 : ¬ th_MR G Γ9 H25 b25 := fun w => n250 (th_MR_s u25 oq25 w)
  have lb25 : H0.size ≤ b25 := by omega
  have ho := tc_OBo ho oq25 (by omega)
  have k17xx := tm_MAo k17x oq25 (of_ne of_b17 of_b25 (by decide))
  have n17xx : ¬ th_MR G Γ9 H25 b17 := fun w => n17x (th_MR_s u25 oq25 w)
  have hs : H25.size = H0.size + 33 := by omega
  refine tc_putF hC cf_X11 hB.1 ho (j := 2) (by decide) rfl hnm rfl rfl kf_X11_20 gX11_init_1.2.2.2.2.2.2.1 (fun H27 locs hB1 ho z27 oq27 => ?_)
  have hu := hB.1.2.2.2.2.1
  have hB := th_NR_s hB hB1 hu hB.2.2.1 (by omega) oq27
  have hIN := th_IN_s hIN hu oq27
  have k17xxx := tm_MAo k17xx oq27 (of_n0 of_b17 (by decide))
  have n17xxx : ¬ th_MR G Γ9 H27 b17 := fun w => n17xx (th_MR_s hu oq27 w)
  have k25x := tm_MAo k25 oq27 (of_n0 of_b25 (by decide))
  have n25x : ¬ th_MR G Γ9 H27 b25 := fun w => n25 (th_MR_s hu oq27 w)
  have hs : H27.size = H0.size + 33 := by omega
  refine lv_aload_n hx hb gX11_init_1.2.2.2.2.2.2.2 rfl (lv_at hl 0 rfl) ?_
  refine tc_new hC cf_X1 hB.1 kw_168 kw_37 kw_3 (Nat.le_of_ble_eq_true rfl) (Nat.le_of_ble_eq_true rfl) gX11_init_2.1 (fun b31 H31 eb31 zb31 oq31 hB1 kn => ?_)
  have of_b31 : b31 = a0 + 34 := by omega
  have n310 : ¬ th_MR G Γ9 H27 b31 := fun w => absurd (th_MR_lt hB.2.1 w) (by omega)
  have u31 := kn.1
  have hB := th_NR_s hB hB1 u31 n310 (by omega) oq31
  have hIN := th_IN_s hIN u31 oq31
  have nb : ¬ th_MR G Γ9 H31 b31 := fun w => n310 (th_MR_s u31 oq31 w)
  have ho := tc_OBo ho oq31 (by omega)
  have k17xxxx := tm_MAo k17xxx oq31 (of_ne of_b17 of_b31 (by decide))
  have n17xxxx : ¬ th_MR G Γ9 H31 b17 := fun w => n17xxx (th_MR_s u31 oq31 w)
  have k25xx := tm_MAo k25x oq31 (of_ne of_b25 of_b31 (by decide))
  have n25xx : ¬ th_MR G Γ9 H31 b25 := fun w => n25x (th_MR_s u31 oq31 w)
  have lbn : H0.size ≤ b31 := by omega
  have ltn : b31 < H31.size := by omega
  have szn : G.1.2.2 ≤ b31 := by have q9 := hB.1.2.2.2.2.2.1; have q8 := hB.1.2.2.2.2.2.2; omega
  have hs : H31.size = H0.size + 34 := by omega
  refine lv_dup hx hb gX11_init_2.2.1 rfl ?_
  refine th_call (th_runI (As := []) (rest := [.ref b31, .ref a0]) hC mf_X1_init km_X11_26 im_X1_init rfl (c_X1_init_i l G Γ9 H31 hB.1.1 hB.2.1 b31 kn szn ltn nb (by omega)) rfl rfl ⟨Nat.le_of_ble_eq_true rfl, Nat.le_of_ble_eq_true rfl⟩ rfl hl.1 rfl (Nat.le_of_ble_eq_true rfl) gX11_init_2.2.2.1 ⟨Nat.le_of_ble_eq_true rfl, Nat.le_of_ble_eq_true rfl⟩) hB.1.2.1 (fun v35 H35 locs hp hz hS => ?_)
  obtain ⟨rfl, Γ35, hy, hi, hzn⟩ := hp
  have hB := th_NR_c hB hy lbn hS
  have hIN := th_IN_c hIN hy hi
  have ho := tc_OBc ho hy (by omega) (by omega)
  have n17xxxxx : ¬ th_MR G Γ35 H35 b17 := fun w => (hy.2.2.2.1 _ w).elim n17xxxx (fun w => absurd w (by have q9 := (of_lt hz1 hs of_b17 (by decide)); omega))
  have k17xxxxx := tc_MAc k17xxxx hy (of_ne of_b17 of_b31 (by decide))
  have n25xxx : ¬ th_MR G Γ35 H35 b25 := fun w => (hy.2.2.2.1 _ w).elim n25xx (fun w => absurd w (by have q9 := (of_lt hz1 hs of_b25 (by decide)); omega))
  have k25xxx := tc_MAc k25xx hy (of_ne of_b25 of_b31 (by decide))
  have hr_b5x := (hy.1.2.2 b5 (of_lt hz1 hs of_b5 (by decide)) (of_ne of_b5 of_b31 (by decide))).1.trans hr_b5
  have hr_b31 := hy.2.2.1
  have hs : H35.size = H0.size + 41 := by omega
  have hN := th_new_c hN hy
  refine W.eq (g2 := F0 m 38 ls [.ref b31, .ref a0]) rfl ?_
  refine tc_putF hC cf_X11 hB.1 ho (j := 3) (by decide) rfl hnm rfl rfl kf_X11_27 gX11_init_2.2.2.2.1 (fun H38 locs hB1 ho z38 oq38 => ?_)
  have hu := hB.1.2.2.2.2.1
  have hB := th_NR_s hB hB1 hu hB.2.2.1 (by omega) oq38
  have hIN := th_IN_s hIN hu oq38
  have k17xxxxxx := tm_MAo k17xxxxx oq38 (of_n0 of_b17 (by decide))
  have n17xxxxxx : ¬ th_MR G Γ35 H38 b17 := fun w => n17xxxxx (th_MR_s hu oq38 w)
  have k25xxxx := tm_MAo k25xxx oq38 (of_n0 of_b25 (by decide))
  have n25xxxx : ¬ th_MR G Γ35 H38 b25 := fun w => n25xxx (th_MR_s hu oq38 w)
  have hs : H38.size = H0.size + 41 := by omega
  refine lv_aload_n hx hb gX11_init_2.2.2.2.2.1 rfl (lv_at hl 0 rfl) ?_
  refine tc_new hC cf_X1 hB.1 kw_168 kw_37 kw_3 (Nat.le_of_ble_eq_true rfl) (Nat.le_of_ble_eq_true rfl) gX11_init_2.2.2.2.2.2.1 (fun b42 H42 eb42 zb42 oq42 hB1 kn => ?_)
  have of_b42 : b42 = a0 + 42 := by omega
  have n420 : ¬ th_MR G Γ35 H38 b42 := fun w => absurd (th_MR_lt hB.2.1 w) (by omega)
  have u42 := kn.1
  have hB := th_NR_s hB hB1 u42 n420 (by omega) oq42
  have hIN := th_IN_s hIN u42 oq42
  have nb : ¬ th_MR G Γ35 H42 b42 := fun w => n420 (th_MR_s u42 oq42 w)
  have ho := tc_OBo ho oq42 (by omega)
  have k17xxxxxxx := tm_MAo k17xxxxxx oq42 (of_ne of_b17 of_b42 (by decide))
  have n17xxxxxxx : ¬ th_MR G Γ35 H42 b17 := fun w => n17xxxxxx (th_MR_s u42 oq42 w)
  have k25xxxxx := tm_MAo k25xxxx oq42 (of_ne of_b25 of_b42 (by decide))
  have n25xxxxx : ¬ th_MR G Γ35 H42 b25 := fun w => n25xxxx (th_MR_s u42 oq42 w)
  have lbn : H0.size ≤ b42 := by omega
  have ltn : b42 < H42.size := by omega
  have szn : G.1.2.2 ≤ b42 := by have q9 := hB.1.2.2.2.2.2.1; have q8 := hB.1.2.2.2.2.2.2; omega
  have hs : H42.size = H0.size + 42 := by omega
  refine lv_dup hx hb gX11_init_2.2.2.2.2.2.2.1 rfl ?_
  refine th_call (th_runI (As := []) (rest := [.ref b42, .ref a0]) hC mf_X1_init km_X11_26 im_X1_init rfl (c_X1_init_i l G Γ35 H42 hB.1.1 hB.2.1 b42 kn szn ltn nb (by omega)) rfl rfl ⟨Nat.le_of_ble_eq_true rfl, Nat.le_of_ble_eq_true rfl⟩ rfl hl.1 rfl (Nat.le_of_ble_eq_true rfl) gX11_init_2.2.2.2.2.2.2.2 ⟨Nat.le_of_ble_eq_true rfl, Nat.le_of_ble_eq_true rfl⟩) hB.1.2.1 (fun v46 H46 locs hp hz hS => ?_)
  obtain ⟨rfl, Γ46, hy, hi, hzn⟩ := hp
  have hB := th_NR_c hB hy lbn hS
  have hIN := th_IN_c hIN hy hi
  have ho := tc_OBc ho hy (by omega) (by omega)
  have n17xxxxxxxx : ¬ th_MR G Γ46 H46 b17 := fun w => (hy.2.2.2.1 _ w).elim n17xxxxxxx (fun w => absurd w (by have q9 := (of_lt hz1 hs of_b17 (by decide)); omega))
  have k17xxxxxxxx := tc_MAc k17xxxxxxx hy (of_ne of_b17 of_b42 (by decide))
  have n25xxxxxx : ¬ th_MR G Γ46 H46 b25 := fun w => (hy.2.2.2.1 _ w).elim n25xxxxx (fun w => absurd w (by have q9 := (of_lt hz1 hs of_b25 (by decide)); omega))
  have k25xxxxxx := tc_MAc k25xxxxx hy (of_ne of_b25 of_b42 (by decide))
  have hr_b5xx := (hy.1.2.2 b5 (of_lt hz1 hs of_b5 (by decide)) (of_ne of_b5 of_b42 (by decide))).1.trans hr_b5x
  have hr_b31x := (hy.1.2.2 b31 (of_lt hz1 hs of_b31 (by decide)) (of_ne of_b31 of_b42 (by decide))).1.trans hr_b31
  have hr_b42 := hy.2.2.1
  have hs : H46.size = H0.size + 49 := by omega
  have hN := th_new_c hN hy
  refine W.eq (g2 := F0 m 49 ls [.ref b42, .ref a0]) rfl ?_
  refine tc_putF hC cf_X11 hB.1 ho (j := 4) (by decide) rfl hnm rfl rfl kf_X11_31 gX11_init_3.1 (fun H49 locs hB1 ho z49 oq49 => ?_)
  have hu := hB.1.2.2.2.2.1
  have hB := th_NR_s hB hB1 hu hB.2.2.1 (by omega) oq49
  have hIN := th_IN_s hIN hu oq49
  have k17xxxxxxxxx := tm_MAo k17xxxxxxxx oq49 (of_n0 of_b17 (by decide))
  have n17xxxxxxxxx : ¬ th_MR G Γ46 H49 b17 := fun w => n17xxxxxxxx (th_MR_s hu oq49 w)
  have k25xxxxxxx := tm_MAo k25xxxxxx oq49 (of_n0 of_b25 (by decide))
  have n25xxxxxxx : ¬ th_MR G Γ46 H49 b25 := fun w => n25xxxxxx (th_MR_s hu oq49 w)
  have hs : H49.size = H0.size + 49 := by omega
  refine lv_aload_n hx hb gX11_init_3.2.1 rfl (lv_at hl 0 rfl) ?_
  refine tc_new hC cf_X9 hB.1 kw_170 kw_171 kw_5 (Nat.le_of_ble_eq_true rfl) (Nat.le_of_ble_eq_true rfl) gX11_init_3.2.2.1 (fun b53 H53 eb53 zb53 oq53 hB1 kn => ?_)
  have of_b53 : b53 = a0 + 50 := by omega
  have n530 : ¬ th_MR G Γ46 H49 b53 := fun w => absurd (th_MR_lt hB.2.1 w) (by omega)
  have u53 := kn.1
  have hB := th_NR_s hB hB1 u53 n530 (by omega) oq53
  have hIN := th_IN_s hIN u53 oq53
  have nb : ¬ th_MR G Γ46 H53 b53 := fun w => n530 (th_MR_s u53 oq53 w)
  have ho := tc_OBo ho oq53 (by omega)
  have k17xxxxxxxxxx := tm_MAo k17xxxxxxxxx oq53 (of_ne of_b17 of_b53 (by decide))
  have n17xxxxxxxxxx : ¬ th_MR G Γ46 H53 b17 := fun w => n17xxxxxxxxx (th_MR_s u53 oq53 w)
  have k25xxxxxxxx := tm_MAo k25xxxxxxx oq53 (of_ne of_b25 of_b53 (by decide))
  have n25xxxxxxxx : ¬ th_MR G Γ46 H53 b25 := fun w => n25xxxxxxx (th_MR_s u53 oq53 w)
  have lbn : H0.size ≤ b53 := by omega
  have ltn : b53 < H53.size := by omega
  have szn : G.1.2.2 ≤ b53 := by have q9 := hB.1.2.2.2.2.2.1; have q8 := hB.1.2.2.2.2.2.2; omega
  have hs : H53.size = H0.size + 50 := by omega
  refine lv_dup hx hb gX11_init_3.2.2.2.1 rfl ?_
  refine th_call (th_runI (As := []) (rest := [.ref b53, .ref a0]) hC mf_X9_init km_X11_36 im_X9_init rfl (c_X9_init_i l G Γ46 H53 hB.1.1 hB.2.1 b53 kn szn ltn nb (by omega)) rfl rfl ⟨Nat.le_of_ble_eq_true rfl, Nat.le_of_ble_eq_true rfl⟩ rfl hl.1 rfl (Nat.le_of_ble_eq_true rfl) gX11_init_3.2.2.2.2.1 ⟨Nat.le_of_ble_eq_true rfl, Nat.le_of_ble_eq_true rfl⟩) hB.1.2.1 (fun v57 H57 locs hp hz hS => ?_)
  obtain ⟨rfl, Γ57, hy, hi, hzn⟩ := hp
  have hB := th_NR_c hB hy lbn hS
  have hIN := th_IN_c hIN hy hi
  have ho := tc_OBc ho hy (by omega) (by omega)
  have n17xxxxxxxxxxx : ¬ th_MR G Γ57 H57 b17 := fun w => (hy.2.2.2.1 _ w).elim n17xxxxxxxxxx (fun w => absurd w (by have q9 := (of_lt hz1 hs of_b17 (by decide)); omega))
  have k17xxxxxxxxxxx := tc_MAc k17xxxxxxxxxx hy (of_ne of_b17 of_b53 (by decide))
  have n25xxxxxxxxx : ¬ th_MR G Γ57 H57 b25 := fun w => (hy.2.2.2.1 _ w).elim n25xxxxxxxx (fun w => absurd w (by have q9 := (of_lt hz1 hs of_b25 (by decide)); omega))
  have k25xxxxxxxxx := tc_MAc k25xxxxxxxx hy (of_ne of_b25 of_b53 (by decide))
  have hr_b5xxx := (hy.1.2.2 b5 (of_lt hz1 hs of_b5 (by decide)) (of_ne of_b5 of_b53 (by decide))).1.trans hr_b5xx
  have hr_b31xx := (hy.1.2.2 b31 (of_lt hz1 hs of_b31 (by decide)) (of_ne of_b31 of_b53 (by decide))).1.trans hr_b31x
  have hr_b42x := (hy.1.2.2 b42 (of_lt hz1 hs of_b42 (by decide)) (of_ne of_b42 of_b53 (by decide))).1.trans hr_b42
  have hr_b53 := hy.2.2.1
  have hs : H57.size = H0.size + 51 := by omega
  have hN := th_new_c hN hy
  refine W.eq (g2 := F0 m 60 ls [.ref b53, .ref a0]) rfl ?_
  refine tc_putF hC cf_X11 hB.1 ho (j := 5) (by decide) rfl hnm rfl rfl kf_X11_37 gX11_init_3.2.2.2.2.2.1 (fun H60 locs hB1 ho z60 oq60 => ?_)
  have hu := hB.1.2.2.2.2.1
  have hB := th_NR_s hB hB1 hu hB.2.2.1 (by omega) oq60
  have hIN := th_IN_s hIN hu oq60
  have k17xxxxxxxxxxxx := tm_MAo k17xxxxxxxxxxx oq60 (of_n0 of_b17 (by decide))
  have n17xxxxxxxxxxxx : ¬ th_MR G Γ57 H60 b17 := fun w => n17xxxxxxxxxxx (th_MR_s hu oq60 w)
  have k25xxxxxxxxxx := tm_MAo k25xxxxxxxxx oq60 (of_n0 of_b25 (by decide))
  have n25xxxxxxxxxx : ¬ th_MR G Γ57 H60 b25 := fun w => n25xxxxxxxxx (th_MR_s hu oq60 w)
  have hs : H60.size = H0.size + 51 := by omega
  refine lv_aload_n hx hb gX11_init_3.2.2.2.2.2.2.1 rfl (lv_at hl 0 rfl) ?_
  refine tc_new hC cf_X5 hB.1 kw_188 kw_189 kw_6 (Nat.le_of_ble_eq_true rfl) (Nat.le_of_ble_eq_true rfl) gX11_init_3.2.2.2.2.2.2.2 (fun b64 H64 eb64 zb64 oq64 hB1 kn => ?_)
  have of_b64 : b64 = a0 + 52 := by omega
  have n640 : ¬ th_MR G Γ57 H60 b64 := fun w => absurd (th_MR_lt hB.2.1 w) (by omega)
  have u64 := kn.1
  have hB := th_NR_s hB hB1 u64 n640 (by omega) oq64
  have hIN := th_IN_s hIN u64 oq64
  have nb : ¬ th_MR G Γ57 H64 b64 := fun w => n640 (th_MR_s u64 oq64 w)
  have ho := tc_OBo ho oq64 (by omega)
  have k17xxxxxxxxxxxxx := tm_MAo k17xxxxxxxxxxxx oq64 (of_ne of_b17 of_b64 (by decide))
  have n17xxxxxxxxxxxxx : ¬ th_MR G Γ57 H64 b17 := fun w => n17xxxxxxxxxxxx (th_MR_s u64 oq64 w)
  have k25xxxxxxxxxxx := tm_MAo k25xxxxxxxxxx oq64 (of_ne of_b25 of_b64 (by decide))
  have n25xxxxxxxxxxx : ¬ th_MR G Γ57 H64 b25 := fun w => n25xxxxxxxxxx (th_MR_s u64 oq64 w)
  have lbn : H0.size ≤ b64 := by omega
  have ltn : b64 < H64.size := by omega
  have szn : G.1.2.2 ≤ b64 := by have q9 := hB.1.2.2.2.2.2.1; have q8 := hB.1.2.2.2.2.2.2; omega
  have hs : H64.size = H0.size + 52 := by omega
  refine lv_dup hx hb gX11_init_4.1 rfl ?_
  refine th_call (th_runI (As := []) (rest := [.ref b64, .ref a0]) hC mf_X5_init km_X11_43 im_X5_init rfl (c_X5_init_i l G Γ57 H64 hB.1.1 hB.2.1 b64 kn szn ltn nb (by omega)) rfl rfl ⟨Nat.le_of_ble_eq_true rfl, Nat.le_of_ble_eq_true rfl⟩ rfl hl.1 rfl (Nat.le_of_ble_eq_true rfl) gX11_init_4.2.1 ⟨Nat.le_of_ble_eq_true rfl, Nat.le_of_ble_eq_true rfl⟩) hB.1.2.1 (fun v68 H68 locs hp hz hS => ?_)
  obtain ⟨rfl, Γ68, hy, hi, hzn⟩ := hp
  have hB := th_NR_c hB hy lbn hS
  have hIN := th_IN_c hIN hy hi
  have ho := tc_OBc ho hy (by omega) (by omega)
  have n17xxxxxxxxxxxxxx : ¬ th_MR G Γ68 H68 b17 := fun w => (hy.2.2.2.1 _ w).elim n17xxxxxxxxxxxxx (fun w => absurd w (by have q9 := (of_lt hz1 hs of_b17 (by decide)); omega))
  have k17xxxxxxxxxxxxxx := tc_MAc k17xxxxxxxxxxxxx hy (of_ne of_b17 of_b64 (by decide))
  have n25xxxxxxxxxxxx : ¬ th_MR G Γ68 H68 b25 := fun w => (hy.2.2.2.1 _ w).elim n25xxxxxxxxxxx (fun w => absurd w (by have q9 := (of_lt hz1 hs of_b25 (by decide)); omega))
  have k25xxxxxxxxxxxx := tc_MAc k25xxxxxxxxxxx hy (of_ne of_b25 of_b64 (by decide))
  have hr_b5xxxx := (hy.1.2.2 b5 (of_lt hz1 hs of_b5 (by decide)) (of_ne of_b5 of_b64 (by decide))).1.trans hr_b5xxx
  have hr_b31xxx := (hy.1.2.2 b31 (of_lt hz1 hs of_b31 (by decide)) (of_ne of_b31 of_b64 (by decide))).1.trans hr_b31xx
  have hr_b42xx := (hy.1.2.2 b42 (of_lt hz1 hs of_b42 (by decide)) (of_ne of_b42 of_b64 (by decide))).1.trans hr_b42x
  have hr_b53x := (hy.1.2.2 b53 (of_lt hz1 hs of_b53 (by decide)) (of_ne of_b53 of_b64 (by decide))).1.trans hr_b53
  have hr_b64 := hy.2.2.1
  have hs : H68.size = H0.size + 54 := by omega
  have hN := th_new_c hN hy
  refine W.eq (g2 := F0 m 71 ls [.ref b64, .ref a0]) rfl ?_
  refine tc_putF hC cf_X11 hB.1 ho (j := 6) (by decide) rfl hnm rfl rfl kf_X11_44 gX11_init_4.2.2.1 (fun H71 locs hB1 ho z71 oq71 => ?_)
  have hu := hB.1.2.2.2.2.1
  have hB := th_NR_s hB hB1 hu hB.2.2.1 (by omega) oq71
  have hIN := th_IN_s hIN hu oq71
  have k17xxxxxxxxxxxxxxx := tm_MAo k17xxxxxxxxxxxxxx oq71 (of_n0 of_b17 (by decide))
  have n17xxxxxxxxxxxxxxx : ¬ th_MR G Γ68 H71 b17 := fun w => n17xxxxxxxxxxxxxx (th_MR_s hu oq71 w)
  have k25xxxxxxxxxxxxx := tm_MAo k25xxxxxxxxxxxx oq71 (of_n0 of_b25 (by decide))
  have n25xxxxxxxxxxxxx : ¬ th_MR G Γ68 H71 b25 := fun w => n25xxxxxxxxxxxx (th_MR_s hu oq71 w)
  have hs : H71.size = H0.size + 54 := by omega
  refine lv_aload_n hx hb gX11_init_4.2.2.2.1 rfl (lv_at hl 0 rfl) ?_
  refine tc_new hC cf_X10 hB.1 kw_222 kw_107 kw_4 (Nat.le_of_ble_eq_true rfl) (Nat.le_of_ble_eq_true rfl) gX11_init_4.2.2.2.2.1 (fun b75 H75 eb75 zb75 oq75 hB1 kn => ?_)
  have of_b75 : b75 = a0 + 55 := by omega
  have n750 : ¬ th_MR G Γ68 H71 b75 := fun w => absurd (th_MR_lt hB.2.1 w) (by omega)
  have u75 := kn.1
  have hB := th_NR_s hB hB1 u75 n750 (by omega) oq75
  have hIN := th_IN_s hIN u75 oq75
  have nb : ¬ th_MR G Γ68 H75 b75 := fun w => n750 (th_MR_s u75 oq75 w)
  have ho := tc_OBo ho oq75 (by omega)
  have k17xxxxxxxxxxxxxxxx := tm_MAo k17xxxxxxxxxxxxxxx oq75 (of_ne of_b17 of_b75 (by decide))
  have n17xxxxxxxxxxxxxxxx : ¬ th_MR G Γ68 H75 b17 := fun w => n17xxxxxxxxxxxxxxx (th_MR_s u75 oq75 w)
  have k25xxxxxxxxxxxxxx := tm_MAo k25xxxxxxxxxxxxx oq75 (of_ne of_b25 of_b75 (by decide))
  have n25xxxxxxxxxxxxxx : ¬ th_MR G Γ68 H75 b25 := fun w => n25xxxxxxxxxxxxx (th_MR_s u75 oq75 w)
  have lbn : H0.size ≤ b75 := by omega
  have ltn : b75 < H75.size := by omega
  have szn : G.1.2.2 ≤ b75 := by have q9 := hB.1.2.2.2.2.2.1; have q8 := hB.1.2.2.2.2.2.2; omega
  have hs : H75.size = H0.size + 55 := by omega
  refine lv_dup hx hb gX11_init_4.2.2.2.2.2.1 rfl ?_
  refine th_call (th_runI (As := []) (rest := [.ref b75, .ref a0]) hC mf_X10_init km_X11_50 im_X10_init rfl (c_X10_init_i l G Γ68 H75 hB.1.1 hB.2.1 b75 kn szn ltn nb (by omega)) rfl rfl ⟨Nat.le_of_ble_eq_true rfl, Nat.le_of_ble_eq_true rfl⟩ rfl hl.1 rfl (Nat.le_of_ble_eq_true rfl) gX11_init_4.2.2.2.2.2.2.1 ⟨Nat.le_of_ble_eq_true rfl, Nat.le_of_ble_eq_true rfl⟩) hB.1.2.1 (fun v79 H79 locs hp hz hS => ?_)
  obtain ⟨rfl, Γ79, hy, hi, hzn⟩ := hp
  have hB := th_NR_c hB hy lbn hS
  have hIN := th_IN_c hIN hy hi
  have ho := tc_OBc ho hy (by omega) (by omega)
  have n17xxxxxxxxxxxxxxxxx : ¬ th_MR G Γ79 H79 b17 := fun w => (hy.2.2.2.1 _ w).elim n17xxxxxxxxxxxxxxxx (fun w => absurd w (by have q9 := (of_lt hz1 hs of_b17 (by decide)); omega))
  have k17xxxxxxxxxxxxxxxxx := tc_MAc k17xxxxxxxxxxxxxxxx hy (of_ne of_b17 of_b75 (by decide))
  have n25xxxxxxxxxxxxxxx : ¬ th_MR G Γ79 H79 b25 := fun w => (hy.2.2.2.1 _ w).elim n25xxxxxxxxxxxxxx (fun w => absurd w (by have q9 := (of_lt hz1 hs of_b25 (by decide)); omega))
  have k25xxxxxxxxxxxxxxx := tc_MAc k25xxxxxxxxxxxxxx hy (of_ne of_b25 of_b75 (by decide))
  have hr_b5xxxxx := (hy.1.2.2 b5 (of_lt hz1 hs of_b5 (by decide)) (of_ne of_b5 of_b75 (by decide))).1.trans hr_b5xxxx
  have hr_b31xxxx := (hy.1.2.2 b31 (of_lt hz1 hs of_b31 (by decide)) (of_ne of_b31 of_b75 (by decide))).1.trans hr_b31xxx
  have hr_b42xxx := (hy.1.2.2 b42 (of_lt hz1 hs of_b42 (by decide)) (of_ne of_b42 of_b75 (by decide))).1.trans hr_b42xx
  have hr_b53xx := (hy.1.2.2 b53 (of_lt hz1 hs of_b53 (by decide)) (of_ne of_b53 of_b75 (by decide))).1.trans hr_b53x
  have hr_b64x := (hy.1.2.2 b64 (of_lt hz1 hs of_b64 (by decide)) (of_ne of_b64 of_b75 (by decide))).1.trans hr_b64
  have hr_b75 := hy.2.2.1
  have hs : H79.size = H0.size + 57 := by omega
  have hN := th_new_c hN hy
  refine W.eq (g2 := F0 m 82 ls [.ref b75, .ref a0]) rfl ?_
  refine tc_putF hC cf_X11 hB.1 ho (j := 7) (by decide) rfl hnm rfl rfl kf_X11_51 gX11_init_4.2.2.2.2.2.2.2 (fun H82 locs hB1 ho z82 oq82 => ?_)
  have hu := hB.1.2.2.2.2.1
  have hB := th_NR_s hB hB1 hu hB.2.2.1 (by omega) oq82
  have hIN := th_IN_s hIN hu oq82
  have k17xxxxxxxxxxxxxxxxxx := tm_MAo k17xxxxxxxxxxxxxxxxx oq82 (of_n0 of_b17 (by decide))
  have n17xxxxxxxxxxxxxxxxxx : ¬ th_MR G Γ79 H82 b17 := fun w => n17xxxxxxxxxxxxxxxxx (th_MR_s hu oq82 w)
  have k25xxxxxxxxxxxxxxxx := tm_MAo k25xxxxxxxxxxxxxxx oq82 (of_n0 of_b25 (by decide))
  have n25xxxxxxxxxxxxxxxx : ¬ th_MR G Γ79 H82 b25 := fun w => n25xxxxxxxxxxxxxxx (th_MR_s hu oq82 w)
  have hs : H82.size = H0.size + 57 := by omega
  refine lv_aload_n hx hb gX11_init_5.1 rfl (lv_at hl 0 rfl) ?_
  refine tc_new hC cf_X6 hB.1 kw_224 kw_225 kw_7 (Nat.le_of_ble_eq_true rfl) (Nat.le_of_ble_eq_true rfl) gX11_init_5.2.1 (fun b86 H86 eb86 zb86 oq86 hB1 kn => ?_)
  have of_b86 : b86 = a0 + 58 := by omega
  have n860 : ¬ th_MR G Γ79 H82 b86 := fun w => absurd (th_MR_lt hB.2.1 w) (by omega)
  have u86 := kn.1
  have hB := th_NR_s hB hB1 u86 n860 (by omega) oq86
  have hIN := th_IN_s hIN u86 oq86
  have nb : ¬ th_MR G Γ79 H86 b86 := fun w => n860 (th_MR_s u86 oq86 w)
  have ho := tc_OBo ho oq86 (by omega)
  have k17xxxxxxxxxxxxxxxxxxx := tm_MAo k17xxxxxxxxxxxxxxxxxx oq86 (of_ne of_b17 of_b86 (by decide))
  have n17xxxxxxxxxxxxxxxxxxx : ¬ th_MR G Γ79 H86 b17 := fun w => n17xxxxxxxxxxxxxxxxxx (th_MR_s u86 oq86 w)
  have k25xxxxxxxxxxxxxxxxx := tm_MAo k25xxxxxxxxxxxxxxxx oq86 (of_ne of_b25 of_b86 (by decide))
  have n25xxxxxxxxxxxxxxxxx : ¬ th_MR G Γ79 H86 b25 := fun w => n25xxxxxxxxxxxxxxxx (th_MR_s u86 oq86 w)
  have lbn : H0.size ≤ b86 := by omega
  have ltn : b86 < H86.size := by omega
  have szn : G.1.2.2 ≤ b86 := by have q9 := hB.1.2.2.2.2.2.1; have q8 := hB.1.2.2.2.2.2.2; omega
  have hs : H86.size = H0.size + 58 := by omega
  refine lv_dup hx hb gX11_init_5.2.2.1 rfl ?_
  refine th_call (th_runI (As := []) (rest := [.ref b86, .ref a0]) hC mf_X6_init km_X11_57 im_X6_init rfl (c_X6_init_i l G Γ79 H86 hB.1.1 hB.2.1 b86 kn szn ltn nb (by omega)) rfl rfl ⟨Nat.le_of_ble_eq_true rfl, Nat.le_of_ble_eq_true rfl⟩ rfl hl.1 rfl (Nat.le_of_ble_eq_true rfl) gX11_init_5.2.2.2.1 ⟨Nat.le_of_ble_eq_true rfl, Nat.le_of_ble_eq_true rfl⟩) hB.1.2.1 (fun v90 H90 locs hp hz hS => ?_)
  obtain ⟨rfl, Γ90, hy, hi, hzn⟩ := hp
  have hB := th_NR_c hB hy lbn hS
  have hIN := th_IN_c hIN hy hi
  have ho := tc_OBc ho hy (by omega) (by omega)
  have n17xxxxxxxxxxxxxxxxxxxx : ¬ th_MR G Γ90 H90 b17 := fun w => (hy.2.2.2.1 _ w).elim n17xxxxxxxxxxxxxxxxxxx (fun w => absurd w (by have q9 := (of_lt hz1 hs of_b17 (by decide)); omega))
  have k17xxxxxxxxxxxxxxxxxxxx := tc_MAc k17xxxxxxxxxxxxxxxxxxx hy (of_ne of_b17 of_b86 (by decide))
  have n25xxxxxxxxxxxxxxxxxx : ¬ th_MR G Γ90 H90 b25 := fun w => (hy.2.2.2.1 _ w).elim n25xxxxxxxxxxxxxxxxx (fun w => absurd w (by have q9 := (of_lt hz1 hs of_b25 (by decide)); omega))
  have k25xxxxxxxxxxxxxxxxxx := tc_MAc k25xxxxxxxxxxxxxxxxx hy (of_ne of_b25 of_b86 (by decide))
  have hr_b5xxxxxx := (hy.1.2.2 b5 (of_lt hz1 hs of_b5 (by decide)) (of_ne of_b5 of_b86 (by decide))).1.trans hr_b5xxxxx
  have hr_b31xxxxx := (hy.1.2.2 b31 (of_lt hz1 hs of_b31 (by decide)) (of_ne of_b31 of_b86 (by decide))).1.trans hr_b31xxxx
  have hr_b42xxxx := (hy.1.2.2 b42 (of_lt hz1 hs of_b42 (by decide)) (of_ne of_b42 of_b86 (by decide))).1.trans hr_b42xxx
  have hr_b53xxx := (hy.1.2.2 b53 (of_lt hz1 hs of_b53 (by decide)) (of_ne of_b53 of_b86 (by decide))).1.trans hr_b53xx
  have hr_b64xx := (hy.1.2.2 b64 (of_lt hz1 hs of_b64 (by decide)) (of_ne of_b64 of_b86 (by decide))).1.trans hr_b64x
  have hr_b75x := (hy.1.2.2 b75 (of_lt hz1 hs of_b75 (by decide)) (of_ne of_b75 of_b86 (by decide))).1.trans hr_b75
  have hr_b86 := hy.2.2.1
  have hs : H90.size = H0.size + 61 := by omega
  have hN := th_new_c hN hy
  refine W.eq (g2 := F0 m 93 ls [.ref b86, .ref a0]) rfl ?_
  refine tc_putF hC cf_X11 hB.1 ho (j := 8) (by decide) rfl hnm rfl rfl kf_X11_58 gX11_init_5.2.2.2.2.1 (fun H93 locs hB1 ho z93 oq93 => ?_)
  have hu := hB.1.2.2.2.2.1
  have hB := th_NR_s hB hB1 hu hB.2.2.1 (by omega) oq93
  have hIN := th_IN_s hIN hu oq93
  have k17xxxxxxxxxxxxxxxxxxxxx := tm_MAo k17xxxxxxxxxxxxxxxxxxxx oq93 (of_n0 of_b17 (by decide))
  have n17xxxxxxxxxxxxxxxxxxxxx : ¬ th_MR G Γ90 H93 b17 := fun w => n17xxxxxxxxxxxxxxxxxxxx (th_MR_s hu oq93 w)
  have k25xxxxxxxxxxxxxxxxxxx := tm_MAo k25xxxxxxxxxxxxxxxxxx oq93 (of_n0 of_b25 (by decide))
  have n25xxxxxxxxxxxxxxxxxxx : ¬ th_MR G Γ90 H93 b25 := fun w => n25xxxxxxxxxxxxxxxxxx (th_MR_s hu oq93 w)
  have hs : H93.size = H0.size + 61 := by omega
  refine lv_aload_n hx hb gX11_init_5.2.2.2.2.2.1 rfl (lv_at hl 0 rfl) ?_
  refine tc_new hC cf_X2 hB.1 kw_247 kw_248 kw_8 (Nat.le_of_ble_eq_true rfl) (Nat.le_of_ble_eq_true rfl) gX11_init_5.2.2.2.2.2.2.1 (fun b97 H97 eb97 zb97 oq97 hB1 kn => ?_)
  have of_b97 : b97 = a0 + 62 := by omega
  have n970 : ¬ th_MR G Γ90 H93 b97 := fun w => absurd (th_MR_lt hB.2.1 w) (by omega)
  have u97 := kn.1
  have hB := th_NR_s hB hB1 u97 n970 (by omega) oq97
  have hIN := th_IN_s hIN u97 oq97
  have nb : ¬ th_MR G Γ90 H97 b97 := fun w => n970 (th_MR_s u97 oq97 w)
  have ho := tc_OBo ho oq97 (by omega)
  have k17xxxxxxxxxxxxxxxxxxxxxx := tm_MAo k17xxxxxxxxxxxxxxxxxxxxx oq97 (of_ne of_b17 of_b97 (by decide))
  have n17xxxxxxxxxxxxxxxxxxxxxx : ¬ th_MR G Γ90 H97 b17 := fun w => n17xxxxxxxxxxxxxxxxxxxxx (th_MR_s u97 oq97 w)
  have k25xxxxxxxxxxxxxxxxxxxx := tm_MAo k25xxxxxxxxxxxxxxxxxxx oq97 (of_ne of_b25 of_b97 (by decide))
  have n25xxxxxxxxxxxxxxxxxxxx : ¬ th_MR G Γ90 H97 b25 := fun w => n25xxxxxxxxxxxxxxxxxxx (th_MR_s u97 oq97 w)
  have lbn : H0.size ≤ b97 := by omega
  have ltn : b97 < H97.size := by omega
  have szn : G.1.2.2 ≤ b97 := by have q9 := hB.1.2.2.2.2.2.1; have q8 := hB.1.2.2.2.2.2.2; omega
  have hs : H97.size = H0.size + 62 := by omega
  refine lv_dup hx hb gX11_init_5.2.2.2.2.2.2.2 rfl ?_
  refine th_call (th_runI (As := []) (rest := [.ref b97, .ref a0]) hC mf_X2_init km_X11_64 im_X2_init rfl (c_X2_init_i l G Γ90 H97 hB.1.1 hB.2.1 b97 kn szn ltn nb (by omega)) rfl rfl ⟨Nat.le_of_ble_eq_true rfl, Nat.le_of_ble_eq_true rfl⟩ rfl hl.1 rfl (Nat.le_of_ble_eq_true rfl) gX11_init_6.1 ⟨Nat.le_of_ble_eq_true rfl, Nat.le_of_ble_eq_true rfl⟩) hB.1.2.1 (fun v101 H101 locs hp hz hS => ?_)
  obtain ⟨rfl, Γ101, hy, hi, hzn⟩ := hp
  have hB := th_NR_c hB hy lbn hS
  have hIN := th_IN_c hIN hy hi
  have ho := tc_OBc ho hy (by omega) (by omega)
  have n17xxxxxxxxxxxxxxxxxxxxxxx : ¬ th_MR G Γ101 H101 b17 := fun w => (hy.2.2.2.1 _ w).elim n17xxxxxxxxxxxxxxxxxxxxxx (fun w => absurd w (by have q9 := (of_lt hz1 hs of_b17 (by decide)); omega))
  have k17xxxxxxxxxxxxxxxxxxxxxxx := tc_MAc k17xxxxxxxxxxxxxxxxxxxxxx hy (of_ne of_b17 of_b97 (by decide))
  have n25xxxxxxxxxxxxxxxxxxxxx : ¬ th_MR G Γ101 H101 b25 := fun w => (hy.2.2.2.1 _ w).elim n25xxxxxxxxxxxxxxxxxxxx (fun w => absurd w (by have q9 := (of_lt hz1 hs of_b25 (by decide)); omega))
  have k25xxxxxxxxxxxxxxxxxxxxx := tc_MAc k25xxxxxxxxxxxxxxxxxxxx hy (of_ne of_b25 of_b97 (by decide))
  have hr_b5xxxxxxx := (hy.1.2.2 b5 (of_lt hz1 hs of_b5 (by decide)) (of_ne of_b5 of_b97 (by decide))).1.trans hr_b5xxxxxx
  have hr_b31xxxxxx := (hy.1.2.2 b31 (of_lt hz1 hs of_b31 (by decide)) (of_ne of_b31 of_b97 (by decide))).1.trans hr_b31xxxxx
  have hr_b42xxxxx := (hy.1.2.2 b42 (of_lt hz1 hs of_b42 (by decide)) (of_ne of_b42 of_b97 (by decide))).1.trans hr_b42xxxx
  have hr_b53xxxx := (hy.1.2.2 b53 (of_lt hz1 hs of_b53 (by decide)) (of_ne of_b53 of_b97 (by decide))).1.trans hr_b53xxx
  have hr_b64xxx := (hy.1.2.2 b64 (of_lt hz1 hs of_b64 (by decide)) (of_ne of_b64 of_b97 (by decide))).1.trans hr_b64xx
  have hr_b75xx := (hy.1.2.2 b75 (of_lt hz1 hs of_b75 (by decide)) (of_ne of_b75 of_b97 (by decide))).1.trans hr_b75x
  have hr_b86x := (hy.1.2.2 b86 (of_lt hz1 hs of_b86 (by decide)) (of_ne of_b86 of_b97 (by decide))).1.trans hr_b86
  have hr_b97 := hy.2.2.1
  have hs : H101.size = H0.size + 66 := by omega
  have hN := th_new_c hN hy
  refine W.eq (g2 := F0 m 104 ls [.ref b97, .ref a0]) rfl ?_
  refine tc_putF hC cf_X11 hB.1 ho (j := 9) (by decide) rfl hnm rfl rfl kf_X11_65 gX11_init_6.2.1 (fun H104 locs hB1 ho z104 oq104 => ?_)
  have hu := hB.1.2.2.2.2.1
  have hB := th_NR_s hB hB1 hu hB.2.2.1 (by omega) oq104
  have hIN := th_IN_s hIN hu oq104
  have k17xxxxxxxxxxxxxxxxxxxxxxxx := tm_MAo k17xxxxxxxxxxxxxxxxxxxxxxx oq104 (of_n0 of_b17 (by decide))
  have n17xxxxxxxxxxxxxxxxxxxxxxxx : ¬ th_MR G Γ101 H104 b17 := fun w => n17xxxxxxxxxxxxxxxxxxxxxxx (th_MR_s hu oq104 w)
  have k25xxxxxxxxxxxxxxxxxxxxxx := tm_MAo k25xxxxxxxxxxxxxxxxxxxxx oq104 (of_n0 of_b25 (by decide))
  have n25xxxxxxxxxxxxxxxxxxxxxx : ¬ th_MR G Γ101 H104 b25 := fun w => n25xxxxxxxxxxxxxxxxxxxxx (th_MR_s hu oq104 w)
  have hs : H104.size = H0.size + 66 := by omega
  refine lv_aload_n hx hb gX11_init_6.2.2.1 rfl (lv_at hl 0 rfl) ?_
  refine tc_new hC cf_X4 hB.1 kw_259 kw_260 kw_9 (Nat.le_of_ble_eq_true rfl) (Nat.le_of_ble_eq_true rfl) gX11_init_6.2.2.2.1 (fun b108 H108 eb108 zb108 oq108 hB1 kn => ?_)
  have of_b108 : b108 = a0 + 67 := by omega
  have n1080 : ¬ th_MR G Γ101 H104 b108 := fun w => absurd (th_MR_lt hB.2.1 w) (by omega)
  have u108 := kn.1
  have hB := th_NR_s hB hB1 u108 n1080 (by omega) oq108
  have hIN := th_IN_s hIN u108 oq108
  have nb : ¬ th_MR G Γ101 H108 b108 := fun w => n1080 (th_MR_s u108 oq108 w)
  have ho := tc_OBo ho oq108 (by omega)
  have k17xxxxxxxxxxxxxxxxxxxxxxxxx := tm_MAo k17xxxxxxxxxxxxxxxxxxxxxxxx oq108 (of_ne of_b17 of_b108 (by decide))
  have n17xxxxxxxxxxxxxxxxxxxxxxxxx : ¬ th_MR G Γ101 H108 b17 := fun w => n17xxxxxxxxxxxxxxxxxxxxxxxx (th_MR_s u108 oq108 w)
  have k25xxxxxxxxxxxxxxxxxxxxxxx := tm_MAo k25xxxxxxxxxxxxxxxxxxxxxx oq108 (of_ne of_b25 of_b108 (by decide))
  have n25xxxxxxxxxxxxxxxxxxxxxxx : ¬ th_MR G Γ101 H108 b25 := fun w => n25xxxxxxxxxxxxxxxxxxxxxx (th_MR_s u108 oq108 w)
  have lbn : H0.size ≤ b108 := by omega
  have ltn : b108 < H108.size := by omega
  have szn : G.1.2.2 ≤ b108 := by have q9 := hB.1.2.2.2.2.2.1; have q8 := hB.1.2.2.2.2.2.2; omega
  have hs : H108.size = H0.size + 67 := by omega
  refine lv_dup hx hb gX11_init_6.2.2.2.2.1 rfl ?_
  refine th_call (th_runI (As := []) (rest := [.ref b108, .ref a0]) hC mf_X4_init km_X11_71 im_X4_init rfl (c_X4_init_i l G Γ101 H108 hB.1.1 hB.2.1 b108 kn szn ltn nb (by omega)) rfl rfl ⟨Nat.le_of_ble_eq_true rfl, Nat.le_of_ble_eq_true rfl⟩ rfl hl.1 rfl (Nat.le_of_ble_eq_true rfl) gX11_init_6.2.2.2.2.2.1 ⟨Nat.le_of_ble_eq_true rfl, Nat.le_of_ble_eq_true rfl⟩) hB.1.2.1 (fun v112 H112 locs hp hz hS => ?_)
  obtain ⟨rfl, Γ112, hy, hi, hzn⟩ := hp
  have hB := th_NR_c hB hy lbn hS
  have hIN := th_IN_c hIN hy hi
  have ho := tc_OBc ho hy (by omega) (by omega)
  have n17xxxxxxxxxxxxxxxxxxxxxxxxxx : ¬ th_MR G Γ112 H112 b17 := fun w => (hy.2.2.2.1 _ w).elim n17xxxxxxxxxxxxxxxxxxxxxxxxx (fun w => absurd w (by have q9 := (of_lt hz1 hs of_b17 (by decide)); omega))
  have k17xxxxxxxxxxxxxxxxxxxxxxxxxx := tc_MAc k17xxxxxxxxxxxxxxxxxxxxxxxxx hy (of_ne of_b17 of_b108 (by decide))
  have n25xxxxxxxxxxxxxxxxxxxxxxxx : ¬ th_MR G Γ112 H112 b25 := fun w => (hy.2.2.2.1 _ w).elim n25xxxxxxxxxxxxxxxxxxxxxxx (fun w => absurd w (by have q9 := (of_lt hz1 hs of_b25 (by decide)); omega))
  have k25xxxxxxxxxxxxxxxxxxxxxxxx := tc_MAc k25xxxxxxxxxxxxxxxxxxxxxxx hy (of_ne of_b25 of_b108 (by decide))
  have hr_b5xxxxxxxx := (hy.1.2.2 b5 (of_lt hz1 hs of_b5 (by decide)) (of_ne of_b5 of_b108 (by decide))).1.trans hr_b5xxxxxxx
  have hr_b31xxxxxxx := (hy.1.2.2 b31 (of_lt hz1 hs of_b31 (by decide)) (of_ne of_b31 of_b108 (by decide))).1.trans hr_b31xxxxxx
  have hr_b42xxxxxx := (hy.1.2.2 b42 (of_lt hz1 hs of_b42 (by decide)) (of_ne of_b42 of_b108 (by decide))).1.trans hr_b42xxxxx
  have hr_b53xxxxx := (hy.1.2.2 b53 (of_lt hz1 hs of_b53 (by decide)) (of_ne of_b53 of_b108 (by decide))).1.trans hr_b53xxxx
  have hr_b64xxxx := (hy.1.2.2 b64 (of_lt hz1 hs of_b64 (by decide)) (of_ne of_b64 of_b108 (by decide))).1.trans hr_b64xxx
  have hr_b75xxx := (hy.1.2.2 b75 (of_lt hz1 hs of_b75 (by decide)) (of_ne of_b75 of_b108 (by decide))).1.trans hr_b75xx
  have hr_b86xx := (hy.1.2.2 b86 (of_lt hz1 hs of_b86 (by decide)) (of_ne of_b86 of_b108 (by decide))).1.trans hr_b86x
  have hr_b97x := (hy.1.2.2 b97 (of_lt hz1 hs of_b97 (by decide)) (of_ne of_b97 of_b108 (by decide))).1.trans hr_b97
  have hr_b108 := hy.2.2.1
  have hs : H112.size = H0.size + 77 := by omega
  have hN := th_new_c hN hy
  refine W.eq (g2 := F0 m 115 ls [.ref b108, .ref a0]) rfl ?_
  refine tc_putF hC cf_X11 hB.1 ho (j := 10) (by decide) rfl hnm rfl rfl kf_X11_72 gX11_init_6.2.2.2.2.2.2.1 (fun H115 locs hB1 ho z115 oq115 => ?_)
  have hu := hB.1.2.2.2.2.1
  have hB := th_NR_s hB hB1 hu hB.2.2.1 (by omega) oq115
  have hIN := th_IN_s hIN hu oq115
  have k17xxxxxxxxxxxxxxxxxxxxxxxxxxx := tm_MAo k17xxxxxxxxxxxxxxxxxxxxxxxxxx oq115 (of_n0 of_b17 (by decide))
  have n17xxxxxxxxxxxxxxxxxxxxxxxxxxx : ¬ th_MR G Γ112 H115 b17 := fun w => n17xxxxxxxxxxxxxxxxxxxxxxxxxx (th_MR_s hu oq115 w)
  have k25xxxxxxxxxxxxxxxxxxxxxxxxx := tm_MAo k25xxxxxxxxxxxxxxxxxxxxxxxx oq115 (of_n0 of_b25 (by decide))
  have n25xxxxxxxxxxxxxxxxxxxxxxxxx : ¬ th_MR G Γ112 H115 b25 := fun w => n25xxxxxxxxxxxxxxxxxxxxxxxx (th_MR_s hu oq115 w)
  have hs : H115.size = H0.size + 77 := by omega
  refine lv_aload_n hx hb gX11_init_6.2.2.2.2.2.2.2 rfl (lv_at hl 0 rfl) ?_
  refine tc_new hC cf_X7 hB.1 kw_284 kw_285 kw_10 (Nat.le_of_ble_eq_true rfl) (Nat.le_of_ble_eq_true rfl) gX11_init_7.1 (fun b119 H119 eb119 zb119 oq119 hB1 kn => ?_)
  have of_b119 : b119 = a0 + 78 := by omega
  have n1190 : ¬ th_MR G Γ112 H115 b119 := fun w => absurd (th_MR_lt hB.2.1 w) (by omega)
  have u119 := kn.1
  have hB := th_NR_s hB hB1 u119 n1190 (by omega) oq119
  have hIN := th_IN_s hIN u119 oq119
  have nb : ¬ th_MR G Γ112 H119 b119 := fun w => n1190 (th_MR_s u119 oq119 w)
  have ho := tc_OBo ho oq119 (by omega)
  have k17xxxxxxxxxxxxxxxxxxxxxxxxxxxx := tm_MAo k17xxxxxxxxxxxxxxxxxxxxxxxxxxx oq119 (of_ne of_b17 of_b119 (by decide))
  have n17xxxxxxxxxxxxxxxxxxxxxxxxxxxx : ¬ th_MR G Γ112 H119 b17 := fun w => n17xxxxxxxxxxxxxxxxxxxxxxxxxxx (th_MR_s u119 oq119 w)
  have k25xxxxxxxxxxxxxxxxxxxxxxxxxx := tm_MAo k25xxxxxxxxxxxxxxxxxxxxxxxxx oq119 (of_ne of_b25 of_b119 (by decide))
  have n25xxxxxxxxxxxxxxxxxxxxxxxxxx : ¬ th_MR G Γ112 H119 b25 := fun w => n25xxxxxxxxxxxxxxxxxxxxxxxxx (th_MR_s u119 oq119 w)
  have lbn : H0.size ≤ b119 := by omega
  have ltn : b119 < H119.size := by omega
  have szn : G.1.2.2 ≤ b119 := by have q9 := hB.1.2.2.2.2.2.1; have q8 := hB.1.2.2.2.2.2.2; omega
  have hs : H119.size = H0.size + 78 := by omega
  refine lv_dup hx hb gX11_init_7.2.1 rfl ?_
  have hnoc : ∀ a o : Nat, Γ112 a ≠ (12, o) := fun a o w => by
    by_cases q9 : a = a0 ∨ H0.size ≤ a
    · exact absurd (hN a 12 o w q9 rfl) (by decide)
    · exact hno a o ((hB.1.2.2.2.1 a (by omega) (by omega)).symm.trans w)
  refine th_call (th_runI (As := []) (rest := [.ref b119, .ref a0]) hC mf_X7_init km_X11_78 im_X7_init rfl (c_X7_init_i l G Γ112 H119 hB.1.1 hB.2.1 b119 kn szn ltn nb (by omega) hnoc) rfl rfl ⟨Nat.le_of_ble_eq_true rfl, Nat.le_of_ble_eq_true rfl⟩ rfl hl.1 rfl (Nat.le_of_ble_eq_true rfl) gX11_init_7.2.2.1 ⟨Nat.le_of_ble_eq_true rfl, Nat.le_of_ble_eq_true rfl⟩) hB.1.2.1 (fun v123 H123 locs hp hz hS => ?_)
  obtain ⟨rfl, Γ123, hy, hi, hzn⟩ := hp
  have hB := th_NR_c hB hy lbn hS
  have hIN := th_IN_c hIN hy hi
  have ho := tc_OBc ho hy (by omega) (by omega)
  have n17xxxxxxxxxxxxxxxxxxxxxxxxxxxxx : ¬ th_MR G Γ123 H123 b17 := fun w => (hy.2.2.2.1 _ w).elim n17xxxxxxxxxxxxxxxxxxxxxxxxxxxx (fun w => absurd w (by have q9 := (of_lt hz1 hs of_b17 (by decide)); omega))
  have k17xxxxxxxxxxxxxxxxxxxxxxxxxxxxx := tc_MAc k17xxxxxxxxxxxxxxxxxxxxxxxxxxxx hy (of_ne of_b17 of_b119 (by decide))
  have n25xxxxxxxxxxxxxxxxxxxxxxxxxxx : ¬ th_MR G Γ123 H123 b25 := fun w => (hy.2.2.2.1 _ w).elim n25xxxxxxxxxxxxxxxxxxxxxxxxxx (fun w => absurd w (by have q9 := (of_lt hz1 hs of_b25 (by decide)); omega))
  have k25xxxxxxxxxxxxxxxxxxxxxxxxxxx := tc_MAc k25xxxxxxxxxxxxxxxxxxxxxxxxxx hy (of_ne of_b25 of_b119 (by decide))
  have hr_b5xxxxxxxxx := (hy.1.2.2 b5 (of_lt hz1 hs of_b5 (by decide)) (of_ne of_b5 of_b119 (by decide))).1.trans hr_b5xxxxxxxx
  have hr_b31xxxxxxxx := (hy.1.2.2 b31 (of_lt hz1 hs of_b31 (by decide)) (of_ne of_b31 of_b119 (by decide))).1.trans hr_b31xxxxxxx
  have hr_b42xxxxxxx := (hy.1.2.2 b42 (of_lt hz1 hs of_b42 (by decide)) (of_ne of_b42 of_b119 (by decide))).1.trans hr_b42xxxxxx
  have hr_b53xxxxxx := (hy.1.2.2 b53 (of_lt hz1 hs of_b53 (by decide)) (of_ne of_b53 of_b119 (by decide))).1.trans hr_b53xxxxx
  have hr_b64xxxxx := (hy.1.2.2 b64 (of_lt hz1 hs of_b64 (by decide)) (of_ne of_b64 of_b119 (by decide))).1.trans hr_b64xxxx
  have hr_b75xxxx := (hy.1.2.2 b75 (of_lt hz1 hs of_b75 (by decide)) (of_ne of_b75 of_b119 (by decide))).1.trans hr_b75xxx
  have hr_b86xxx := (hy.1.2.2 b86 (of_lt hz1 hs of_b86 (by decide)) (of_ne of_b86 of_b119 (by decide))).1.trans hr_b86xx
  have hr_b97xx := (hy.1.2.2 b97 (of_lt hz1 hs of_b97 (by decide)) (of_ne of_b97 of_b119 (by decide))).1.trans hr_b97x
  have hr_b108x := (hy.1.2.2 b108 (of_lt hz1 hs of_b108 (by decide)) (of_ne of_b108 of_b119 (by decide))).1.trans hr_b108
  have hr_b119 := hy.2.2.1
  have hs : H123.size = H0.size + 87 := by omega
  have hN := th_new_c hN hy
  refine W.eq (g2 := F0 m 126 ls [.ref b119, .ref a0]) rfl ?_
  refine tc_putF hC cf_X11 hB.1 ho (j := 11) (by decide) rfl hnm rfl rfl kf_X11_79 gX11_init_7.2.2.2.1 (fun H126 locs hB1 ho z126 oq126 => ?_)
  have hu := hB.1.2.2.2.2.1
  have hB := th_NR_s hB hB1 hu hB.2.2.1 (by omega) oq126
  have hIN := th_IN_s hIN hu oq126
  have k17xxxxxxxxxxxxxxxxxxxxxxxxxxxxxx := tm_MAo k17xxxxxxxxxxxxxxxxxxxxxxxxxxxxx oq126 (of_n0 of_b17 (by decide))
  have n17xxxxxxxxxxxxxxxxxxxxxxxxxxxxxx : ¬ th_MR G Γ123 H126 b17 := fun w => n17xxxxxxxxxxxxxxxxxxxxxxxxxxxxx (th_MR_s hu oq126 w)
  have k25xxxxxxxxxxxxxxxxxxxxxxxxxxxx := tm_MAo k25xxxxxxxxxxxxxxxxxxxxxxxxxxx oq126 (of_n0 of_b25 (by decide))
  have n25xxxxxxxxxxxxxxxxxxxxxxxxxxxx : ¬ th_MR G Γ123 H126 b25 := fun w => n25xxxxxxxxxxxxxxxxxxxxxxxxxxx (th_MR_s hu oq126 w)
  have hs : H126.size = H0.size + 87 := by omega
  refine lv_aload_n hx hb gX11_init_7.2.2.2.2.1 rfl (lv_at hl 0 rfl) ?_
  refine tc_new hC cf_X0 hB.1 kw_367 kw_368 kw_13 (Nat.le_of_ble_eq_true rfl) (Nat.le_of_ble_eq_true rfl) gX11_init_7.2.2.2.2.2.1 (fun b130 H130 eb130 zb130 oq130 hB1 kn => ?_)
  have of_b130 : b130 = a0 + 88 := by omega
  have n1300 : ¬ th_MR G Γ123 H126 b130 := fun w => absurd (th_MR_lt hB.2.1 w) (by omega)
  have u130 := kn.1
  have hB := th_NR_s hB hB1 u130 n1300 (by omega) oq130
  have hIN := th_IN_s hIN u130 oq130
  have nb : ¬ th_MR G Γ123 H130 b130 := fun w => n1300 (th_MR_s u130 oq130 w)
  have ho := tc_OBo ho oq130 (by omega)
  have k17xxxxxxxxxxxxxxxxxxxxxxxxxxxxxxx := tm_MAo k17xxxxxxxxxxxxxxxxxxxxxxxxxxxxxx oq130 (of_ne of_b17 of_b130 (by decide))
  have n17xxxxxxxxxxxxxxxxxxxxxxxxxxxxxxx : ¬ th_MR G Γ123 H130 b17 := fun w => n17xxxxxxxxxxxxxxxxxxxxxxxxxxxxxx (th_MR_s u130 oq130 w)
  have k25xxxxxxxxxxxxxxxxxxxxxxxxxxxxx := tm_MAo k25xxxxxxxxxxxxxxxxxxxxxxxxxxxx oq130 (of_ne of_b25 of_b130 (by decide))
  have n25xxxxxxxxxxxxxxxxxxxxxxxxxxxxx : ¬ th_MR G Γ123 H130 b25 := fun w => n25xxxxxxxxxxxxxxxxxxxxxxxxxxxx (th_MR_s u130 oq130 w)
  have lbn : H0.size ≤ b130 := by omega
  have ltn : b130 < H130.size := by omega
  have szn : G.1.2.2 ≤ b130 := by have q9 := hB.1.2.2.2.2.2.1; have q8 := hB.1.2.2.2.2.2.2; omega
  have hs : H130.size = H0.size + 88 := by omega
  refine lv_dup hx hb gX11_init_7.2.2.2.2.2.2.1 rfl ?_
  refine th_call (th_runI (As := []) (rest := [.ref b130, .ref a0]) hC mf_X0_init km_X11_85 im_X0_init rfl (c_X0_init_i l G Γ123 H130 hB.1.1 hB.2.1 b130 kn szn ltn nb (by omega)) rfl rfl ⟨Nat.le_of_ble_eq_true rfl, Nat.le_of_ble_eq_true rfl⟩ rfl hl.1 rfl (Nat.le_of_ble_eq_true rfl) gX11_init_7.2.2.2.2.2.2.2 ⟨Nat.le_of_ble_eq_true rfl, Nat.le_of_ble_eq_true rfl⟩) hB.1.2.1 (fun v134 H134 locs hp hz hS => ?_)
  obtain ⟨rfl, Γ134, hy, hi, hzn⟩ := hp
  have hB := th_NR_c hB hy lbn hS
  have hIN := th_IN_c hIN hy hi
  have ho := tc_OBc ho hy (by omega) (by omega)
  have n17xxxxxxxxxxxxxxxxxxxxxxxxxxxxxxxx : ¬ th_MR G Γ134 H134 b17 := fun w => (hy.2.2.2.1 _ w).elim n17xxxxxxxxxxxxxxxxxxxxxxxxxxxxxxx (fun w => absurd w (by have q9 := (of_lt hz1 hs of_b17 (by decide)); omega))
  have k17xxxxxxxxxxxxxxxxxxxxxxxxxxxxxxxx := tc_MAc k17xxxxxxxxxxxxxxxxxxxxxxxxxxxxxxx hy (of_ne of_b17 of_b130 (by decide))
  have n25xxxxxxxxxxxxxxxxxxxxxxxxxxxxxx : ¬ th_MR G Γ134 H134 b25 := fun w => (hy.2.2.2.1 _ w).elim n25xxxxxxxxxxxxxxxxxxxxxxxxxxxxx (fun w => absurd w (by have q9 := (of_lt hz1 hs of_b25 (by decide)); omega))
  have k25xxxxxxxxxxxxxxxxxxxxxxxxxxxxxx := tc_MAc k25xxxxxxxxxxxxxxxxxxxxxxxxxxxxx hy (of_ne of_b25 of_b130 (by decide))
  have hr_b5xxxxxxxxxx := (hy.1.2.2 b5 (of_lt hz1 hs of_b5 (by decide)) (of_ne of_b5 of_b130 (by decide))).1.trans hr_b5xxxxxxxxx
  have hr_b31xxxxxxxxx := (hy.1.2.2 b31 (of_lt hz1 hs of_b31 (by decide)) (of_ne of_b31 of_b130 (by decide))).1.trans hr_b31xxxxxxxx
  have hr_b42xxxxxxxx := (hy.1.2.2 b42 (of_lt hz1 hs of_b42 (by decide)) (of_ne of_b42 of_b130 (by decide))).1.trans hr_b42xxxxxxx
  have hr_b53xxxxxxx := (hy.1.2.2 b53 (of_lt hz1 hs of_b53 (by decide)) (of_ne of_b53 of_b130 (by decide))).1.trans hr_b53xxxxxx
  have hr_b64xxxxxx := (hy.1.2.2 b64 (of_lt hz1 hs of_b64 (by decide)) (of_ne of_b64 of_b130 (by decide))).1.trans hr_b64xxxxx
  have hr_b75xxxxx := (hy.1.2.2 b75 (of_lt hz1 hs of_b75 (by decide)) (of_ne of_b75 of_b130 (by decide))).1.trans hr_b75xxxx
  have hr_b86xxxx := (hy.1.2.2 b86 (of_lt hz1 hs of_b86 (by decide)) (of_ne of_b86 of_b130 (by decide))).1.trans hr_b86xxx
  have hr_b97xxx := (hy.1.2.2 b97 (of_lt hz1 hs of_b97 (by decide)) (of_ne of_b97 of_b130 (by decide))).1.trans hr_b97xx
  have hr_b108xx := (hy.1.2.2 b108 (of_lt hz1 hs of_b108 (by decide)) (of_ne of_b108 of_b130 (by decide))).1.trans hr_b108x
  have hr_b119x := (hy.1.2.2 b119 (of_lt hz1 hs of_b119 (by decide)) (of_ne of_b119 of_b130 (by decide))).1.trans hr_b119
  have hr_b130 := hy.2.2.1
  have hs : H134.size = H0.size + 89 := by omega
  have hN := th_new_c hN hy
  refine W.eq (g2 := F0 m 137 ls [.ref b130, .ref a0]) rfl ?_
  refine tc_putF hC cf_X11 hB.1 ho (j := 12) (by decide) rfl hnm rfl rfl kf_X11_86 gX11_init_8.1 (fun H137 locs hB1 ho z137 oq137 => ?_)
  have hu := hB.1.2.2.2.2.1
  have hB := th_NR_s hB hB1 hu hB.2.2.1 (by omega) oq137
  have hIN := th_IN_s hIN hu oq137
  have k17xxxxxxxxxxxxxxxxxxxxxxxxxxxxxxxxx := tm_MAo k17xxxxxxxxxxxxxxxxxxxxxxxxxxxxxxxx oq137 (of_n0 of_b17 (by decide))
  have n17xxxxxxxxxxxxxxxxxxxxxxxxxxxxxxxxx : ¬ th_MR G Γ134 H137 b17 := fun w => n17xxxxxxxxxxxxxxxxxxxxxxxxxxxxxxxx (th_MR_s hu oq137 w)
  have k25xxxxxxxxxxxxxxxxxxxxxxxxxxxxxxx := tm_MAo k25xxxxxxxxxxxxxxxxxxxxxxxxxxxxxx oq137 (of_n0 of_b25 (by decide))
  have n25xxxxxxxxxxxxxxxxxxxxxxxxxxxxxxx : ¬ th_MR G Γ134 H137 b25 := fun w => n25xxxxxxxxxxxxxxxxxxxxxxxxxxxxxx (th_MR_s hu oq137 w)
  have hs : H137.size = H0.size + 89 := by omega
  refine lv_aload_n hx hb gX11_init_8.2.1 rfl (lv_at hl 0 rfl) ?_
  refine lv_iconst (v := 5) hx hb gX11_init_8.2.2.1 (by decide) ?_
  refine tc_newa (ty := .int) (t := 0) hC hB.1 rfl rfl rfl kw_104 (N := 5) tk_5 (by decide) (Nat.le_of_ble_eq_true rfl) (Nat.le_of_ble_eq_true rfl) gX11_init_8.2.2.2.1 (fun b142 H142 eb142 zb142 oq142 hB1 k142 => ?_)
  have u142 := k142.2.1
  have of_b142 : b142 = a0 + 90 := by omega
  have n1420 : ¬ th_MR G Γ134 H137 b142 := fun w => absurd (th_MR_lt hB.2.1 w) (by omega)
  have hB := th_NR_s hB hB1 u142 n1420 (by omega) oq142
  have hIN := th_IN_s hIN u142 oq142
  have n142 : ¬ th_MR G Γ134 H142 b142 := fun w => n1420 (th_MR_s u142 oq142 w)
  have lb142 : H0.size ≤ b142 := by omega
  have ho := tc_OBo ho oq142 (by omega)
  have k17xxxxxxxxxxxxxxxxxxxxxxxxxxxxxxxxxx := tm_MAo k17xxxxxxxxxxxxxxxxxxxxxxxxxxxxxxxxx oq142 (of_ne of_b17 of_b142 (by decide))
  have n17xxxxxxxxxxxxxxxxxxxxxxxxxxxxxxxxxx : ¬ th_MR G Γ134 H142 b17 := fun w => n17xxxxxxxxxxxxxxxxxxxxxxxxxxxxxxxxx (th_MR_s u142 oq142 w)
  have k25xxxxxxxxxxxxxxxxxxxxxxxxxxxxxxxx := tm_MAo k25xxxxxxxxxxxxxxxxxxxxxxxxxxxxxxx oq142 (of_ne of_b25 of_b142 (by decide))
  have n25xxxxxxxxxxxxxxxxxxxxxxxxxxxxxxxx : ¬ th_MR G Γ134 H142 b25 := fun w => n25xxxxxxxxxxxxxxxxxxxxxxxxxxxxxxx (th_MR_s u142 oq142 w)
  have hs : H142.size = H0.size + 90 := by omega
  refine tc_putF hC cf_X11 hB.1 ho (j := 13) (by decide) rfl hnm rfl rfl kf_X11_90 gX11_init_8.2.2.2.2.1 (fun H144 locs hB1 ho z144 oq144 => ?_)
  have hu := hB.1.2.2.2.2.1
  have hB := th_NR_s hB hB1 hu hB.2.2.1 (by omega) oq144
  have hIN := th_IN_s hIN hu oq144
  have k17xxxxxxxxxxxxxxxxxxxxxxxxxxxxxxxxxxx := tm_MAo k17xxxxxxxxxxxxxxxxxxxxxxxxxxxxxxxxxx oq144 (of_n0 of_b17 (by decide))
  have n17xxxxxxxxxxxxxxxxxxxxxxxxxxxxxxxxxxx : ¬ th_MR G Γ134 H144 b17 := fun w => n17xxxxxxxxxxxxxxxxxxxxxxxxxxxxxxxxxx (th_MR_s hu oq144 w)
  have k25xxxxxxxxxxxxxxxxxxxxxxxxxxxxxxxxx := tm_MAo k25xxxxxxxxxxxxxxxxxxxxxxxxxxxxxxxx oq144 (of_n0 of_b25 (by decide))
  have n25xxxxxxxxxxxxxxxxxxxxxxxxxxxxxxxxx : ¬ th_MR G Γ134 H144 b25 := fun w => n25xxxxxxxxxxxxxxxxxxxxxxxxxxxxxxxx (th_MR_s hu oq144 w)
  have k142x := tm_MAo k142 oq144 (of_n0 of_b142 (by decide))
  have n142x : ¬ th_MR G Γ134 H144 b142 := fun w => n142 (th_MR_s hu oq144 w)
  have hs : H144.size = H0.size + 90 := by omega
  refine lv_aload_n hx hb gX11_init_8.2.2.2.2.2.1 rfl (lv_at hl 0 rfl) ?_
  refine lv_iconst (v := 0) hx hb gX11_init_8.2.2.2.2.2.2.1 (by decide) ?_
  refine tc_put hC cf_X11 hB.1 ho (j := 14) (by decide) rfl rfl rfl kf_X11_94 gX11_init_8.2.2.2.2.2.2.2 (fun H149 locs hB1 ho z149 oq149 => ?_)
  have hu := hB.1.2.2.2.2.1
  have hB := th_NR_s hB hB1 hu hB.2.2.1 (by omega) oq149
  have hIN := th_IN_s hIN hu oq149
  have k17xxxxxxxxxxxxxxxxxxxxxxxxxxxxxxxxxxxx := tm_MAo k17xxxxxxxxxxxxxxxxxxxxxxxxxxxxxxxxxxx oq149 (of_n0 of_b17 (by decide))
  have n17xxxxxxxxxxxxxxxxxxxxxxxxxxxxxxxxxxxx : ¬ th_MR G Γ134 H149 b17 := fun w => n17xxxxxxxxxxxxxxxxxxxxxxxxxxxxxxxxxxx (th_MR_s hu oq149 w)
  have k25xxxxxxxxxxxxxxxxxxxxxxxxxxxxxxxxxx := tm_MAo k25xxxxxxxxxxxxxxxxxxxxxxxxxxxxxxxxx oq149 (of_n0 of_b25 (by decide))
  have n25xxxxxxxxxxxxxxxxxxxxxxxxxxxxxxxxxx : ¬ th_MR G Γ134 H149 b25 := fun w => n25xxxxxxxxxxxxxxxxxxxxxxxxxxxxxxxxx (th_MR_s hu oq149 w)
  have k142xx := tm_MAo k142x oq149 (of_n0 of_b142 (by decide))
  have n142xx : ¬ th_MR G Γ134 H149 b142 := fun w => n142x (th_MR_s hu oq149 w)
  have hs : H149.size = H0.size + 90 := by omega
  refine lv_aload_n hx hb gX11_init_9.1 rfl (lv_at hl 0 rfl) ?_
  refine lv_iconst (v := (-1)) hx hb gX11_init_9.2.1 (by decide) ?_
  refine tc_put hC cf_X11 hB.1 ho (j := 15) (by decide) rfl rfl rfl kf_X11_98 gX11_init_9.2.2.1 (fun H154 locs hB1 ho z154 oq154 => ?_)
  have hu := hB.1.2.2.2.2.1
  have hB := th_NR_s hB hB1 hu hB.2.2.1 (by omega) oq154
  have hIN := th_IN_s hIN hu oq154
  have k17xxxxxxxxxxxxxxxxxxxxxxxxxxxxxxxxxxxxx := tm_MAo k17xxxxxxxxxxxxxxxxxxxxxxxxxxxxxxxxxxxx oq154 (of_n0 of_b17 (by decide))
  have n17xxxxxxxxxxxxxxxxxxxxxxxxxxxxxxxxxxxxx : ¬ th_MR G Γ134 H154 b17 := fun w => n17xxxxxxxxxxxxxxxxxxxxxxxxxxxxxxxxxxxx (th_MR_s hu oq154 w)
  have k25xxxxxxxxxxxxxxxxxxxxxxxxxxxxxxxxxxx := tm_MAo k25xxxxxxxxxxxxxxxxxxxxxxxxxxxxxxxxxx oq154 (of_n0 of_b25 (by decide))
  have n25xxxxxxxxxxxxxxxxxxxxxxxxxxxxxxxxxxx : ¬ th_MR G Γ134 H154 b25 := fun w => n25xxxxxxxxxxxxxxxxxxxxxxxxxxxxxxxxxx (th_MR_s hu oq154 w)
  have k142xxx := tm_MAo k142xx oq154 (of_n0 of_b142 (by decide))
  have n142xxx : ¬ th_MR G Γ134 H154 b142 := fun w => n142xx (th_MR_s hu oq154 w)
  have hs : H154.size = H0.size + 90 := by omega
  refine lv_aload_n hx hb gX11_init_9.2.2.2.1 rfl (lv_at hl 0 rfl) ?_
  refine lv_iconst (v := 0) hx hb gX11_init_9.2.2.2.2.1 (by decide) ?_
  refine tc_put hC cf_X11 hB.1 ho (j := 16) (by decide) rfl rfl rfl kf_X11_101 gX11_init_9.2.2.2.2.2.1 (fun H159 locs hB1 ho z159 oq159 => ?_)
  have hu := hB.1.2.2.2.2.1
  have hB := th_NR_s hB hB1 hu hB.2.2.1 (by omega) oq159
  have hIN := th_IN_s hIN hu oq159
  have k17xxxxxxxxxxxxxxxxxxxxxxxxxxxxxxxxxxxxxx := tm_MAo k17xxxxxxxxxxxxxxxxxxxxxxxxxxxxxxxxxxxxx oq159 (of_n0 of_b17 (by decide))
  have n17xxxxxxxxxxxxxxxxxxxxxxxxxxxxxxxxxxxxxx : ¬ th_MR G Γ134 H159 b17 := fun w => n17xxxxxxxxxxxxxxxxxxxxxxxxxxxxxxxxxxxxx (th_MR_s hu oq159 w)
  have k25xxxxxxxxxxxxxxxxxxxxxxxxxxxxxxxxxxxx := tm_MAo k25xxxxxxxxxxxxxxxxxxxxxxxxxxxxxxxxxxx oq159 (of_n0 of_b25 (by decide))
  have n25xxxxxxxxxxxxxxxxxxxxxxxxxxxxxxxxxxxx : ¬ th_MR G Γ134 H159 b25 := fun w => n25xxxxxxxxxxxxxxxxxxxxxxxxxxxxxxxxxxx (th_MR_s hu oq159 w)
  have k142xxxx := tm_MAo k142xxx oq159 (of_n0 of_b142 (by decide))
  have n142xxxx : ¬ th_MR G Γ134 H159 b142 := fun w => n142xxx (th_MR_s hu oq159 w)
  have hs : H159.size = H0.size + 90 := by omega
  refine lv_aload_n hx hb gX11_init_9.2.2.2.2.2.2.1 rfl (lv_at hl 0 rfl) ?_
  refine lv_iconst (v := (-1)) hx hb gX11_init_9.2.2.2.2.2.2.2 (by decide) ?_
  refine tc_put hC cf_X11 hB.1 ho (j := 17) (by decide) rfl rfl rfl kf_X11_104 gX11_init_10.1 (fun H164 locs hB1 ho z164 oq164 => ?_)
  have hu := hB.1.2.2.2.2.1
  have hB := th_NR_s hB hB1 hu hB.2.2.1 (by omega) oq164
  have hIN := th_IN_s hIN hu oq164
  have k17xxxxxxxxxxxxxxxxxxxxxxxxxxxxxxxxxxxxxxx := tm_MAo k17xxxxxxxxxxxxxxxxxxxxxxxxxxxxxxxxxxxxxx oq164 (of_n0 of_b17 (by decide))
  have n17xxxxxxxxxxxxxxxxxxxxxxxxxxxxxxxxxxxxxxx : ¬ th_MR G Γ134 H164 b17 := fun w => n17xxxxxxxxxxxxxxxxxxxxxxxxxxxxxxxxxxxxxx (th_MR_s hu oq164 w)
  have k25xxxxxxxxxxxxxxxxxxxxxxxxxxxxxxxxxxxxx := tm_MAo k25xxxxxxxxxxxxxxxxxxxxxxxxxxxxxxxxxxxx oq164 (of_n0 of_b25 (by decide))
  have n25xxxxxxxxxxxxxxxxxxxxxxxxxxxxxxxxxxxxx : ¬ th_MR G Γ134 H164 b25 := fun w => n25xxxxxxxxxxxxxxxxxxxxxxxxxxxxxxxxxxxx (th_MR_s hu oq164 w)
  have k142xxxxx := tm_MAo k142xxxx oq164 (of_n0 of_b142 (by decide))
  have n142xxxxx : ¬ th_MR G Γ134 H164 b142 := fun w => n142xxxx (th_MR_s hu oq164 w)
  have hs : H164.size = H0.size + 90 := by omega
  refine lv_iconst (v := 0) hx hb gX11_init_10.2.1 (by decide) ?_
  refine lv_istore_n (lv' := [(1, .int 0), (0, .ref a0)]) hx hb gX11_init_10.2.2.1 rfl hl (by decide) rfl (fun ls hl => ?_)
  refine lv_iload_n hx hb gX11_init_10.2.2.2.1 rfl (lv_at hl 0 rfl) ?_
  refine lv_iconst (v := 2) hx hb gX11_init_10.2.2.2.2.1 (by decide) ?_
  refine tr_icmp_ge (tgt := 193) hx hb gX11_init_10.2.2.2.2.2.1 (by decide) tk_0 tk_2 (fun c => absurd c (by decide)) (fun _ => ?_)
  refine lv_aload_n hx hb gX11_init_10.2.2.2.2.2.2.1 rfl (lv_at hl 1 rfl) ?_
  refine tc_get hC cf_X11 ho (j := 1) (by decide) rfl kf_X11_16 gX11_init_10.2.2.2.2.2.2.2 ?_
  refine lv_iload_n hx hb gX11_init_11.1 rfl (lv_at hl 0 rfl) ?_
  refine tc_new hC cf_X8 hB.1 kw_30 kw_31 kw_2 (Nat.le_of_ble_eq_true rfl) (Nat.le_of_ble_eq_true rfl) gX11_init_11.2.1 (fun b179 H179 eb179 zb179 oq179 hB1 kn => ?_)
  have of_b179 : b179 = a0 + 91 := by omega
  have n1790 : ¬ th_MR G Γ134 H164 b179 := fun w => absurd (th_MR_lt hB.2.1 w) (by omega)
  have u179 := kn.1
  have hB := th_NR_s hB hB1 u179 n1790 (by omega) oq179
  have hIN := th_IN_s hIN u179 oq179
  have nb : ¬ th_MR G Γ134 H179 b179 := fun w => n1790 (th_MR_s u179 oq179 w)
  have ho := tc_OBo ho oq179 (by omega)
  have k17xxxxxxxxxxxxxxxxxxxxxxxxxxxxxxxxxxxxxxxx := tm_MAo k17xxxxxxxxxxxxxxxxxxxxxxxxxxxxxxxxxxxxxxx oq179 (of_ne of_b17 of_b179 (by decide))
  have n17xxxxxxxxxxxxxxxxxxxxxxxxxxxxxxxxxxxxxxxx : ¬ th_MR G Γ134 H179 b17 := fun w => n17xxxxxxxxxxxxxxxxxxxxxxxxxxxxxxxxxxxxxxx (th_MR_s u179 oq179 w)
  have k25xxxxxxxxxxxxxxxxxxxxxxxxxxxxxxxxxxxxxx := tm_MAo k25xxxxxxxxxxxxxxxxxxxxxxxxxxxxxxxxxxxxx oq179 (of_ne of_b25 of_b179 (by decide))
  have n25xxxxxxxxxxxxxxxxxxxxxxxxxxxxxxxxxxxxxx : ¬ th_MR G Γ134 H179 b25 := fun w => n25xxxxxxxxxxxxxxxxxxxxxxxxxxxxxxxxxxxxx (th_MR_s u179 oq179 w)
  have k142xxxxxx := tm_MAo k142xxxxx oq179 (of_ne of_b142 of_b179 (by decide))
  have n142xxxxxx : ¬ th_MR G Γ134 H179 b142 := fun w => n142xxxxx (th_MR_s u179 oq179 w)
  have lbn : H0.size ≤ b179 := by omega
  have ltn : b179 < H179.size := by omega
  have szn : G.1.2.2 ≤ b179 := by have q9 := hB.1.2.2.2.2.2.1; have q8 := hB.1.2.2.2.2.2.2; omega
  have hs : H179.size = H0.size + 91 := by omega
  refine lv_dup hx hb gX11_init_11.2.2.1 rfl ?_
  refine th_call (th_runI (As := []) (rest := [.ref b179, .int 0, .ref b17]) hC mf_X8_init km_X11_11 im_X8_init rfl (c_X8_init_i l G Γ134 H179 hB.1.1 hB.2.1 b179 kn szn ltn nb (by omega)) rfl rfl ⟨Nat.le_of_ble_eq_true rfl, Nat.le_of_ble_eq_true rfl⟩ rfl hl.1 rfl (Nat.le_of_ble_eq_true rfl) gX11_init_11.2.2.2.1 ⟨Nat.le_of_ble_eq_true rfl, Nat.le_of_ble_eq_true rfl⟩) hB.1.2.1 (fun v183 H183 locs hp hz hS => ?_)
  obtain ⟨rfl, Γ183, hy, hi, hzn⟩ := hp
  have hB := th_NR_c hB hy lbn hS
  have hIN := th_IN_c hIN hy hi
  have ho := tc_OBc ho hy (by omega) (by omega)
  have n17xxxxxxxxxxxxxxxxxxxxxxxxxxxxxxxxxxxxxxxxx : ¬ th_MR G Γ183 H183 b17 := fun w => (hy.2.2.2.1 _ w).elim n17xxxxxxxxxxxxxxxxxxxxxxxxxxxxxxxxxxxxxxxx (fun w => absurd w (by have q9 := (of_lt hz1 hs of_b17 (by decide)); omega))
  have k17xxxxxxxxxxxxxxxxxxxxxxxxxxxxxxxxxxxxxxxxx := tc_MAc k17xxxxxxxxxxxxxxxxxxxxxxxxxxxxxxxxxxxxxxxx hy (of_ne of_b17 of_b179 (by decide))
  have n25xxxxxxxxxxxxxxxxxxxxxxxxxxxxxxxxxxxxxxx : ¬ th_MR G Γ183 H183 b25 := fun w => (hy.2.2.2.1 _ w).elim n25xxxxxxxxxxxxxxxxxxxxxxxxxxxxxxxxxxxxxx (fun w => absurd w (by have q9 := (of_lt hz1 hs of_b25 (by decide)); omega))
  have k25xxxxxxxxxxxxxxxxxxxxxxxxxxxxxxxxxxxxxxx := tc_MAc k25xxxxxxxxxxxxxxxxxxxxxxxxxxxxxxxxxxxxxx hy (of_ne of_b25 of_b179 (by decide))
  have n142xxxxxxx : ¬ th_MR G Γ183 H183 b142 := fun w => (hy.2.2.2.1 _ w).elim n142xxxxxx (fun w => absurd w (by have q9 := (of_lt hz1 hs of_b142 (by decide)); omega))
  have k142xxxxxxx := tc_MAc k142xxxxxx hy (of_ne of_b142 of_b179 (by decide))
  have hr_b5xxxxxxxxxxx := (hy.1.2.2 b5 (of_lt hz1 hs of_b5 (by decide)) (of_ne of_b5 of_b179 (by decide))).1.trans hr_b5xxxxxxxxxx
  have hr_b31xxxxxxxxxx := (hy.1.2.2 b31 (of_lt hz1 hs of_b31 (by decide)) (of_ne of_b31 of_b179 (by decide))).1.trans hr_b31xxxxxxxxx
  have hr_b42xxxxxxxxx := (hy.1.2.2 b42 (of_lt hz1 hs of_b42 (by decide)) (of_ne of_b42 of_b179 (by decide))).1.trans hr_b42xxxxxxxx
  have hr_b53xxxxxxxx := (hy.1.2.2 b53 (of_lt hz1 hs of_b53 (by decide)) (of_ne of_b53 of_b179 (by decide))).1.trans hr_b53xxxxxxx
  have hr_b64xxxxxxx := (hy.1.2.2 b64 (of_lt hz1 hs of_b64 (by decide)) (of_ne of_b64 of_b179 (by decide))).1.trans hr_b64xxxxxx
  have hr_b75xxxxxx := (hy.1.2.2 b75 (of_lt hz1 hs of_b75 (by decide)) (of_ne of_b75 of_b179 (by decide))).1.trans hr_b75xxxxx
  have hr_b86xxxxx := (hy.1.2.2 b86 (of_lt hz1 hs of_b86 (by decide)) (of_ne of_b86 of_b179 (by decide))).1.trans hr_b86xxxx
  have hr_b97xxxx := (hy.1.2.2 b97 (of_lt hz1 hs of_b97 (by decide)) (of_ne of_b97 of_b179 (by decide))).1.trans hr_b97xxx
  have hr_b108xxx := (hy.1.2.2 b108 (of_lt hz1 hs of_b108 (by decide)) (of_ne of_b108 of_b179 (by decide))).1.trans hr_b108xx
  have hr_b119xx := (hy.1.2.2 b119 (of_lt hz1 hs of_b119 (by decide)) (of_ne of_b119 of_b179 (by decide))).1.trans hr_b119x
  have hr_b130x := (hy.1.2.2 b130 (of_lt hz1 hs of_b130 (by decide)) (of_ne of_b130 of_b179 (by decide))).1.trans hr_b130
  have hr_b179 := hy.2.2.1
  have hs : H183.size = H0.size + 121 := by omega
  have hN := th_new_c hN hy
  refine W.eq (g2 := F0 m 186 ls [.ref b179, .int 0, .ref b17]) rfl ?_
  refine tc_aast (x := 0) hC hB.1 k17xxxxxxxxxxxxxxxxxxxxxxxxxxxxxxxxxxxxxxxxx lb17 rfl hr_b179 ro_32 rfl tk_0 (by decide) (by decide) gX11_init_11.2.2.2.2.1 (fun H186 locs hB1 kq z186 oq186 => ?_)
  have hq := k17xxxxxxxxxxxxxxxxxxxxxxxxxxxxxxxxxxxxxxxxx.2.1
  have hB := th_NR_s hB hB1 hq n17xxxxxxxxxxxxxxxxxxxxxxxxxxxxxxxxxxxxxxxxx (by omega) oq186
  have hIN := th_IN_s hIN hq oq186
  have n17xxxxxxxxxxxxxxxxxxxxxxxxxxxxxxxxxxxxxxxxxx : ¬ th_MR G Γ183 H186 b17 := fun w => n17xxxxxxxxxxxxxxxxxxxxxxxxxxxxxxxxxxxxxxxxx (th_MR_s hq oq186 w)
  have ho := tc_OBo ho oq186 (by have q9 := lb17; omega)
  have k25xxxxxxxxxxxxxxxxxxxxxxxxxxxxxxxxxxxxxxxx := tm_MAo k25xxxxxxxxxxxxxxxxxxxxxxxxxxxxxxxxxxxxxxx oq186 (fun e => (of_ne of_b17 of_b25 (by decide)) e.symm)
  have n25xxxxxxxxxxxxxxxxxxxxxxxxxxxxxxxxxxxxxxxx : ¬ th_MR G Γ183 H186 b25 := fun w => n25xxxxxxxxxxxxxxxxxxxxxxxxxxxxxxxxxxxxxxx (th_MR_s hq oq186 w)
  have k142xxxxxxxx := tm_MAo k142xxxxxxx oq186 (fun e => (of_ne of_b17 of_b142 (by decide)) e.symm)
  have n142xxxxxxxx : ¬ th_MR G Γ183 H186 b142 := fun w => n142xxxxxxx (th_MR_s hq oq186 w)
  have kz186 := kq
  have hs : H186.size = H0.size + 121 := by omega
  refine tr_iinc (fun z187_1 => [(1, .int z187_1), (0, .ref a0)]) hx hb gX11_init_11.2.2.2.2.2.1 hl (k := 0) rfl tk_0 tk_1 (by decide) (by decide) (by decide) (fun _ => rfl) (fun z187_1 ls ez187_1 hl => ?_)
  have pz187_1 : z187_1.toInt = 1 := ez187_1
  refine lv_goto (tgt := 169) hx hb gX11_init_11.2.2.2.2.2.2.1 (by decide) ?_
  refine lv_iload_n hx hb gX11_init_10.2.2.2.1 rfl (lv_at hl 0 rfl) ?_
  refine lv_iconst (v := 2) hx hb gX11_init_10.2.2.2.2.1 (by decide) ?_
  refine tr_icmp_ge (tgt := 193) hx hb gX11_init_10.2.2.2.2.2.1 (by decide) pz187_1 tk_2 (fun c => absurd c (by decide)) (fun _ => ?_)
  refine lv_aload_n hx hb gX11_init_10.2.2.2.2.2.2.1 rfl (lv_at hl 1 rfl) ?_
  refine tc_get hC cf_X11 ho (j := 1) (by decide) rfl kf_X11_16 gX11_init_10.2.2.2.2.2.2.2 ?_
  refine lv_iload_n hx hb gX11_init_11.1 rfl (lv_at hl 0 rfl) ?_
  refine tc_new hC cf_X8 hB.1 kw_30 kw_31 kw_2 (Nat.le_of_ble_eq_true rfl) (Nat.le_of_ble_eq_true rfl) gX11_init_11.2.1 (fun b179_1 H179_1 eb179 zb179 oq179 hB1 kn => ?_)
  have of_b179_1 : b179_1 = a0 + 122 := by omega
  have n1790 : ¬ th_MR G Γ183 H186 b179_1 := fun w => absurd (th_MR_lt hB.2.1 w) (by omega)
  have u179 := kn.1
  have hB := th_NR_s hB hB1 u179 n1790 (by omega) oq179
  have hIN := th_IN_s hIN u179 oq179
  have nb : ¬ th_MR G Γ183 H179_1 b179_1 := fun w => n1790 (th_MR_s u179 oq179 w)
  have ho := tc_OBo ho oq179 (by omega)
  have kz186x := tm_MAo kz186 oq179 (of_ne of_b17 of_b179_1 (by decide))
  have n17xxxxxxxxxxxxxxxxxxxxxxxxxxxxxxxxxxxxxxxxxxx : ¬ th_MR G Γ183 H179_1 b17 := fun w => n17xxxxxxxxxxxxxxxxxxxxxxxxxxxxxxxxxxxxxxxxxx (th_MR_s u179 oq179 w)
  have k25xxxxxxxxxxxxxxxxxxxxxxxxxxxxxxxxxxxxxxxxx := tm_MAo k25xxxxxxxxxxxxxxxxxxxxxxxxxxxxxxxxxxxxxxxx oq179 (of_ne of_b25 of_b179_1 (by decide))
  have n25xxxxxxxxxxxxxxxxxxxxxxxxxxxxxxxxxxxxxxxxx : ¬ th_MR G Γ183 H179_1 b25 := fun w => n25xxxxxxxxxxxxxxxxxxxxxxxxxxxxxxxxxxxxxxxx (th_MR_s u179 oq179 w)
  have k142xxxxxxxxx := tm_MAo k142xxxxxxxx oq179 (of_ne of_b142 of_b179_1 (by decide))
  have n142xxxxxxxxx : ¬ th_MR G Γ183 H179_1 b142 := fun w => n142xxxxxxxx (th_MR_s u179 oq179 w)
  have lbn : H0.size ≤ b179_1 := by omega
  have ltn : b179_1 < H179_1.size := by omega
  have szn : G.1.2.2 ≤ b179_1 := by have q9 := hB.1.2.2.2.2.2.1; have q8 := hB.1.2.2.2.2.2.2; omega
  have hs : H179_1.size = H0.size + 122 := by omega
  refine lv_dup hx hb gX11_init_11.2.2.1 rfl ?_
  refine th_call (th_runI (As := []) (rest := [.ref b179_1, .int z187_1, .ref b17]) hC mf_X8_init km_X11_11 im_X8_init rfl (c_X8_init_i l G Γ183 H179_1 hB.1.1 hB.2.1 b179_1 kn szn ltn nb (by omega)) rfl rfl ⟨Nat.le_of_ble_eq_true rfl, Nat.le_of_ble_eq_true rfl⟩ rfl hl.1 rfl (Nat.le_of_ble_eq_true rfl) gX11_init_11.2.2.2.1 ⟨Nat.le_of_ble_eq_true rfl, Nat.le_of_ble_eq_true rfl⟩) hB.1.2.1 (fun v183 H183_1 locs hp hz hS => ?_)
  obtain ⟨rfl, Γ183_1, hy, hi, hzn⟩ := hp
  have hB := th_NR_c hB hy lbn hS
  have hIN := th_IN_c hIN hy hi
  have ho := tc_OBc ho hy (by omega) (by omega)
  have n17xxxxxxxxxxxxxxxxxxxxxxxxxxxxxxxxxxxxxxxxxxxx : ¬ th_MR G Γ183_1 H183_1 b17 := fun w => (hy.2.2.2.1 _ w).elim n17xxxxxxxxxxxxxxxxxxxxxxxxxxxxxxxxxxxxxxxxxxx (fun w => absurd w (by have q9 := (of_lt hz1 hs of_b17 (by decide)); omega))
  have kz186xx := tc_MAc kz186x hy (of_ne of_b17 of_b179_1 (by decide))
  have n25xxxxxxxxxxxxxxxxxxxxxxxxxxxxxxxxxxxxxxxxxx : ¬ th_MR G Γ183_1 H183_1 b25 := fun w => (hy.2.2.2.1 _ w).elim n25xxxxxxxxxxxxxxxxxxxxxxxxxxxxxxxxxxxxxxxxx (fun w => absurd w (by have q9 := (of_lt hz1 hs of_b25 (by decide)); omega))
  have k25xxxxxxxxxxxxxxxxxxxxxxxxxxxxxxxxxxxxxxxxxx := tc_MAc k25xxxxxxxxxxxxxxxxxxxxxxxxxxxxxxxxxxxxxxxxx hy (of_ne of_b25 of_b179_1 (by decide))
  have n142xxxxxxxxxx : ¬ th_MR G Γ183_1 H183_1 b142 := fun w => (hy.2.2.2.1 _ w).elim n142xxxxxxxxx (fun w => absurd w (by have q9 := (of_lt hz1 hs of_b142 (by decide)); omega))
  have k142xxxxxxxxxx := tc_MAc k142xxxxxxxxx hy (of_ne of_b142 of_b179_1 (by decide))
  have hr_b5xxxxxxxxxxxx := (hy.1.2.2 b5 (of_lt hz1 hs of_b5 (by decide)) (of_ne of_b5 of_b179_1 (by decide))).1.trans hr_b5xxxxxxxxxxx
  have hr_b31xxxxxxxxxxx := (hy.1.2.2 b31 (of_lt hz1 hs of_b31 (by decide)) (of_ne of_b31 of_b179_1 (by decide))).1.trans hr_b31xxxxxxxxxx
  have hr_b42xxxxxxxxxx := (hy.1.2.2 b42 (of_lt hz1 hs of_b42 (by decide)) (of_ne of_b42 of_b179_1 (by decide))).1.trans hr_b42xxxxxxxxx
  have hr_b53xxxxxxxxx := (hy.1.2.2 b53 (of_lt hz1 hs of_b53 (by decide)) (of_ne of_b53 of_b179_1 (by decide))).1.trans hr_b53xxxxxxxx
  have hr_b64xxxxxxxx := (hy.1.2.2 b64 (of_lt hz1 hs of_b64 (by decide)) (of_ne of_b64 of_b179_1 (by decide))).1.trans hr_b64xxxxxxx
  have hr_b75xxxxxxx := (hy.1.2.2 b75 (of_lt hz1 hs of_b75 (by decide)) (of_ne of_b75 of_b179_1 (by decide))).1.trans hr_b75xxxxxx
  have hr_b86xxxxxx := (hy.1.2.2 b86 (of_lt hz1 hs of_b86 (by decide)) (of_ne of_b86 of_b179_1 (by decide))).1.trans hr_b86xxxxx
  have hr_b97xxxxx := (hy.1.2.2 b97 (of_lt hz1 hs of_b97 (by decide)) (of_ne of_b97 of_b179_1 (by decide))).1.trans hr_b97xxxx
  have hr_b108xxxx := (hy.1.2.2 b108 (of_lt hz1 hs of_b108 (by decide)) (of_ne of_b108 of_b179_1 (by decide))).1.trans hr_b108xxx
  have hr_b119xxx := (hy.1.2.2 b119 (of_lt hz1 hs of_b119 (by decide)) (of_ne of_b119 of_b179_1 (by decide))).1.trans hr_b119xx
  have hr_b130xx := (hy.1.2.2 b130 (of_lt hz1 hs of_b130 (by decide)) (of_ne of_b130 of_b179_1 (by decide))).1.trans hr_b130x
  have hr_b179x := (hy.1.2.2 b179 (of_lt hz1 hs of_b179 (by decide)) (of_ne of_b179 of_b179_1 (by decide))).1.trans hr_b179
  have hr_b179_1 := hy.2.2.1
  have hs : H183_1.size = H0.size + 152 := by omega
  have hN := th_new_c hN hy
  refine W.eq (g2 := F0 m 186 ls [.ref b179_1, .int z187_1, .ref b17]) rfl ?_
  refine tc_aast (x := 1) hC hB.1 kz186xx lb17 rfl hr_b179_1 ro_32 rfl pz187_1 (by decide) (by decide) gX11_init_11.2.2.2.2.1 (fun H186_1 locs hB1 kq z186 oq186 => ?_)
  have hq := kz186xx.2.1
  have hB := th_NR_s hB hB1 hq n17xxxxxxxxxxxxxxxxxxxxxxxxxxxxxxxxxxxxxxxxxxxx (by omega) oq186
  have hIN := th_IN_s hIN hq oq186
  have n17xxxxxxxxxxxxxxxxxxxxxxxxxxxxxxxxxxxxxxxxxxxxx : ¬ th_MR G Γ183_1 H186_1 b17 := fun w => n17xxxxxxxxxxxxxxxxxxxxxxxxxxxxxxxxxxxxxxxxxxxx (th_MR_s hq oq186 w)
  have ho := tc_OBo ho oq186 (by have q9 := lb17; omega)
  have k25xxxxxxxxxxxxxxxxxxxxxxxxxxxxxxxxxxxxxxxxxxx := tm_MAo k25xxxxxxxxxxxxxxxxxxxxxxxxxxxxxxxxxxxxxxxxxx oq186 (fun e => (of_ne of_b17 of_b25 (by decide)) e.symm)
  have n25xxxxxxxxxxxxxxxxxxxxxxxxxxxxxxxxxxxxxxxxxxx : ¬ th_MR G Γ183_1 H186_1 b25 := fun w => n25xxxxxxxxxxxxxxxxxxxxxxxxxxxxxxxxxxxxxxxxxx (th_MR_s hq oq186 w)
  have k142xxxxxxxxxxx := tm_MAo k142xxxxxxxxxx oq186 (fun e => (of_ne of_b17 of_b142 (by decide)) e.symm)
  have n142xxxxxxxxxxx : ¬ th_MR G Γ183_1 H186_1 b142 := fun w => n142xxxxxxxxxx (th_MR_s hq oq186 w)
  have kz186_1 := kq
  have hs : H186_1.size = H0.size + 152 := by omega
  refine tr_iinc (fun z187_2 => [(1, .int z187_2), (0, .ref a0)]) hx hb gX11_init_11.2.2.2.2.2.1 hl (k := 0) rfl pz187_1 tk_1 (by decide) (by decide) (by decide) (fun _ => rfl) (fun z187_2 ls ez187_2 hl => ?_)
  have pz187_2 : z187_2.toInt = 2 := ez187_2
  refine lv_goto (tgt := 169) hx hb gX11_init_11.2.2.2.2.2.2.1 (by decide) ?_
  refine lv_iload_n hx hb gX11_init_10.2.2.2.1 rfl (lv_at hl 0 rfl) ?_
  refine lv_iconst (v := 2) hx hb gX11_init_10.2.2.2.2.1 (by decide) ?_
  refine tr_icmp_ge (tgt := 193) hx hb gX11_init_10.2.2.2.2.2.1 (by decide) pz187_2 tk_2 (fun _ => ?_) (fun c => absurd c (by decide))
  have hI1 := hB.1.1
  have hR1 := hB.2.1
  have hI2 := th_nmA (r := 43) (o := a0) hI1 kz186_1 ro_43 (Nat.le_refl _) (Nat.le_refl _) (fun i hi => by
    match i, hi with
    | 0, _ => exact th_sR hr_b179x
    | 1, _ => exact th_sR hr_b179_1
    | n + 2, h => exact absurd h (by omega))
  have hR1 := th_RC_up hI1 hR1 (x := (43, a0)) kz186_1.2.1 n17xxxxxxxxxxxxxxxxxxxxxxxxxxxxxxxxxxxxxxxxxxxxx hI2 (fun e => absurd (show (43 : Nat) = 3 from e) (by decide)) (fun e => absurd (show (43 : Nat) = 18 ∨ (43 : Nat) = 19 from e) (by decide)) (show (43 : Nat) ≠ 12 by decide)
  have hI1 := hI2
  have hIN := th_IN_up (b := b17) (x := (43, a0)) hIN (ini_q rfl rfl rfl (fun i d hm => by
    rcases List.mem_cons.mp hm with e | hm
    · cases e; exact (th_sl_at kz186_1.2.2 (arrV_read _ _ (by decide))).trans (congrArg Value.ref (show b179 = b17 + 59 by omega))
    rcases List.mem_cons.mp hm with e | hm
    · cases e; exact (th_sl_at kz186_1.2.2 (arrV_read _ _ (by decide))).trans (congrArg Value.ref (show b179_1 = b17 + 90 by omega))
    cases hm))
  have ho := th_OB_up (b := b17) (x := (43, a0)) ho (by have q9 := lb17; omega)
  have k25xxxxxxxxxxxxxxxxxxxxxxxxxxxxxxxxxxxxxxxxxxxu := th_MA_up (b := b17) (x := (43, a0)) k25xxxxxxxxxxxxxxxxxxxxxxxxxxxxxxxxxxxxxxxxxxx (fun e => (of_ne of_b17 of_b25 (by decide)) e.symm)
  have n25xxxxxxxxxxxxxxxxxxxxxxxxxxxxxxxxxxxxxxxxxxxu : ¬ th_MR G (th_up Γ183_1 b17 (43, a0)) H186_1 b25 := fun w => n25xxxxxxxxxxxxxxxxxxxxxxxxxxxxxxxxxxxxxxxxxxx (th_MR_up (show (43 : Nat) ≠ 12 by decide) w)
  have k142xxxxxxxxxxxu := th_MA_up (b := b17) (x := (43, a0)) k142xxxxxxxxxxx (fun e => (of_ne of_b17 of_b142 (by decide)) e.symm)
  have n142xxxxxxxxxxxu : ¬ th_MR G (th_up Γ183_1 b17 (43, a0)) H186_1 b142 := fun w => n142xxxxxxxxxxx (th_MR_up (show (43 : Nat) ≠ 12 by decide) w)
  have hI2 := th_nmA (r := 44) (o := a0) hI1 k25xxxxxxxxxxxxxxxxxxxxxxxxxxxxxxxxxxxxxxxxxxxu ro_44 (Nat.le_refl _) (Nat.le_refl _) (fun i _ => th_sI (x := 0) (by decide) (by decide))
  have hR1 := th_RC_up hI1 hR1 (x := (44, a0)) k25xxxxxxxxxxxxxxxxxxxxxxxxxxxxxxxxxxxxxxxxxxxu.2.1 n25xxxxxxxxxxxxxxxxxxxxxxxxxxxxxxxxxxxxxxxxxxxu hI2 (fun e => absurd (show (44 : Nat) = 3 from e) (by decide)) (fun e => absurd (show (44 : Nat) = 18 ∨ (44 : Nat) = 19 from e) (by decide)) (show (44 : Nat) ≠ 12 by decide)
  have hI1 := hI2
  have hIN := th_IN_up (b := b25) (x := (44, a0)) hIN (ini_r rfl rfl rfl rfl (fun i hi => th_sl_at k25xxxxxxxxxxxxxxxxxxxxxxxxxxxxxxxxxxxxxxxxxxx.2.2 (arrV_read _ _ hi)))
  have ho := th_OB_up (b := b25) (x := (44, a0)) ho (by have q9 := lb25; omega)
  have k142xxxxxxxxxxxuu := th_MA_up (b := b25) (x := (44, a0)) k142xxxxxxxxxxxu (fun e => (of_ne of_b25 of_b142 (by decide)) e.symm)
  have n142xxxxxxxxxxxuu : ¬ th_MR G (th_up (th_up Γ183_1 b17 (43, a0)) b25 (44, a0)) H186_1 b142 := fun w => n142xxxxxxxxxxxu (th_MR_up (show (44 : Nat) ≠ 12 by decide) w)
  have hI2 := th_nmA (r := 45) (o := a0) hI1 k142xxxxxxxxxxxuu ro_45 (Nat.le_refl _) (Nat.le_refl _) (fun i _ => th_sI (x := 0) (by decide) (by decide))
  have hR1 := th_RC_up hI1 hR1 (x := (45, a0)) k142xxxxxxxxxxxuu.2.1 n142xxxxxxxxxxxuu hI2 (fun e => absurd (show (45 : Nat) = 3 from e) (by decide)) (fun e => absurd (show (45 : Nat) = 18 ∨ (45 : Nat) = 19 from e) (by decide)) (show (45 : Nat) ≠ 12 by decide)
  have hI1 := hI2
  have hIN := th_IN_up (b := b142) (x := (45, a0)) hIN (ini_r rfl rfl rfl rfl (fun i hi => th_sl_at k142xxxxxxxxxxx.2.2 (arrV_read _ _ hi)))
  have ho := th_OB_up (b := b142) (x := (45, a0)) ho (by have q9 := lb142; omega)
  have g_b17 : (th_up (th_up (th_up Γ183_1 b17 (43, a0)) b25 (44, a0)) b142 (45, a0)) b17 = (43, a0) := (th_up_n ((of_ne of_b17 of_b142 (by decide)))).trans ((th_up_n ((of_ne of_b17 of_b25 (by decide)))).trans (th_up_s))
  have g_b25 : (th_up (th_up (th_up Γ183_1 b17 (43, a0)) b25 (44, a0)) b142 (45, a0)) b25 = (44, a0) := (th_up_n ((of_ne of_b25 of_b142 (by decide)))).trans (th_up_s)
  have g_b142 : (th_up (th_up (th_up Γ183_1 b17 (43, a0)) b25 (44, a0)) b142 (45, a0)) b142 = (45, a0) := th_up_s
  have nm0 : ¬ th_MR G (th_up (th_up (th_up Γ183_1 b17 (43, a0)) b25 (44, a0)) b142 (45, a0)) H186_1 a0 := fun w => hB.2.2.1 (th_MR_up (show (43 : Nat) ≠ 12 by decide) (th_MR_up (show (44 : Nat) ≠ 12 by decide) (th_MR_up (show (45 : Nat) ≠ 12 by decide) w)))
  have hI2 := th_nmO (r := 42) hI1 ho hsz ro_42 rfl (fun j q hq => by
    match j, hq with
    | 0, hq => have e9 := Option.some.inj hq; subst e9; exact th_sR ((th_up_n (of_ne of_b5 of_b142 (by decide))).trans ((th_up_n (of_ne of_b5 of_b25 (by decide))).trans ((th_up_n (of_ne of_b5 of_b17 (by decide))).trans hr_b5xxxxxxxxxxxx)))
    | 1, hq => have e9 := Option.some.inj hq; subst e9; exact th_sO g_b17
    | 2, hq => have e9 := Option.some.inj hq; subst e9; exact th_sO g_b25
    | 3, hq => have e9 := Option.some.inj hq; subst e9; exact th_sR ((th_up_n (of_ne of_b31 of_b142 (by decide))).trans ((th_up_n (of_ne of_b31 of_b25 (by decide))).trans ((th_up_n (of_ne of_b31 of_b17 (by decide))).trans hr_b31xxxxxxxxxxx)))
    | 4, hq => have e9 := Option.some.inj hq; subst e9; exact th_sR ((th_up_n (of_ne of_b42 of_b142 (by decide))).trans ((th_up_n (of_ne of_b42 of_b25 (by decide))).trans ((th_up_n (of_ne of_b42 of_b17 (by decide))).trans hr_b42xxxxxxxxxx)))
    | 5, hq => have e9 := Option.some.inj hq; subst e9; exact th_sR ((th_up_n (of_ne of_b53 of_b142 (by decide))).trans ((th_up_n (of_ne of_b53 of_b25 (by decide))).trans ((th_up_n (of_ne of_b53 of_b17 (by decide))).trans hr_b53xxxxxxxxx)))
    | 6, hq => have e9 := Option.some.inj hq; subst e9; exact th_sR ((th_up_n (of_ne of_b64 of_b142 (by decide))).trans ((th_up_n (of_ne of_b64 of_b25 (by decide))).trans ((th_up_n (of_ne of_b64 of_b17 (by decide))).trans hr_b64xxxxxxxx)))
    | 7, hq => have e9 := Option.some.inj hq; subst e9; exact th_sR ((th_up_n (of_ne of_b75 of_b142 (by decide))).trans ((th_up_n (of_ne of_b75 of_b25 (by decide))).trans ((th_up_n (of_ne of_b75 of_b17 (by decide))).trans hr_b75xxxxxxx)))
    | 8, hq => have e9 := Option.some.inj hq; subst e9; exact th_sR ((th_up_n (of_ne of_b86 of_b142 (by decide))).trans ((th_up_n (of_ne of_b86 of_b25 (by decide))).trans ((th_up_n (of_ne of_b86 of_b17 (by decide))).trans hr_b86xxxxxx)))
    | 9, hq => have e9 := Option.some.inj hq; subst e9; exact th_sR ((th_up_n (of_ne of_b97 of_b142 (by decide))).trans ((th_up_n (of_ne of_b97 of_b25 (by decide))).trans ((th_up_n (of_ne of_b97 of_b17 (by decide))).trans hr_b97xxxxx)))
    | 10, hq => have e9 := Option.some.inj hq; subst e9; exact th_sR ((th_up_n (of_ne of_b108 of_b142 (by decide))).trans ((th_up_n (of_ne of_b108 of_b25 (by decide))).trans ((th_up_n (of_ne of_b108 of_b17 (by decide))).trans hr_b108xxxx)))
    | 11, hq => have e9 := Option.some.inj hq; subst e9; exact th_sR ((th_up_n (of_ne of_b119 of_b142 (by decide))).trans ((th_up_n (of_ne of_b119 of_b25 (by decide))).trans ((th_up_n (of_ne of_b119 of_b17 (by decide))).trans hr_b119xxx)))
    | 12, hq => have e9 := Option.some.inj hq; subst e9; exact th_sR ((th_up_n (of_ne of_b130 of_b142 (by decide))).trans ((th_up_n (of_ne of_b130 of_b25 (by decide))).trans ((th_up_n (of_ne of_b130 of_b17 (by decide))).trans hr_b130xx)))
    | 13, hq => have e9 := Option.some.inj hq; subst e9; exact th_sO g_b142
    | 14, hq => have e9 := Option.some.inj hq; subst e9; exact th_sI (x := 0) (by decide) (by decide)
    | 15, hq => have e9 := Option.some.inj hq; subst e9; exact th_sI (x := (-1)) (by decide) (by decide)
    | 16, hq => have e9 := Option.some.inj hq; subst e9; exact th_sI (x := 0) (by decide) (by decide)
    | 17, hq => have e9 := Option.some.inj hq; subst e9; exact th_sI (x := (-1)) (by decide) (by decide)
    | n + 18, hq => exact absurd (List.getElem?_eq_some_iff.mp hq).1 (by simp))
  have hR2 := th_RC_up hI1 hR1 (x := (42, 0)) ho.1 nm0 hI2 (fun e => absurd e (by decide)) (fun e => absurd e (by decide)) (by decide)
  have hIN2 := th_IN_up (b := a0) (x := (42, 0)) hIN (ini_f (r := 42) ho rfl rfl rfl (fun j x hm => by
    rcases List.mem_cons.mp hm with e | hm
    · cases e; exact ⟨by decide, rfl⟩
    rcases List.mem_cons.mp hm with e | hm
    · cases e; exact ⟨by decide, rfl⟩
    rcases List.mem_cons.mp hm with e | hm
    · cases e; exact ⟨by decide, rfl⟩
    rcases List.mem_cons.mp hm with e | hm
    · cases e; exact ⟨by decide, rfl⟩
    cases hm) (fun j d hm => by
    rcases List.mem_cons.mp hm with e | hm
    · cases e; exact ⟨by decide, by rw [← of_b5]; rfl⟩
    rcases List.mem_cons.mp hm with e | hm
    · cases e; exact ⟨by decide, by rw [← of_b17]; rfl⟩
    rcases List.mem_cons.mp hm with e | hm
    · cases e; exact ⟨by decide, by rw [← of_b25]; rfl⟩
    rcases List.mem_cons.mp hm with e | hm
    · cases e; exact ⟨by decide, by rw [← of_b31]; rfl⟩
    rcases List.mem_cons.mp hm with e | hm
    · cases e; exact ⟨by decide, by rw [← of_b42]; rfl⟩
    rcases List.mem_cons.mp hm with e | hm
    · cases e; exact ⟨by decide, by rw [← of_b53]; rfl⟩
    rcases List.mem_cons.mp hm with e | hm
    · cases e; exact ⟨by decide, by rw [← of_b64]; rfl⟩
    rcases List.mem_cons.mp hm with e | hm
    · cases e; exact ⟨by decide, by rw [← of_b75]; rfl⟩
    rcases List.mem_cons.mp hm with e | hm
    · cases e; exact ⟨by decide, by rw [← of_b86]; rfl⟩
    rcases List.mem_cons.mp hm with e | hm
    · cases e; exact ⟨by decide, by rw [← of_b97]; rfl⟩
    rcases List.mem_cons.mp hm with e | hm
    · cases e; exact ⟨by decide, by rw [← of_b108]; rfl⟩
    rcases List.mem_cons.mp hm with e | hm
    · cases e; exact ⟨by decide, by rw [← of_b119]; rfl⟩
    rcases List.mem_cons.mp hm with e | hm
    · cases e; exact ⟨by decide, by rw [← of_b130]; rfl⟩
    rcases List.mem_cons.mp hm with e | hm
    · cases e; exact ⟨by decide, by rw [← of_b142]; rfl⟩
    cases hm))
  have gq : ∀ q, q < H0.size → q ≠ a0 → (th_up (th_up (th_up (th_up Γ183_1 b17 (43, a0)) b25 (44, a0)) b142 (45, a0)) a0 (42, 0)) q = Γ183_1 q := fun q h1 h2 => ((((th_up_n h2).trans (th_up_n (by have q9 := lb142; omega))).trans (th_up_n (by have q9 := lb25; omega))).trans (th_up_n (by have q9 := lb17; omega)))
  refine th_vret hC hH hr hlocks hB.1.2.1 ⟨rfl, (th_up (th_up (th_up (th_up Γ183_1 b17 (43, a0)) b25 (44, a0)) b142 (45, a0)) a0 (42, 0)), ⟨⟨hI2, (by omega), fun q h1 h2 => ⟨(gq q h1 h2).trans (hB.1.2.2.2.1 q h1 h2), hB.1.2.2.1 q h1 h2⟩⟩, hR2, th_up_s, fun q w => hB.2.2.2 q (th_MR_up (show (43 : Nat) ≠ 12 by decide) (th_MR_up (show (44 : Nat) ≠ 12 by decide) (th_MR_up (show (45 : Nat) ≠ 12 by decide) (th_MR_up (show (42 : Nat) ≠ 12 by decide) w)))), fun q x o hg hq hs => ?_⟩, hIN2, hs⟩ gX11_init_11.2.2.2.2.2.2.2
  by_cases e_a0 : q = a0
  · rw [e_a0, th_up_s] at hg; cases hg; decide
  rw [th_up_n e_a0] at hg
  by_cases e_b142 : q = b142
  · rw [e_b142, th_up_s] at hg; cases hg; decide
  rw [th_up_n e_b142] at hg
  by_cases e_b25 : q = b25
  · rw [e_b25, th_up_s] at hg; cases hg; decide
  rw [th_up_n e_b25] at hg
  by_cases e_b17 : q = b17
  · rw [e_b17, th_up_s] at hg; cases hg; decide
  rw [th_up_n e_b17] at hg
  exact (show ∀ x ∈ (((((((((((((([] ++ [3, 4, 5, 6, 7, 8, 9, 10, 32, 33, 34, 35, 36, 39, 40, 41]) ++ [3, 4, 5, 6, 7, 8, 9, 10]) ++ [3, 4, 5, 6, 7, 8, 9, 10]) ++ [37, 38]) ++ [20, 21, 22]) ++ [39, 40, 41]) ++ [23, 24, 25, 26]) ++ [11, 23, 24, 25, 26]) ++ [3, 4, 5, 6, 7, 8, 9, 10, 17, 18, 19]) ++ [12, 27, 28, 29, 30, 31]) ++ [1, 2]) ++ [3, 4, 5, 6, 7, 8, 9, 10, 32, 33, 34, 35, 36, 39, 40, 41]) ++ [3, 4, 5, 6, 7, 8, 9, 10, 32, 33, 34, 35, 36, 39, 40, 41]) : List Nat), x ∈ [1, 2, 3, 4, 5, 6, 7, 8, 9, 10, 11, 12, 17, 18, 19, 20, 21, 22, 23, 24, 25, 26, 27, 28, 29, 30, 31, 32, 33, 34, 35, 36, 37, 38, 39, 40, 41, 42, 43, 44, 45] by decide) x (hN q x o hg hq hs)
end
