set_option maxHeartbeats 4000000 in
set_option maxRecDepth 100000 in
theorem c_X11_init_i (l : Launch) (G : th_G) (Γ : th_Ga) (H0 : Heap) (hI : th_I G Γ H0) (hR : th_RC G Γ H0) (a0 : Nat) (ho : th_OB G Γ H0 a0 11 18 (fun j => defaultValue (tyX11 j))) (hsz : G.2.2 ≤ a0) (hlt : a0 < H0.size) (hm : ¬ th_MR G Γ H0 a0) (hz1 : H0.size = a0 + 1) (hno : ∀ a o : Nat, Γ a ≠ (12, o)) : Met l yX11_init (.code yX11_init cX11_init 2 (none) :: th_tb) ({ frames := 3, cells := 152, slots := 20101, locals := 64 } : Room) (th_P [.ref a0] G H0) (th_Q (fun (v : Option Value) (H1 : Heap) => v = none ∧ ∃ Γ1 : th_Ga, th_NY G Γ Γ1 a0 42 [1, 2, 3, 4, 5, 6, 7, 8, 9, 10, 11, 12, 17, 18, 19, 20, 21, 22, 23, 24, 25, 26, 27, 28, 29, 30, 31, 32, 33, 34, 35, 36, 37, 38, 39, 40, 41, 42, 43, 44, 45] H0 H1 ∧ th_IN G Γ1 a0 H0 H1 ∧ H1.size = H0.size + 152) G) 152 20101 (fun q => G.2.2 ≤ q) := by
  refine th_met RX11 (by decide) rfl (Nat.le_of_ble_eq_true rfl) ?_
  intro p e s m below meth c hC hH hr hlocks hnm ls hl
  have hx := hC.1
  have hb := hC.2.1
  have hB : th_NR G Γ Γ a0 H0 H0 [] := ⟨⟨hI, va_S.rf, fun _ _ _ => rfl, fun _ _ _ => rfl, ho.1, hsz, hlt⟩, hR, hm, fun q w => Or.inl w⟩
  have hl : lv_has ls 2 [(0, .ref a0)] := hl
  have hs : H0.size ≤ H0.size := Nat.le_refl _
  have hN := th_new_0 (a0 := a0) hI ho.1
  have hIN := th_IN_0 (a0 := a0) hI ho.1
  refine lv_aload_n hx hb dX11_init_0 rfl (lv_at hl 0 rfl) ?_
  refine W.objInit hx hb hC.2.2.2.1 (hC.2.2.2.2.1 _ kw_27) (hC.2.2.2.2.1 _ kw_28) (hC.2.2.2.2.1 _ kw_29) rfl (hl.1.trans hC.2.2.1.symm) rfl dX11_init_1 (Nat.le_of_ble_eq_true rfl) (Nat.le_of_ble_eq_true rfl) ?_
  refine W.eq (g2 := F0 m 4 ls []) rfl ?_
  refine lv_aload_n hx hb dX11_init_4 rfl (lv_at hl 0 rfl) ?_
  refine tc_new hC cf_X8 hB.1 kw_30 kw_31 kw_2 (Nat.le_of_ble_eq_true rfl) (Nat.le_of_ble_eq_true rfl) dX11_init_5 (fun b5 H5 eb5 zb5 oq5 hB1 kn => ?_)
  have n50 : ¬ th_MR G Γ H0 b5 := fun w => absurd (th_MR_lt hB.2.1 w) (by omega)
  have u5 := kn.1
  have hB := th_NR_s hB hB1 u5 n50 (by omega) oq5
  have hIN := th_IN_s hIN u5 oq5
  have nb : ¬ th_MR G Γ H5 b5 := fun w => n50 (th_MR_s u5 oq5 w)
  have ho := tc_OBo ho oq5 (by omega)
  have lbn : H0.size ≤ b5 := by omega
  have ltn : b5 < H5.size := by omega
  have szn : G.2.2 ≤ b5 := by have q9 := hB.1.2.2.2.2.2.1; have q8 := hB.1.2.2.2.2.2.2; omega
  have hs : H5.size = H0.size + 1 := by omega
  have of_b5 : b5 = a0 + 1 := by omega
  refine lv_dup hx hb dX11_init_8 rfl ?_
  refine th_call (th_runI (As := []) (rest := [.ref b5, .ref a0]) hC mf_X8_init km_X11_11 im_X8_init rfl (c_X8_init_i l G Γ H5 hB.1.1 hB.2.1 b5 kn szn ltn nb (by omega)) rfl rfl ⟨Nat.le_of_ble_eq_true rfl, Nat.le_of_ble_eq_true rfl⟩ rfl hl.1 rfl (Nat.le_of_ble_eq_true rfl) dX11_init_9 ⟨Nat.le_of_ble_eq_true rfl, Nat.le_of_ble_eq_true rfl⟩) hB.1.2.1 (fun v9 H9 locs hp hz hS => ?_)
  obtain ⟨rfl, Γ9, hy, hi, hzn⟩ := hp
  have hB := th_NR_c hB hy lbn hS
  have hIN := th_IN_c hIN hy hi
  have ho := tc_OBc ho hy (by omega) (by omega)
  have hr_b5 := hy.2.2.1
  have hs : H9.size = H0.size + 31 := by omega
  have lt_b5 : b5 < H9.size := by omega
  have hN := th_new_c hN hy
  refine W.eq (g2 := F0 m 12 ls [.ref b5, .ref a0]) rfl ?_
  refine tc_putF hC cf_X11 hB.1 ho (j := 0) (by decide) rfl hnm rfl rfl kf_X11_12 dX11_init_12 (fun H12 locs hB1 ho z12 oq12 => ?_)
  have hu := hB.1.2.2.2.2.1
  have hB := th_NR_s hB hB1 hu hB.2.2.1 (by omega) oq12
  have hIN := th_IN_s hIN hu oq12
  have hs : H12.size = H0.size + 31 := by omega
  have lt_b5 : b5 < H12.size := by omega
  refine lv_aload_n hx hb dX11_init_15 rfl (lv_at hl 0 rfl) ?_
  refine lv_iconst (v := 2) hx hb dX11_init_16 (by decide) ?_
  refine tc_anew (t := 5) hC hB.1 rfl hC.2.2.2.2.2.2.2 kw_30 (N := 2) tk_2 (by decide) (Nat.le_of_ble_eq_true rfl) (Nat.le_of_ble_eq_true rfl) dX11_init_17 (fun b17 H17 eb17 zb17 oq17 hB1 k17 => ?_)
  have u17 := k17.2.1
  have n170 : ¬ th_MR G Γ9 H12 b17 := fun w => absurd (th_MR_lt hB.2.1 w) (by omega)
  have hB := th_NR_s hB hB1 u17 n170 (by omega) oq17
  have hIN := th_IN_s hIN u17 oq17
  have n17 : ¬ th_MR G Γ9 H17 b17 := fun w => n170 (th_MR_s u17 oq17 w)
  have lb17 : H0.size ≤ b17 := by omega
  have ho := tc_OBo ho oq17 (by omega)
  have hs : H17.size = H0.size + 32 := by omega
  have lt_b17 : b17 < H17.size := by omega
  have nr_b5_b17 : b5 ≠ b17 := by have q9 := lt_b5; omega
  have lt_b5 : b5 < H17.size := by omega
  have of_b17 : b17 = a0 + 32 := by omega
  refine tc_putF hC cf_X11 hB.1 ho (j := 1) (by decide) rfl hnm rfl rfl kf_X11_16 dX11_init_20 (fun H20 locs hB1 ho z20 oq20 => ?_)
  have hu := hB.1.2.2.2.2.1
  have hB := th_NR_s hB hB1 hu hB.2.2.1 (by omega) oq20
  have hIN := th_IN_s hIN hu oq20
  have k17x := tm_MAo k17 oq20 (by have q9 := lb17; omega)
  have n17x : ¬ th_MR G Γ9 H20 b17 := fun w => n17 (th_MR_s hu oq20 w)
  have hs : H20.size = H0.size + 32 := by omega
  have lt_b17 : b17 < H20.size := by omega
  have lt_b5 : b5 < H20.size := by omega
  refine lv_aload_n hx hb dX11_init_23 rfl (lv_at hl 0 rfl) ?_
  refine lv_iconst (v := 2) hx hb dX11_init_24 (by decide) ?_
  refine tc_newa (ty := .boolean) (t := 2) hC hB.1 rfl rfl rfl kw_187 (N := 2) tk_2 (by decide) (Nat.le_of_ble_eq_true rfl) (Nat.le_of_ble_eq_true rfl) dX11_init_25 (fun b25 H25 eb25 zb25 oq25 hB1 k25 => ?_)
  have u25 := k25.2.1
  have n250 : ¬ th_MR G Γ9 H20 b25 := fun w => absurd (th_MR_lt hB.2.1 w) (by omega)
  have hB := th_NR_s hB hB1 u25 n250 (by omega) oq25
  have hIN := th_IN_s hIN u25 oq25
  have n25 : ¬ th_MR G Γ9 H25 b25 := fun w => n250 (th_MR_s u25 oq25 w)
  have lb25 : H0.size ≤ b25 := by omega
  have ho := tc_OBo ho oq25 (by omega)
  have k17xx := tm_MAo k17x oq25 (by have q9 := tm_lt k17x; omega)
  have n17xx : ¬ th_MR G Γ9 H25 b17 := fun w => n17x (th_MR_s u25 oq25 w)
  have hs : H25.size = H0.size + 33 := by omega
  have dd_b25_b17 : b17 ≠ b25 := by have q9 := lt_b17; omega
  have lt_b25 : b25 < H25.size := by omega
  have nr_b5_b25 : b5 ≠ b25 := by have q9 := lt_b5; omega
  have lt_b5 : b5 < H25.size := by omega
  have lt_b17 : b17 < H25.size := by omega
  have of_b25 : b25 = a0 + 33 := by omega
  refine tc_putF hC cf_X11 hB.1 ho (j := 2) (by decide) rfl hnm rfl rfl kf_X11_20 dX11_init_27 (fun H27 locs hB1 ho z27 oq27 => ?_)
  have hu := hB.1.2.2.2.2.1
  have hB := th_NR_s hB hB1 hu hB.2.2.1 (by omega) oq27
  have hIN := th_IN_s hIN hu oq27
  have k17xxx := tm_MAo k17xx oq27 (by have q9 := lb17; omega)
  have n17xxx : ¬ th_MR G Γ9 H27 b17 := fun w => n17xx (th_MR_s hu oq27 w)
  have k25x := tm_MAo k25 oq27 (by have q9 := lb25; omega)
  have n25x : ¬ th_MR G Γ9 H27 b25 := fun w => n25 (th_MR_s hu oq27 w)
  have hs : H27.size = H0.size + 33 := by omega
  have lt_b17 : b17 < H27.size := by omega
  have lt_b25 : b25 < H27.size := by omega
  have lt_b5 : b5 < H27.size := by omega
  refine lv_aload_n hx hb dX11_init_30 rfl (lv_at hl 0 rfl) ?_
  refine tc_new hC cf_X1 hB.1 kw_168 kw_37 kw_3 (Nat.le_of_ble_eq_true rfl) (Nat.le_of_ble_eq_true rfl) dX11_init_31 (fun b31 H31 eb31 zb31 oq31 hB1 kn => ?_)
  have n310 : ¬ th_MR G Γ9 H27 b31 := fun w => absurd (th_MR_lt hB.2.1 w) (by omega)
  have u31 := kn.1
  have hB := th_NR_s hB hB1 u31 n310 (by omega) oq31
  have hIN := th_IN_s hIN u31 oq31
  have nb : ¬ th_MR G Γ9 H31 b31 := fun w => n310 (th_MR_s u31 oq31 w)
  have ho := tc_OBo ho oq31 (by omega)
  have k17xxxx := tm_MAo k17xxx oq31 (by have q9 := lt_b17; omega)
  have n17xxxx : ¬ th_MR G Γ9 H31 b17 := fun w => n17xxx (th_MR_s u31 oq31 w)
  have k25xx := tm_MAo k25x oq31 (by have q9 := lt_b25; omega)
  have n25xx : ¬ th_MR G Γ9 H31 b25 := fun w => n25x (th_MR_s u31 oq31 w)
  have lbn : H0.size ≤ b31 := by omega
  have ltn : b31 < H31.size := by omega
  have szn : G.2.2 ≤ b31 := by have q9 := hB.1.2.2.2.2.2.1; have q8 := hB.1.2.2.2.2.2.2; omega
  have ne_b17 : b17 ≠ b31 := by have q9 := lt_b17; omega
  have nr_b31_b17 : b31 ≠ b17 := fun e => ne_b17 e.symm
  have ne_b25 : b25 ≠ b31 := by have q9 := lt_b25; omega
  have nr_b31_b25 : b31 ≠ b25 := fun e => ne_b25 e.symm
  have ne_b5 : b5 ≠ b31 := by have q9 := lt_b5; omega
  have hs : H31.size = H0.size + 34 := by omega
  have lt_b17 : b17 < H31.size := by omega
  have lt_b25 : b25 < H31.size := by omega
  have lt_b5 : b5 < H31.size := by omega
  have of_b31 : b31 = a0 + 34 := by omega
  refine lv_dup hx hb dX11_init_34 rfl ?_
  refine th_call (th_runI (As := []) (rest := [.ref b31, .ref a0]) hC mf_X1_init km_X11_26 im_X1_init rfl (c_X1_init_i l G Γ9 H31 hB.1.1 hB.2.1 b31 kn szn ltn nb (by omega)) rfl rfl ⟨Nat.le_of_ble_eq_true rfl, Nat.le_of_ble_eq_true rfl⟩ rfl hl.1 rfl (Nat.le_of_ble_eq_true rfl) dX11_init_35 ⟨Nat.le_of_ble_eq_true rfl, Nat.le_of_ble_eq_true rfl⟩) hB.1.2.1 (fun v35 H35 locs hp hz hS => ?_)
  obtain ⟨rfl, Γ35, hy, hi, hzn⟩ := hp
  have hB := th_NR_c hB hy lbn hS
  have hIN := th_IN_c hIN hy hi
  have ho := tc_OBc ho hy (by omega) (by omega)
  have n17xxxxx : ¬ th_MR G Γ35 H35 b17 := fun w => (hy.2.2.2.1 _ w).elim n17xxxx (fun w => absurd w (by have q9 := lt_b17; omega))
  have k17xxxxx := tc_MAc k17xxxx hy ne_b17
  have n25xxx : ¬ th_MR G Γ35 H35 b25 := fun w => (hy.2.2.2.1 _ w).elim n25xx (fun w => absurd w (by have q9 := lt_b25; omega))
  have k25xxx := tc_MAc k25xx hy ne_b25
  have hr_b5x := (hy.1.2.2 b5 lt_b5 ne_b5).1.trans hr_b5
  have hr_b31 := hy.2.2.1
  have hs : H35.size = H0.size + 41 := by omega
  have lt_b31 : b31 < H35.size := by omega
  have lt_b17 : b17 < H35.size := by omega
  have lt_b25 : b25 < H35.size := by omega
  have lt_b5 : b5 < H35.size := by omega
  have hN := th_new_c hN hy
  refine W.eq (g2 := F0 m 38 ls [.ref b31, .ref a0]) rfl ?_
  refine tc_putF hC cf_X11 hB.1 ho (j := 3) (by decide) rfl hnm rfl rfl kf_X11_27 dX11_init_38 (fun H38 locs hB1 ho z38 oq38 => ?_)
  have hu := hB.1.2.2.2.2.1
  have hB := th_NR_s hB hB1 hu hB.2.2.1 (by omega) oq38
  have hIN := th_IN_s hIN hu oq38
  have k17xxxxxx := tm_MAo k17xxxxx oq38 (by have q9 := lb17; omega)
  have n17xxxxxx : ¬ th_MR G Γ35 H38 b17 := fun w => n17xxxxx (th_MR_s hu oq38 w)
  have k25xxxx := tm_MAo k25xxx oq38 (by have q9 := lb25; omega)
  have n25xxxx : ¬ th_MR G Γ35 H38 b25 := fun w => n25xxx (th_MR_s hu oq38 w)
  have hs : H38.size = H0.size + 41 := by omega
  have lt_b17 : b17 < H38.size := by omega
  have lt_b25 : b25 < H38.size := by omega
  have lt_b5 : b5 < H38.size := by omega
  have lt_b31 : b31 < H38.size := by omega
  refine lv_aload_n hx hb dX11_init_41 rfl (lv_at hl 0 rfl) ?_
  refine tc_new hC cf_X1 hB.1 kw_168 kw_37 kw_3 (Nat.le_of_ble_eq_true rfl) (Nat.le_of_ble_eq_true rfl) dX11_init_42 (fun b42 H42 eb42 zb42 oq42 hB1 kn => ?_)
  have n420 : ¬ th_MR G Γ35 H38 b42 := fun w => absurd (th_MR_lt hB.2.1 w) (by omega)
  have u42 := kn.1
  have hB := th_NR_s hB hB1 u42 n420 (by omega) oq42
  have hIN := th_IN_s hIN u42 oq42
  have nb : ¬ th_MR G Γ35 H42 b42 := fun w => n420 (th_MR_s u42 oq42 w)
  have ho := tc_OBo ho oq42 (by omega)
  have k17xxxxxxx := tm_MAo k17xxxxxx oq42 (by have q9 := lt_b17; omega)
  have n17xxxxxxx : ¬ th_MR G Γ35 H42 b17 := fun w => n17xxxxxx (th_MR_s u42 oq42 w)
  have k25xxxxx := tm_MAo k25xxxx oq42 (by have q9 := lt_b25; omega)
  have n25xxxxx : ¬ th_MR G Γ35 H42 b25 := fun w => n25xxxx (th_MR_s u42 oq42 w)
  have lbn : H0.size ≤ b42 := by omega
  have ltn : b42 < H42.size := by omega
  have szn : G.2.2 ≤ b42 := by have q9 := hB.1.2.2.2.2.2.1; have q8 := hB.1.2.2.2.2.2.2; omega
  have ne_b17 : b17 ≠ b42 := by have q9 := lt_b17; omega
  have nr_b42_b17 : b42 ≠ b17 := fun e => ne_b17 e.symm
  have ne_b25 : b25 ≠ b42 := by have q9 := lt_b25; omega
  have nr_b42_b25 : b42 ≠ b25 := fun e => ne_b25 e.symm
  have ne_b5 : b5 ≠ b42 := by have q9 := lt_b5; omega
  have ne_b31 : b31 ≠ b42 := by have q9 := lt_b31; omega
  have hs : H42.size = H0.size + 42 := by omega
  have lt_b17 : b17 < H42.size := by omega
  have lt_b25 : b25 < H42.size := by omega
  have lt_b5 : b5 < H42.size := by omega
  have lt_b31 : b31 < H42.size := by omega
  have of_b42 : b42 = a0 + 42 := by omega
  refine lv_dup hx hb dX11_init_45 rfl ?_
  refine th_call (th_runI (As := []) (rest := [.ref b42, .ref a0]) hC mf_X1_init km_X11_26 im_X1_init rfl (c_X1_init_i l G Γ35 H42 hB.1.1 hB.2.1 b42 kn szn ltn nb (by omega)) rfl rfl ⟨Nat.le_of_ble_eq_true rfl, Nat.le_of_ble_eq_true rfl⟩ rfl hl.1 rfl (Nat.le_of_ble_eq_true rfl) dX11_init_46 ⟨Nat.le_of_ble_eq_true rfl, Nat.le_of_ble_eq_true rfl⟩) hB.1.2.1 (fun v46 H46 locs hp hz hS => ?_)
  obtain ⟨rfl, Γ46, hy, hi, hzn⟩ := hp
  have hB := th_NR_c hB hy lbn hS
  have hIN := th_IN_c hIN hy hi
  have ho := tc_OBc ho hy (by omega) (by omega)
  have n17xxxxxxxx : ¬ th_MR G Γ46 H46 b17 := fun w => (hy.2.2.2.1 _ w).elim n17xxxxxxx (fun w => absurd w (by have q9 := lt_b17; omega))
  have k17xxxxxxxx := tc_MAc k17xxxxxxx hy ne_b17
  have n25xxxxxx : ¬ th_MR G Γ46 H46 b25 := fun w => (hy.2.2.2.1 _ w).elim n25xxxxx (fun w => absurd w (by have q9 := lt_b25; omega))
  have k25xxxxxx := tc_MAc k25xxxxx hy ne_b25
  have hr_b5xx := (hy.1.2.2 b5 lt_b5 ne_b5).1.trans hr_b5x
  have hr_b31x := (hy.1.2.2 b31 lt_b31 ne_b31).1.trans hr_b31
  have hr_b42 := hy.2.2.1
  have hs : H46.size = H0.size + 49 := by omega
  have lt_b42 : b42 < H46.size := by omega
  have lt_b17 : b17 < H46.size := by omega
  have lt_b25 : b25 < H46.size := by omega
  have lt_b5 : b5 < H46.size := by omega
  have lt_b31 : b31 < H46.size := by omega
  have hN := th_new_c hN hy
  refine W.eq (g2 := F0 m 49 ls [.ref b42, .ref a0]) rfl ?_
  refine tc_putF hC cf_X11 hB.1 ho (j := 4) (by decide) rfl hnm rfl rfl kf_X11_31 dX11_init_49 (fun H49 locs hB1 ho z49 oq49 => ?_)
  have hu := hB.1.2.2.2.2.1
  have hB := th_NR_s hB hB1 hu hB.2.2.1 (by omega) oq49
  have hIN := th_IN_s hIN hu oq49
  have k17xxxxxxxxx := tm_MAo k17xxxxxxxx oq49 (by have q9 := lb17; omega)
  have n17xxxxxxxxx : ¬ th_MR G Γ46 H49 b17 := fun w => n17xxxxxxxx (th_MR_s hu oq49 w)
  have k25xxxxxxx := tm_MAo k25xxxxxx oq49 (by have q9 := lb25; omega)
  have n25xxxxxxx : ¬ th_MR G Γ46 H49 b25 := fun w => n25xxxxxx (th_MR_s hu oq49 w)
  have hs : H49.size = H0.size + 49 := by omega
  have lt_b17 : b17 < H49.size := by omega
  have lt_b25 : b25 < H49.size := by omega
  have lt_b5 : b5 < H49.size := by omega
  have lt_b31 : b31 < H49.size := by omega
  have lt_b42 : b42 < H49.size := by omega
  refine lv_aload_n hx hb dX11_init_52 rfl (lv_at hl 0 rfl) ?_
  refine tc_new hC cf_X9 hB.1 kw_170 kw_171 kw_5 (Nat.le_of_ble_eq_true rfl) (Nat.le_of_ble_eq_true rfl) dX11_init_53 (fun b53 H53 eb53 zb53 oq53 hB1 kn => ?_)
  have n530 : ¬ th_MR G Γ46 H49 b53 := fun w => absurd (th_MR_lt hB.2.1 w) (by omega)
  have u53 := kn.1
  have hB := th_NR_s hB hB1 u53 n530 (by omega) oq53
  have hIN := th_IN_s hIN u53 oq53
  have nb : ¬ th_MR G Γ46 H53 b53 := fun w => n530 (th_MR_s u53 oq53 w)
  have ho := tc_OBo ho oq53 (by omega)
  have k17xxxxxxxxxx := tm_MAo k17xxxxxxxxx oq53 (by have q9 := lt_b17; omega)
  have n17xxxxxxxxxx : ¬ th_MR G Γ46 H53 b17 := fun w => n17xxxxxxxxx (th_MR_s u53 oq53 w)
  have k25xxxxxxxx := tm_MAo k25xxxxxxx oq53 (by have q9 := lt_b25; omega)
  have n25xxxxxxxx : ¬ th_MR G Γ46 H53 b25 := fun w => n25xxxxxxx (th_MR_s u53 oq53 w)
  have lbn : H0.size ≤ b53 := by omega
  have ltn : b53 < H53.size := by omega
  have szn : G.2.2 ≤ b53 := by have q9 := hB.1.2.2.2.2.2.1; have q8 := hB.1.2.2.2.2.2.2; omega
  have ne_b17 : b17 ≠ b53 := by have q9 := lt_b17; omega
  have nr_b53_b17 : b53 ≠ b17 := fun e => ne_b17 e.symm
  have ne_b25 : b25 ≠ b53 := by have q9 := lt_b25; omega
  have nr_b53_b25 : b53 ≠ b25 := fun e => ne_b25 e.symm
  have ne_b5 : b5 ≠ b53 := by have q9 := lt_b5; omega
  have ne_b31 : b31 ≠ b53 := by have q9 := lt_b31; omega
  have ne_b42 : b42 ≠ b53 := by have q9 := lt_b42; omega
  have hs : H53.size = H0.size + 50 := by omega
  have lt_b17 : b17 < H53.size := by omega
  have lt_b25 : b25 < H53.size := by omega
  have lt_b5 : b5 < H53.size := by omega
  have lt_b31 : b31 < H53.size := by omega
  have lt_b42 : b42 < H53.size := by omega
  have of_b53 : b53 = a0 + 50 := by omega
  refine lv_dup hx hb dX11_init_56 rfl ?_
  refine th_call (th_runI (As := []) (rest := [.ref b53, .ref a0]) hC mf_X9_init km_X11_36 im_X9_init rfl (c_X9_init_i l G Γ46 H53 hB.1.1 hB.2.1 b53 kn szn ltn nb (by omega)) rfl rfl ⟨Nat.le_of_ble_eq_true rfl, Nat.le_of_ble_eq_true rfl⟩ rfl hl.1 rfl (Nat.le_of_ble_eq_true rfl) dX11_init_57 ⟨Nat.le_of_ble_eq_true rfl, Nat.le_of_ble_eq_true rfl⟩) hB.1.2.1 (fun v57 H57 locs hp hz hS => ?_)
  obtain ⟨rfl, Γ57, hy, hi, hzn⟩ := hp
  have hB := th_NR_c hB hy lbn hS
  have hIN := th_IN_c hIN hy hi
  have ho := tc_OBc ho hy (by omega) (by omega)
  have n17xxxxxxxxxxx : ¬ th_MR G Γ57 H57 b17 := fun w => (hy.2.2.2.1 _ w).elim n17xxxxxxxxxx (fun w => absurd w (by have q9 := lt_b17; omega))
  have k17xxxxxxxxxxx := tc_MAc k17xxxxxxxxxx hy ne_b17
  have n25xxxxxxxxx : ¬ th_MR G Γ57 H57 b25 := fun w => (hy.2.2.2.1 _ w).elim n25xxxxxxxx (fun w => absurd w (by have q9 := lt_b25; omega))
  have k25xxxxxxxxx := tc_MAc k25xxxxxxxx hy ne_b25
  have hr_b5xxx := (hy.1.2.2 b5 lt_b5 ne_b5).1.trans hr_b5xx
  have hr_b31xx := (hy.1.2.2 b31 lt_b31 ne_b31).1.trans hr_b31x
  have hr_b42x := (hy.1.2.2 b42 lt_b42 ne_b42).1.trans hr_b42
  have hr_b53 := hy.2.2.1
  have hs : H57.size = H0.size + 51 := by omega
  have lt_b53 : b53 < H57.size := by omega
  have lt_b17 : b17 < H57.size := by omega
  have lt_b25 : b25 < H57.size := by omega
  have lt_b5 : b5 < H57.size := by omega
  have lt_b31 : b31 < H57.size := by omega
  have lt_b42 : b42 < H57.size := by omega
  have hN := th_new_c hN hy
  refine W.eq (g2 := F0 m 60 ls [.ref b53, .ref a0]) rfl ?_
  refine tc_putF hC cf_X11 hB.1 ho (j := 5) (by decide) rfl hnm rfl rfl kf_X11_37 dX11_init_60 (fun H60 locs hB1 ho z60 oq60 => ?_)
  have hu := hB.1.2.2.2.2.1
  have hB := th_NR_s hB hB1 hu hB.2.2.1 (by omega) oq60
  have hIN := th_IN_s hIN hu oq60
  have k17xxxxxxxxxxxx := tm_MAo k17xxxxxxxxxxx oq60 (by have q9 := lb17; omega)
  have n17xxxxxxxxxxxx : ¬ th_MR G Γ57 H60 b17 := fun w => n17xxxxxxxxxxx (th_MR_s hu oq60 w)
  have k25xxxxxxxxxx := tm_MAo k25xxxxxxxxx oq60 (by have q9 := lb25; omega)
  have n25xxxxxxxxxx : ¬ th_MR G Γ57 H60 b25 := fun w => n25xxxxxxxxx (th_MR_s hu oq60 w)
  have hs : H60.size = H0.size + 51 := by omega
  have lt_b17 : b17 < H60.size := by omega
  have lt_b25 : b25 < H60.size := by omega
  have lt_b5 : b5 < H60.size := by omega
  have lt_b31 : b31 < H60.size := by omega
  have lt_b42 : b42 < H60.size := by omega
  have lt_b53 : b53 < H60.size := by omega
  refine lv_aload_n hx hb dX11_init_63 rfl (lv_at hl 0 rfl) ?_
  refine tc_new hC cf_X5 hB.1 kw_188 kw_189 kw_6 (Nat.le_of_ble_eq_true rfl) (Nat.le_of_ble_eq_true rfl) dX11_init_64 (fun b64 H64 eb64 zb64 oq64 hB1 kn => ?_)
  have n640 : ¬ th_MR G Γ57 H60 b64 := fun w => absurd (th_MR_lt hB.2.1 w) (by omega)
  have u64 := kn.1
  have hB := th_NR_s hB hB1 u64 n640 (by omega) oq64
  have hIN := th_IN_s hIN u64 oq64
  have nb : ¬ th_MR G Γ57 H64 b64 := fun w => n640 (th_MR_s u64 oq64 w)
  have ho := tc_OBo ho oq64 (by omega)
  have k17xxxxxxxxxxxxx := tm_MAo k17xxxxxxxxxxxx oq64 (by have q9 := lt_b17; omega)
  have n17xxxxxxxxxxxxx : ¬ th_MR G Γ57 H64 b17 := fun w => n17xxxxxxxxxxxx (th_MR_s u64 oq64 w)
  have k25xxxxxxxxxxx := tm_MAo k25xxxxxxxxxx oq64 (by have q9 := lt_b25; omega)
  have n25xxxxxxxxxxx : ¬ th_MR G Γ57 H64 b25 := fun w => n25xxxxxxxxxx (th_MR_s u64 oq64 w)
  have lbn : H0.size ≤ b64 := by omega
  have ltn : b64 < H64.size := by omega
  have szn : G.2.2 ≤ b64 := by have q9 := hB.1.2.2.2.2.2.1; have q8 := hB.1.2.2.2.2.2.2; omega
  have ne_b17 : b17 ≠ b64 := by have q9 := lt_b17; omega
  have nr_b64_b17 : b64 ≠ b17 := fun e => ne_b17 e.symm
  have ne_b25 : b25 ≠ b64 := by have q9 := lt_b25; omega
  have nr_b64_b25 : b64 ≠ b25 := fun e => ne_b25 e.symm
  have ne_b5 : b5 ≠ b64 := by have q9 := lt_b5; omega
  have ne_b31 : b31 ≠ b64 := by have q9 := lt_b31; omega
  have ne_b42 : b42 ≠ b64 := by have q9 := lt_b42; omega
  have ne_b53 : b53 ≠ b64 := by have q9 := lt_b53; omega
  have hs : H64.size = H0.size + 52 := by omega
  have lt_b17 : b17 < H64.size := by omega
  have lt_b25 : b25 < H64.size := by omega
  have lt_b5 : b5 < H64.size := by omega
  have lt_b31 : b31 < H64.size := by omega
  have lt_b42 : b42 < H64.size := by omega
  have lt_b53 : b53 < H64.size := by omega
  have of_b64 : b64 = a0 + 52 := by omega
  refine lv_dup hx hb dX11_init_67 rfl ?_
  refine th_call (th_runI (As := []) (rest := [.ref b64, .ref a0]) hC mf_X5_init km_X11_43 im_X5_init rfl (c_X5_init_i l G Γ57 H64 hB.1.1 hB.2.1 b64 kn szn ltn nb (by omega)) rfl rfl ⟨Nat.le_of_ble_eq_true rfl, Nat.le_of_ble_eq_true rfl⟩ rfl hl.1 rfl (Nat.le_of_ble_eq_true rfl) dX11_init_68 ⟨Nat.le_of_ble_eq_true rfl, Nat.le_of_ble_eq_true rfl⟩) hB.1.2.1 (fun v68 H68 locs hp hz hS => ?_)
  obtain ⟨rfl, Γ68, hy, hi, hzn⟩ := hp
  have hB := th_NR_c hB hy lbn hS
  have hIN := th_IN_c hIN hy hi
  have ho := tc_OBc ho hy (by omega) (by omega)
  have n17xxxxxxxxxxxxxx : ¬ th_MR G Γ68 H68 b17 := fun w => (hy.2.2.2.1 _ w).elim n17xxxxxxxxxxxxx (fun w => absurd w (by have q9 := lt_b17; omega))
  have k17xxxxxxxxxxxxxx := tc_MAc k17xxxxxxxxxxxxx hy ne_b17
  have n25xxxxxxxxxxxx : ¬ th_MR G Γ68 H68 b25 := fun w => (hy.2.2.2.1 _ w).elim n25xxxxxxxxxxx (fun w => absurd w (by have q9 := lt_b25; omega))
  have k25xxxxxxxxxxxx := tc_MAc k25xxxxxxxxxxx hy ne_b25
  have hr_b5xxxx := (hy.1.2.2 b5 lt_b5 ne_b5).1.trans hr_b5xxx
  have hr_b31xxx := (hy.1.2.2 b31 lt_b31 ne_b31).1.trans hr_b31xx
  have hr_b42xx := (hy.1.2.2 b42 lt_b42 ne_b42).1.trans hr_b42x
  have hr_b53x := (hy.1.2.2 b53 lt_b53 ne_b53).1.trans hr_b53
  have hr_b64 := hy.2.2.1
  have hs : H68.size = H0.size + 54 := by omega
  have lt_b64 : b64 < H68.size := by omega
  have lt_b17 : b17 < H68.size := by omega
  have lt_b25 : b25 < H68.size := by omega
  have lt_b5 : b5 < H68.size := by omega
  have lt_b31 : b31 < H68.size := by omega
  have lt_b42 : b42 < H68.size := by omega
  have lt_b53 : b53 < H68.size := by omega
  have hN := th_new_c hN hy
  refine W.eq (g2 := F0 m 71 ls [.ref b64, .ref a0]) rfl ?_
  refine tc_putF hC cf_X11 hB.1 ho (j := 6) (by decide) rfl hnm rfl rfl kf_X11_44 dX11_init_71 (fun H71 locs hB1 ho z71 oq71 => ?_)
  have hu := hB.1.2.2.2.2.1
  have hB := th_NR_s hB hB1 hu hB.2.2.1 (by omega) oq71
  have hIN := th_IN_s hIN hu oq71
  have k17xxxxxxxxxxxxxxx := tm_MAo k17xxxxxxxxxxxxxx oq71 (by have q9 := lb17; omega)
  have n17xxxxxxxxxxxxxxx : ¬ th_MR G Γ68 H71 b17 := fun w => n17xxxxxxxxxxxxxx (th_MR_s hu oq71 w)
  have k25xxxxxxxxxxxxx := tm_MAo k25xxxxxxxxxxxx oq71 (by have q9 := lb25; omega)
  have n25xxxxxxxxxxxxx : ¬ th_MR G Γ68 H71 b25 := fun w => n25xxxxxxxxxxxx (th_MR_s hu oq71 w)
  have hs : H71.size = H0.size + 54 := by omega
  have lt_b17 : b17 < H71.size := by omega
  have lt_b25 : b25 < H71.size := by omega
  have lt_b5 : b5 < H71.size := by omega
  have lt_b31 : b31 < H71.size := by omega
  have lt_b42 : b42 < H71.size := by omega
  have lt_b53 : b53 < H71.size := by omega
  have lt_b64 : b64 < H71.size := by omega
  refine lv_aload_n hx hb dX11_init_74 rfl (lv_at hl 0 rfl) ?_
  refine tc_new hC cf_X10 hB.1 kw_222 kw_107 kw_4 (Nat.le_of_ble_eq_true rfl) (Nat.le_of_ble_eq_true rfl) dX11_init_75 (fun b75 H75 eb75 zb75 oq75 hB1 kn => ?_)
  have n750 : ¬ th_MR G Γ68 H71 b75 := fun w => absurd (th_MR_lt hB.2.1 w) (by omega)
  have u75 := kn.1
  have hB := th_NR_s hB hB1 u75 n750 (by omega) oq75
  have hIN := th_IN_s hIN u75 oq75
  have nb : ¬ th_MR G Γ68 H75 b75 := fun w => n750 (th_MR_s u75 oq75 w)
  have ho := tc_OBo ho oq75 (by omega)
  have k17xxxxxxxxxxxxxxxx := tm_MAo k17xxxxxxxxxxxxxxx oq75 (by have q9 := lt_b17; omega)
  have n17xxxxxxxxxxxxxxxx : ¬ th_MR G Γ68 H75 b17 := fun w => n17xxxxxxxxxxxxxxx (th_MR_s u75 oq75 w)
  have k25xxxxxxxxxxxxxx := tm_MAo k25xxxxxxxxxxxxx oq75 (by have q9 := lt_b25; omega)
  have n25xxxxxxxxxxxxxx : ¬ th_MR G Γ68 H75 b25 := fun w => n25xxxxxxxxxxxxx (th_MR_s u75 oq75 w)
  have lbn : H0.size ≤ b75 := by omega
  have ltn : b75 < H75.size := by omega
  have szn : G.2.2 ≤ b75 := by have q9 := hB.1.2.2.2.2.2.1; have q8 := hB.1.2.2.2.2.2.2; omega
  have ne_b17 : b17 ≠ b75 := by have q9 := lt_b17; omega
  have nr_b75_b17 : b75 ≠ b17 := fun e => ne_b17 e.symm
  have ne_b25 : b25 ≠ b75 := by have q9 := lt_b25; omega
  have nr_b75_b25 : b75 ≠ b25 := fun e => ne_b25 e.symm
  have ne_b5 : b5 ≠ b75 := by have q9 := lt_b5; omega
  have ne_b31 : b31 ≠ b75 := by have q9 := lt_b31; omega
  have ne_b42 : b42 ≠ b75 := by have q9 := lt_b42; omega
  have ne_b53 : b53 ≠ b75 := by have q9 := lt_b53; omega
  have ne_b64 : b64 ≠ b75 := by have q9 := lt_b64; omega
  have hs : H75.size = H0.size + 55 := by omega
  have lt_b17 : b17 < H75.size := by omega
  have lt_b25 : b25 < H75.size := by omega
  have lt_b5 : b5 < H75.size := by omega
  have lt_b31 : b31 < H75.size := by omega
  have lt_b42 : b42 < H75.size := by omega
  have lt_b53 : b53 < H75.size := by omega
  have lt_b64 : b64 < H75.size := by omega
  have of_b75 : b75 = a0 + 55 := by omega
  refine lv_dup hx hb dX11_init_78 rfl ?_
  refine th_call (th_runI (As := []) (rest := [.ref b75, .ref a0]) hC mf_X10_init km_X11_50 im_X10_init rfl (c_X10_init_i l G Γ68 H75 hB.1.1 hB.2.1 b75 kn szn ltn nb (by omega)) rfl rfl ⟨Nat.le_of_ble_eq_true rfl, Nat.le_of_ble_eq_true rfl⟩ rfl hl.1 rfl (Nat.le_of_ble_eq_true rfl) dX11_init_79 ⟨Nat.le_of_ble_eq_true rfl, Nat.le_of_ble_eq_true rfl⟩) hB.1.2.1 (fun v79 H79 locs hp hz hS => ?_)
  obtain ⟨rfl, Γ79, hy, hi, hzn⟩ := hp
  have hB := th_NR_c hB hy lbn hS
  have hIN := th_IN_c hIN hy hi
  have ho := tc_OBc ho hy (by omega) (by omega)
  have n17xxxxxxxxxxxxxxxxx : ¬ th_MR G Γ79 H79 b17 := fun w => (hy.2.2.2.1 _ w).elim n17xxxxxxxxxxxxxxxx (fun w => absurd w (by have q9 := lt_b17; omega))
  have k17xxxxxxxxxxxxxxxxx := tc_MAc k17xxxxxxxxxxxxxxxx hy ne_b17
  have n25xxxxxxxxxxxxxxx : ¬ th_MR G Γ79 H79 b25 := fun w => (hy.2.2.2.1 _ w).elim n25xxxxxxxxxxxxxx (fun w => absurd w (by have q9 := lt_b25; omega))
  have k25xxxxxxxxxxxxxxx := tc_MAc k25xxxxxxxxxxxxxx hy ne_b25
  have hr_b5xxxxx := (hy.1.2.2 b5 lt_b5 ne_b5).1.trans hr_b5xxxx
  have hr_b31xxxx := (hy.1.2.2 b31 lt_b31 ne_b31).1.trans hr_b31xxx
  have hr_b42xxx := (hy.1.2.2 b42 lt_b42 ne_b42).1.trans hr_b42xx
  have hr_b53xx := (hy.1.2.2 b53 lt_b53 ne_b53).1.trans hr_b53x
  have hr_b64x := (hy.1.2.2 b64 lt_b64 ne_b64).1.trans hr_b64
  have hr_b75 := hy.2.2.1
  have hs : H79.size = H0.size + 57 := by omega
  have lt_b75 : b75 < H79.size := by omega
  have lt_b17 : b17 < H79.size := by omega
  have lt_b25 : b25 < H79.size := by omega
  have lt_b5 : b5 < H79.size := by omega
  have lt_b31 : b31 < H79.size := by omega
  have lt_b42 : b42 < H79.size := by omega
  have lt_b53 : b53 < H79.size := by omega
  have lt_b64 : b64 < H79.size := by omega
  have hN := th_new_c hN hy
  refine W.eq (g2 := F0 m 82 ls [.ref b75, .ref a0]) rfl ?_
  refine tc_putF hC cf_X11 hB.1 ho (j := 7) (by decide) rfl hnm rfl rfl kf_X11_51 dX11_init_82 (fun H82 locs hB1 ho z82 oq82 => ?_)
  have hu := hB.1.2.2.2.2.1
  have hB := th_NR_s hB hB1 hu hB.2.2.1 (by omega) oq82
  have hIN := th_IN_s hIN hu oq82
  have k17xxxxxxxxxxxxxxxxxx := tm_MAo k17xxxxxxxxxxxxxxxxx oq82 (by have q9 := lb17; omega)
  have n17xxxxxxxxxxxxxxxxxx : ¬ th_MR G Γ79 H82 b17 := fun w => n17xxxxxxxxxxxxxxxxx (th_MR_s hu oq82 w)
  have k25xxxxxxxxxxxxxxxx := tm_MAo k25xxxxxxxxxxxxxxx oq82 (by have q9 := lb25; omega)
  have n25xxxxxxxxxxxxxxxx : ¬ th_MR G Γ79 H82 b25 := fun w => n25xxxxxxxxxxxxxxx (th_MR_s hu oq82 w)
  have hs : H82.size = H0.size + 57 := by omega
  have lt_b17 : b17 < H82.size := by omega
  have lt_b25 : b25 < H82.size := by omega
  have lt_b5 : b5 < H82.size := by omega
  have lt_b31 : b31 < H82.size := by omega
  have lt_b42 : b42 < H82.size := by omega
  have lt_b53 : b53 < H82.size := by omega
  have lt_b64 : b64 < H82.size := by omega
  have lt_b75 : b75 < H82.size := by omega
  refine lv_aload_n hx hb dX11_init_85 rfl (lv_at hl 0 rfl) ?_
  refine tc_new hC cf_X6 hB.1 kw_224 kw_225 kw_7 (Nat.le_of_ble_eq_true rfl) (Nat.le_of_ble_eq_true rfl) dX11_init_86 (fun b86 H86 eb86 zb86 oq86 hB1 kn => ?_)
  have n860 : ¬ th_MR G Γ79 H82 b86 := fun w => absurd (th_MR_lt hB.2.1 w) (by omega)
  have u86 := kn.1
  have hB := th_NR_s hB hB1 u86 n860 (by omega) oq86
  have hIN := th_IN_s hIN u86 oq86
  have nb : ¬ th_MR G Γ79 H86 b86 := fun w => n860 (th_MR_s u86 oq86 w)
  have ho := tc_OBo ho oq86 (by omega)
  have k17xxxxxxxxxxxxxxxxxxx := tm_MAo k17xxxxxxxxxxxxxxxxxx oq86 (by have q9 := lt_b17; omega)
  have n17xxxxxxxxxxxxxxxxxxx : ¬ th_MR G Γ79 H86 b17 := fun w => n17xxxxxxxxxxxxxxxxxx (th_MR_s u86 oq86 w)
  have k25xxxxxxxxxxxxxxxxx := tm_MAo k25xxxxxxxxxxxxxxxx oq86 (by have q9 := lt_b25; omega)
  have n25xxxxxxxxxxxxxxxxx : ¬ th_MR G Γ79 H86 b25 := fun w => n25xxxxxxxxxxxxxxxx (th_MR_s u86 oq86 w)
  have lbn : H0.size ≤ b86 := by omega
  have ltn : b86 < H86.size := by omega
  have szn : G.2.2 ≤ b86 := by have q9 := hB.1.2.2.2.2.2.1; have q8 := hB.1.2.2.2.2.2.2; omega
  have ne_b17 : b17 ≠ b86 := by have q9 := lt_b17; omega
  have nr_b86_b17 : b86 ≠ b17 := fun e => ne_b17 e.symm
  have ne_b25 : b25 ≠ b86 := by have q9 := lt_b25; omega
  have nr_b86_b25 : b86 ≠ b25 := fun e => ne_b25 e.symm
  have ne_b5 : b5 ≠ b86 := by have q9 := lt_b5; omega
  have ne_b31 : b31 ≠ b86 := by have q9 := lt_b31; omega
  have ne_b42 : b42 ≠ b86 := by have q9 := lt_b42; omega
  have ne_b53 : b53 ≠ b86 := by have q9 := lt_b53; omega
  have ne_b64 : b64 ≠ b86 := by have q9 := lt_b64; omega
  have ne_b75 : b75 ≠ b86 := by have q9 := lt_b75; omega
  have hs : H86.size = H0.size + 58 := by omega
  have lt_b17 : b17 < H86.size := by omega
  have lt_b25 : b25 < H86.size := by omega
  have lt_b5 : b5 < H86.size := by omega
  have lt_b31 : b31 < H86.size := by omega
  have lt_b42 : b42 < H86.size := by omega
  have lt_b53 : b53 < H86.size := by omega
  have lt_b64 : b64 < H86.size := by omega
  have lt_b75 : b75 < H86.size := by omega
  have of_b86 : b86 = a0 + 58 := by omega
  refine lv_dup hx hb dX11_init_89 rfl ?_
  refine th_call (th_runI (As := []) (rest := [.ref b86, .ref a0]) hC mf_X6_init km_X11_57 im_X6_init rfl (c_X6_init_i l G Γ79 H86 hB.1.1 hB.2.1 b86 kn szn ltn nb (by omega)) rfl rfl ⟨Nat.le_of_ble_eq_true rfl, Nat.le_of_ble_eq_true rfl⟩ rfl hl.1 rfl (Nat.le_of_ble_eq_true rfl) dX11_init_90 ⟨Nat.le_of_ble_eq_true rfl, Nat.le_of_ble_eq_true rfl⟩) hB.1.2.1 (fun v90 H90 locs hp hz hS => ?_)
  obtain ⟨rfl, Γ90, hy, hi, hzn⟩ := hp
  have hB := th_NR_c hB hy lbn hS
  have hIN := th_IN_c hIN hy hi
  have ho := tc_OBc ho hy (by omega) (by omega)
  have n17xxxxxxxxxxxxxxxxxxxx : ¬ th_MR G Γ90 H90 b17 := fun w => (hy.2.2.2.1 _ w).elim n17xxxxxxxxxxxxxxxxxxx (fun w => absurd w (by have q9 := lt_b17; omega))
  have k17xxxxxxxxxxxxxxxxxxxx := tc_MAc k17xxxxxxxxxxxxxxxxxxx hy ne_b17
  have n25xxxxxxxxxxxxxxxxxx : ¬ th_MR G Γ90 H90 b25 := fun w => (hy.2.2.2.1 _ w).elim n25xxxxxxxxxxxxxxxxx (fun w => absurd w (by have q9 := lt_b25; omega))
  have k25xxxxxxxxxxxxxxxxxx := tc_MAc k25xxxxxxxxxxxxxxxxx hy ne_b25
  have hr_b5xxxxxx := (hy.1.2.2 b5 lt_b5 ne_b5).1.trans hr_b5xxxxx
  have hr_b31xxxxx := (hy.1.2.2 b31 lt_b31 ne_b31).1.trans hr_b31xxxx
  have hr_b42xxxx := (hy.1.2.2 b42 lt_b42 ne_b42).1.trans hr_b42xxx
  have hr_b53xxx := (hy.1.2.2 b53 lt_b53 ne_b53).1.trans hr_b53xx
  have hr_b64xx := (hy.1.2.2 b64 lt_b64 ne_b64).1.trans hr_b64x
  have hr_b75x := (hy.1.2.2 b75 lt_b75 ne_b75).1.trans hr_b75
  have hr_b86 := hy.2.2.1
  have hs : H90.size = H0.size + 61 := by omega
  have lt_b86 : b86 < H90.size := by omega
  have lt_b17 : b17 < H90.size := by omega
  have lt_b25 : b25 < H90.size := by omega
  have lt_b5 : b5 < H90.size := by omega
  have lt_b31 : b31 < H90.size := by omega
  have lt_b42 : b42 < H90.size := by omega
  have lt_b53 : b53 < H90.size := by omega
  have lt_b64 : b64 < H90.size := by omega
  have lt_b75 : b75 < H90.size := by omega
  have hN := th_new_c hN hy
  refine W.eq (g2 := F0 m 93 ls [.ref b86, .ref a0]) rfl ?_
  refine tc_putF hC cf_X11 hB.1 ho (j := 8) (by decide) rfl hnm rfl rfl kf_X11_58 dX11_init_93 (fun H93 locs hB1 ho z93 oq93 => ?_)
  have hu := hB.1.2.2.2.2.1
  have hB := th_NR_s hB hB1 hu hB.2.2.1 (by omega) oq93
  have hIN := th_IN_s hIN hu oq93
  have k17xxxxxxxxxxxxxxxxxxxxx := tm_MAo k17xxxxxxxxxxxxxxxxxxxx oq93 (by have q9 := lb17; omega)
  have n17xxxxxxxxxxxxxxxxxxxxx : ¬ th_MR G Γ90 H93 b17 := fun w => n17xxxxxxxxxxxxxxxxxxxx (th_MR_s hu oq93 w)
  have k25xxxxxxxxxxxxxxxxxxx := tm_MAo k25xxxxxxxxxxxxxxxxxx oq93 (by have q9 := lb25; omega)
  have n25xxxxxxxxxxxxxxxxxxx : ¬ th_MR G Γ90 H93 b25 := fun w => n25xxxxxxxxxxxxxxxxxx (th_MR_s hu oq93 w)
  have hs : H93.size = H0.size + 61 := by omega
  have lt_b17 : b17 < H93.size := by omega
  have lt_b25 : b25 < H93.size := by omega
  have lt_b5 : b5 < H93.size := by omega
  have lt_b31 : b31 < H93.size := by omega
  have lt_b42 : b42 < H93.size := by omega
  have lt_b53 : b53 < H93.size := by omega
  have lt_b64 : b64 < H93.size := by omega
  have lt_b75 : b75 < H93.size := by omega
  have lt_b86 : b86 < H93.size := by omega
  refine lv_aload_n hx hb dX11_init_96 rfl (lv_at hl 0 rfl) ?_
  refine tc_new hC cf_X2 hB.1 kw_247 kw_248 kw_8 (Nat.le_of_ble_eq_true rfl) (Nat.le_of_ble_eq_true rfl) dX11_init_97 (fun b97 H97 eb97 zb97 oq97 hB1 kn => ?_)
  have n970 : ¬ th_MR G Γ90 H93 b97 := fun w => absurd (th_MR_lt hB.2.1 w) (by omega)
  have u97 := kn.1
  have hB := th_NR_s hB hB1 u97 n970 (by omega) oq97
  have hIN := th_IN_s hIN u97 oq97
  have nb : ¬ th_MR G Γ90 H97 b97 := fun w => n970 (th_MR_s u97 oq97 w)
  have ho := tc_OBo ho oq97 (by omega)
  have k17xxxxxxxxxxxxxxxxxxxxxx := tm_MAo k17xxxxxxxxxxxxxxxxxxxxx oq97 (by have q9 := lt_b17; omega)
  have n17xxxxxxxxxxxxxxxxxxxxxx : ¬ th_MR G Γ90 H97 b17 := fun w => n17xxxxxxxxxxxxxxxxxxxxx (th_MR_s u97 oq97 w)
  have k25xxxxxxxxxxxxxxxxxxxx := tm_MAo k25xxxxxxxxxxxxxxxxxxx oq97 (by have q9 := lt_b25; omega)
  have n25xxxxxxxxxxxxxxxxxxxx : ¬ th_MR G Γ90 H97 b25 := fun w => n25xxxxxxxxxxxxxxxxxxx (th_MR_s u97 oq97 w)
  have lbn : H0.size ≤ b97 := by omega
  have ltn : b97 < H97.size := by omega
  have szn : G.2.2 ≤ b97 := by have q9 := hB.1.2.2.2.2.2.1; have q8 := hB.1.2.2.2.2.2.2; omega
  have ne_b17 : b17 ≠ b97 := by have q9 := lt_b17; omega
  have nr_b97_b17 : b97 ≠ b17 := fun e => ne_b17 e.symm
  have ne_b25 : b25 ≠ b97 := by have q9 := lt_b25; omega
  have nr_b97_b25 : b97 ≠ b25 := fun e => ne_b25 e.symm
  have ne_b5 : b5 ≠ b97 := by have q9 := lt_b5; omega
  have ne_b31 : b31 ≠ b97 := by have q9 := lt_b31; omega
  have ne_b42 : b42 ≠ b97 := by have q9 := lt_b42; omega
  have ne_b53 : b53 ≠ b97 := by have q9 := lt_b53; omega
  have ne_b64 : b64 ≠ b97 := by have q9 := lt_b64; omega
  have ne_b75 : b75 ≠ b97 := by have q9 := lt_b75; omega
  have ne_b86 : b86 ≠ b97 := by have q9 := lt_b86; omega
  have hs : H97.size = H0.size + 62 := by omega
  have lt_b17 : b17 < H97.size := by omega
  have lt_b25 : b25 < H97.size := by omega
  have lt_b5 : b5 < H97.size := by omega
  have lt_b31 : b31 < H97.size := by omega
  have lt_b42 : b42 < H97.size := by omega
  have lt_b53 : b53 < H97.size := by omega
  have lt_b64 : b64 < H97.size := by omega
  have lt_b75 : b75 < H97.size := by omega
  have lt_b86 : b86 < H97.size := by omega
  have of_b97 : b97 = a0 + 62 := by omega
  refine lv_dup hx hb dX11_init_100 rfl ?_
  refine th_call (th_runI (As := []) (rest := [.ref b97, .ref a0]) hC mf_X2_init km_X11_64 im_X2_init rfl (c_X2_init_i l G Γ90 H97 hB.1.1 hB.2.1 b97 kn szn ltn nb (by omega)) rfl rfl ⟨Nat.le_of_ble_eq_true rfl, Nat.le_of_ble_eq_true rfl⟩ rfl hl.1 rfl (Nat.le_of_ble_eq_true rfl) dX11_init_101 ⟨Nat.le_of_ble_eq_true rfl, Nat.le_of_ble_eq_true rfl⟩) hB.1.2.1 (fun v101 H101 locs hp hz hS => ?_)
  obtain ⟨rfl, Γ101, hy, hi, hzn⟩ := hp
  have hB := th_NR_c hB hy lbn hS
  have hIN := th_IN_c hIN hy hi
  have ho := tc_OBc ho hy (by omega) (by omega)
  have n17xxxxxxxxxxxxxxxxxxxxxxx : ¬ th_MR G Γ101 H101 b17 := fun w => (hy.2.2.2.1 _ w).elim n17xxxxxxxxxxxxxxxxxxxxxx (fun w => absurd w (by have q9 := lt_b17; omega))
  have k17xxxxxxxxxxxxxxxxxxxxxxx := tc_MAc k17xxxxxxxxxxxxxxxxxxxxxx hy ne_b17
  have n25xxxxxxxxxxxxxxxxxxxxx : ¬ th_MR G Γ101 H101 b25 := fun w => (hy.2.2.2.1 _ w).elim n25xxxxxxxxxxxxxxxxxxxx (fun w => absurd w (by have q9 := lt_b25; omega))
  have k25xxxxxxxxxxxxxxxxxxxxx := tc_MAc k25xxxxxxxxxxxxxxxxxxxx hy ne_b25
  have hr_b5xxxxxxx := (hy.1.2.2 b5 lt_b5 ne_b5).1.trans hr_b5xxxxxx
  have hr_b31xxxxxx := (hy.1.2.2 b31 lt_b31 ne_b31).1.trans hr_b31xxxxx
  have hr_b42xxxxx := (hy.1.2.2 b42 lt_b42 ne_b42).1.trans hr_b42xxxx
  have hr_b53xxxx := (hy.1.2.2 b53 lt_b53 ne_b53).1.trans hr_b53xxx
  have hr_b64xxx := (hy.1.2.2 b64 lt_b64 ne_b64).1.trans hr_b64xx
  have hr_b75xx := (hy.1.2.2 b75 lt_b75 ne_b75).1.trans hr_b75x
  have hr_b86x := (hy.1.2.2 b86 lt_b86 ne_b86).1.trans hr_b86
  have hr_b97 := hy.2.2.1
  have hs : H101.size = H0.size + 66 := by omega
  have lt_b97 : b97 < H101.size := by omega
  have lt_b17 : b17 < H101.size := by omega
  have lt_b25 : b25 < H101.size := by omega
  have lt_b5 : b5 < H101.size := by omega
  have lt_b31 : b31 < H101.size := by omega
  have lt_b42 : b42 < H101.size := by omega
  have lt_b53 : b53 < H101.size := by omega
  have lt_b64 : b64 < H101.size := by omega
  have lt_b75 : b75 < H101.size := by omega
  have lt_b86 : b86 < H101.size := by omega
  have hN := th_new_c hN hy
  refine W.eq (g2 := F0 m 104 ls [.ref b97, .ref a0]) rfl ?_
  refine tc_putF hC cf_X11 hB.1 ho (j := 9) (by decide) rfl hnm rfl rfl kf_X11_65 dX11_init_104 (fun H104 locs hB1 ho z104 oq104 => ?_)
  have hu := hB.1.2.2.2.2.1
  have hB := th_NR_s hB hB1 hu hB.2.2.1 (by omega) oq104
  have hIN := th_IN_s hIN hu oq104
  have k17xxxxxxxxxxxxxxxxxxxxxxxx := tm_MAo k17xxxxxxxxxxxxxxxxxxxxxxx oq104 (by have q9 := lb17; omega)
  have n17xxxxxxxxxxxxxxxxxxxxxxxx : ¬ th_MR G Γ101 H104 b17 := fun w => n17xxxxxxxxxxxxxxxxxxxxxxx (th_MR_s hu oq104 w)
  have k25xxxxxxxxxxxxxxxxxxxxxx := tm_MAo k25xxxxxxxxxxxxxxxxxxxxx oq104 (by have q9 := lb25; omega)
  have n25xxxxxxxxxxxxxxxxxxxxxx : ¬ th_MR G Γ101 H104 b25 := fun w => n25xxxxxxxxxxxxxxxxxxxxx (th_MR_s hu oq104 w)
  have hs : H104.size = H0.size + 66 := by omega
  have lt_b17 : b17 < H104.size := by omega
  have lt_b25 : b25 < H104.size := by omega
  have lt_b5 : b5 < H104.size := by omega
  have lt_b31 : b31 < H104.size := by omega
  have lt_b42 : b42 < H104.size := by omega
  have lt_b53 : b53 < H104.size := by omega
  have lt_b64 : b64 < H104.size := by omega
  have lt_b75 : b75 < H104.size := by omega
  have lt_b86 : b86 < H104.size := by omega
  have lt_b97 : b97 < H104.size := by omega
  refine lv_aload_n hx hb dX11_init_107 rfl (lv_at hl 0 rfl) ?_
  refine tc_new hC cf_X4 hB.1 kw_259 kw_260 kw_9 (Nat.le_of_ble_eq_true rfl) (Nat.le_of_ble_eq_true rfl) dX11_init_108 (fun b108 H108 eb108 zb108 oq108 hB1 kn => ?_)
  have n1080 : ¬ th_MR G Γ101 H104 b108 := fun w => absurd (th_MR_lt hB.2.1 w) (by omega)
  have u108 := kn.1
  have hB := th_NR_s hB hB1 u108 n1080 (by omega) oq108
  have hIN := th_IN_s hIN u108 oq108
  have nb : ¬ th_MR G Γ101 H108 b108 := fun w => n1080 (th_MR_s u108 oq108 w)
  have ho := tc_OBo ho oq108 (by omega)
  have k17xxxxxxxxxxxxxxxxxxxxxxxxx := tm_MAo k17xxxxxxxxxxxxxxxxxxxxxxxx oq108 (by have q9 := lt_b17; omega)
  have n17xxxxxxxxxxxxxxxxxxxxxxxxx : ¬ th_MR G Γ101 H108 b17 := fun w => n17xxxxxxxxxxxxxxxxxxxxxxxx (th_MR_s u108 oq108 w)
  have k25xxxxxxxxxxxxxxxxxxxxxxx := tm_MAo k25xxxxxxxxxxxxxxxxxxxxxx oq108 (by have q9 := lt_b25; omega)
  have n25xxxxxxxxxxxxxxxxxxxxxxx : ¬ th_MR G Γ101 H108 b25 := fun w => n25xxxxxxxxxxxxxxxxxxxxxx (th_MR_s u108 oq108 w)
  have lbn : H0.size ≤ b108 := by omega
  have ltn : b108 < H108.size := by omega
  have szn : G.2.2 ≤ b108 := by have q9 := hB.1.2.2.2.2.2.1; have q8 := hB.1.2.2.2.2.2.2; omega
  have ne_b17 : b17 ≠ b108 := by have q9 := lt_b17; omega
  have nr_b108_b17 : b108 ≠ b17 := fun e => ne_b17 e.symm
  have ne_b25 : b25 ≠ b108 := by have q9 := lt_b25; omega
  have nr_b108_b25 : b108 ≠ b25 := fun e => ne_b25 e.symm
  have ne_b5 : b5 ≠ b108 := by have q9 := lt_b5; omega
  have ne_b31 : b31 ≠ b108 := by have q9 := lt_b31; omega
  have ne_b42 : b42 ≠ b108 := by have q9 := lt_b42; omega
  have ne_b53 : b53 ≠ b108 := by have q9 := lt_b53; omega
  have ne_b64 : b64 ≠ b108 := by have q9 := lt_b64; omega
  have ne_b75 : b75 ≠ b108 := by have q9 := lt_b75; omega
  have ne_b86 : b86 ≠ b108 := by have q9 := lt_b86; omega
  have ne_b97 : b97 ≠ b108 := by have q9 := lt_b97; omega
  have hs : H108.size = H0.size + 67 := by omega
  have lt_b17 : b17 < H108.size := by omega
  have lt_b25 : b25 < H108.size := by omega
  have lt_b5 : b5 < H108.size := by omega
  have lt_b31 : b31 < H108.size := by omega
  have lt_b42 : b42 < H108.size := by omega
  have lt_b53 : b53 < H108.size := by omega
  have lt_b64 : b64 < H108.size := by omega
  have lt_b75 : b75 < H108.size := by omega
  have lt_b86 : b86 < H108.size := by omega
  have lt_b97 : b97 < H108.size := by omega
  have of_b108 : b108 = a0 + 67 := by omega
  refine lv_dup hx hb dX11_init_111 rfl ?_
  refine th_call (th_runI (As := []) (rest := [.ref b108, .ref a0]) hC mf_X4_init km_X11_71 im_X4_init rfl (c_X4_init_i l G Γ101 H108 hB.1.1 hB.2.1 b108 kn szn ltn nb (by omega)) rfl rfl ⟨Nat.le_of_ble_eq_true rfl, Nat.le_of_ble_eq_true rfl⟩ rfl hl.1 rfl (Nat.le_of_ble_eq_true rfl) dX11_init_112 ⟨Nat.le_of_ble_eq_true rfl, Nat.le_of_ble_eq_true rfl⟩) hB.1.2.1 (fun v112 H112 locs hp hz hS => ?_)
  obtain ⟨rfl, Γ112, hy, hi, hzn⟩ := hp
  have hB := th_NR_c hB hy lbn hS
  have hIN := th_IN_c hIN hy hi
  have ho := tc_OBc ho hy (by omega) (by omega)
  have n17xxxxxxxxxxxxxxxxxxxxxxxxxx : ¬ th_MR G Γ112 H112 b17 := fun w => (hy.2.2.2.1 _ w).elim n17xxxxxxxxxxxxxxxxxxxxxxxxx (fun w => absurd w (by have q9 := lt_b17; omega))
  have k17xxxxxxxxxxxxxxxxxxxxxxxxxx := tc_MAc k17xxxxxxxxxxxxxxxxxxxxxxxxx hy ne_b17
  have n25xxxxxxxxxxxxxxxxxxxxxxxx : ¬ th_MR G Γ112 H112 b25 := fun w => (hy.2.2.2.1 _ w).elim n25xxxxxxxxxxxxxxxxxxxxxxx (fun w => absurd w (by have q9 := lt_b25; omega))
  have k25xxxxxxxxxxxxxxxxxxxxxxxx := tc_MAc k25xxxxxxxxxxxxxxxxxxxxxxx hy ne_b25
  have hr_b5xxxxxxxx := (hy.1.2.2 b5 lt_b5 ne_b5).1.trans hr_b5xxxxxxx
  have hr_b31xxxxxxx := (hy.1.2.2 b31 lt_b31 ne_b31).1.trans hr_b31xxxxxx
  have hr_b42xxxxxx := (hy.1.2.2 b42 lt_b42 ne_b42).1.trans hr_b42xxxxx
  have hr_b53xxxxx := (hy.1.2.2 b53 lt_b53 ne_b53).1.trans hr_b53xxxx
  have hr_b64xxxx := (hy.1.2.2 b64 lt_b64 ne_b64).1.trans hr_b64xxx
  have hr_b75xxx := (hy.1.2.2 b75 lt_b75 ne_b75).1.trans hr_b75xx
  have hr_b86xx := (hy.1.2.2 b86 lt_b86 ne_b86).1.trans hr_b86x
  have hr_b97x := (hy.1.2.2 b97 lt_b97 ne_b97).1.trans hr_b97
  have hr_b108 := hy.2.2.1
  have hs : H112.size = H0.size + 77 := by omega
  have lt_b108 : b108 < H112.size := by omega
  have lt_b17 : b17 < H112.size := by omega
  have lt_b25 : b25 < H112.size := by omega
  have lt_b5 : b5 < H112.size := by omega
  have lt_b31 : b31 < H112.size := by omega
  have lt_b42 : b42 < H112.size := by omega
  have lt_b53 : b53 < H112.size := by omega
  have lt_b64 : b64 < H112.size := by omega
  have lt_b75 : b75 < H112.size := by omega
  have lt_b86 : b86 < H112.size := by omega
  have lt_b97 : b97 < H112.size := by omega
  have hN := th_new_c hN hy
  refine W.eq (g2 := F0 m 115 ls [.ref b108, .ref a0]) rfl ?_
  refine tc_putF hC cf_X11 hB.1 ho (j := 10) (by decide) rfl hnm rfl rfl kf_X11_72 dX11_init_115 (fun H115 locs hB1 ho z115 oq115 => ?_)
  have hu := hB.1.2.2.2.2.1
  have hB := th_NR_s hB hB1 hu hB.2.2.1 (by omega) oq115
  have hIN := th_IN_s hIN hu oq115
  have k17xxxxxxxxxxxxxxxxxxxxxxxxxxx := tm_MAo k17xxxxxxxxxxxxxxxxxxxxxxxxxx oq115 (by have q9 := lb17; omega)
  have n17xxxxxxxxxxxxxxxxxxxxxxxxxxx : ¬ th_MR G Γ112 H115 b17 := fun w => n17xxxxxxxxxxxxxxxxxxxxxxxxxx (th_MR_s hu oq115 w)
  have k25xxxxxxxxxxxxxxxxxxxxxxxxx := tm_MAo k25xxxxxxxxxxxxxxxxxxxxxxxx oq115 (by have q9 := lb25; omega)
  have n25xxxxxxxxxxxxxxxxxxxxxxxxx : ¬ th_MR G Γ112 H115 b25 := fun w => n25xxxxxxxxxxxxxxxxxxxxxxxx (th_MR_s hu oq115 w)
  have hs : H115.size = H0.size + 77 := by omega
  have lt_b17 : b17 < H115.size := by omega
  have lt_b25 : b25 < H115.size := by omega
  have lt_b5 : b5 < H115.size := by omega
  have lt_b31 : b31 < H115.size := by omega
  have lt_b42 : b42 < H115.size := by omega
  have lt_b53 : b53 < H115.size := by omega
  have lt_b64 : b64 < H115.size := by omega
  have lt_b75 : b75 < H115.size := by omega
  have lt_b86 : b86 < H115.size := by omega
  have lt_b97 : b97 < H115.size := by omega
  have lt_b108 : b108 < H115.size := by omega
  refine lv_aload_n hx hb dX11_init_118 rfl (lv_at hl 0 rfl) ?_
  refine tc_new hC cf_X7 hB.1 kw_284 kw_285 kw_10 (Nat.le_of_ble_eq_true rfl) (Nat.le_of_ble_eq_true rfl) dX11_init_119 (fun b119 H119 eb119 zb119 oq119 hB1 kn => ?_)
  have n1190 : ¬ th_MR G Γ112 H115 b119 := fun w => absurd (th_MR_lt hB.2.1 w) (by omega)
  have u119 := kn.1
  have hB := th_NR_s hB hB1 u119 n1190 (by omega) oq119
  have hIN := th_IN_s hIN u119 oq119
  have nb : ¬ th_MR G Γ112 H119 b119 := fun w => n1190 (th_MR_s u119 oq119 w)
  have ho := tc_OBo ho oq119 (by omega)
  have k17xxxxxxxxxxxxxxxxxxxxxxxxxxxx := tm_MAo k17xxxxxxxxxxxxxxxxxxxxxxxxxxx oq119 (by have q9 := lt_b17; omega)
  have n17xxxxxxxxxxxxxxxxxxxxxxxxxxxx : ¬ th_MR G Γ112 H119 b17 := fun w => n17xxxxxxxxxxxxxxxxxxxxxxxxxxx (th_MR_s u119 oq119 w)
  have k25xxxxxxxxxxxxxxxxxxxxxxxxxx := tm_MAo k25xxxxxxxxxxxxxxxxxxxxxxxxx oq119 (by have q9 := lt_b25; omega)
  have n25xxxxxxxxxxxxxxxxxxxxxxxxxx : ¬ th_MR G Γ112 H119 b25 := fun w => n25xxxxxxxxxxxxxxxxxxxxxxxxx (th_MR_s u119 oq119 w)
  have lbn : H0.size ≤ b119 := by omega
  have ltn : b119 < H119.size := by omega
  have szn : G.2.2 ≤ b119 := by have q9 := hB.1.2.2.2.2.2.1; have q8 := hB.1.2.2.2.2.2.2; omega
  have ne_b17 : b17 ≠ b119 := by have q9 := lt_b17; omega
  have nr_b119_b17 : b119 ≠ b17 := fun e => ne_b17 e.symm
  have ne_b25 : b25 ≠ b119 := by have q9 := lt_b25; omega
  have nr_b119_b25 : b119 ≠ b25 := fun e => ne_b25 e.symm
  have ne_b5 : b5 ≠ b119 := by have q9 := lt_b5; omega
  have ne_b31 : b31 ≠ b119 := by have q9 := lt_b31; omega
  have ne_b42 : b42 ≠ b119 := by have q9 := lt_b42; omega
  have ne_b53 : b53 ≠ b119 := by have q9 := lt_b53; omega
  have ne_b64 : b64 ≠ b119 := by have q9 := lt_b64; omega
  have ne_b75 : b75 ≠ b119 := by have q9 := lt_b75; omega
  have ne_b86 : b86 ≠ b119 := by have q9 := lt_b86; omega
  have ne_b97 : b97 ≠ b119 := by have q9 := lt_b97; omega
  have ne_b108 : b108 ≠ b119 := by have q9 := lt_b108; omega
  have hs : H119.size = H0.size + 78 := by omega
  have lt_b17 : b17 < H119.size := by omega
  have lt_b25 : b25 < H119.size := by omega
  have lt_b5 : b5 < H119.size := by omega
  have lt_b31 : b31 < H119.size := by omega
  have lt_b42 : b42 < H119.size := by omega
  have lt_b53 : b53 < H119.size := by omega
  have lt_b64 : b64 < H119.size := by omega
  have lt_b75 : b75 < H119.size := by omega
  have lt_b86 : b86 < H119.size := by omega
  have lt_b97 : b97 < H119.size := by omega
  have lt_b108 : b108 < H119.size := by omega
  have of_b119 : b119 = a0 + 78 := by omega
  refine lv_dup hx hb dX11_init_122 rfl ?_
  have hnoc : ∀ a o : Nat, Γ112 a ≠ (12, o) := fun a o w => by
    by_cases q9 : a = a0 ∨ H0.size ≤ a
    · exact absurd (hN a 12 o w q9 rfl) (by decide)
    · exact hno a o ((hB.1.2.2.2.1 a (by omega) (by omega)).symm.trans w)
  refine th_call (th_runI (As := []) (rest := [.ref b119, .ref a0]) hC mf_X7_init km_X11_78 im_X7_init rfl (c_X7_init_i l G Γ112 H119 hB.1.1 hB.2.1 b119 kn szn ltn nb (by omega) hnoc) rfl rfl ⟨Nat.le_of_ble_eq_true rfl, Nat.le_of_ble_eq_true rfl⟩ rfl hl.1 rfl (Nat.le_of_ble_eq_true rfl) dX11_init_123 ⟨Nat.le_of_ble_eq_true rfl, Nat.le_of_ble_eq_true rfl⟩) hB.1.2.1 (fun v123 H123 locs hp hz hS => ?_)
  obtain ⟨rfl, Γ123, hy, hi, hzn⟩ := hp
  have hB := th_NR_c hB hy lbn hS
  have hIN := th_IN_c hIN hy hi
  have ho := tc_OBc ho hy (by omega) (by omega)
  have n17xxxxxxxxxxxxxxxxxxxxxxxxxxxxx : ¬ th_MR G Γ123 H123 b17 := fun w => (hy.2.2.2.1 _ w).elim n17xxxxxxxxxxxxxxxxxxxxxxxxxxxx (fun w => absurd w (by have q9 := lt_b17; omega))
  have k17xxxxxxxxxxxxxxxxxxxxxxxxxxxxx := tc_MAc k17xxxxxxxxxxxxxxxxxxxxxxxxxxxx hy ne_b17
  have n25xxxxxxxxxxxxxxxxxxxxxxxxxxx : ¬ th_MR G Γ123 H123 b25 := fun w => (hy.2.2.2.1 _ w).elim n25xxxxxxxxxxxxxxxxxxxxxxxxxx (fun w => absurd w (by have q9 := lt_b25; omega))
  have k25xxxxxxxxxxxxxxxxxxxxxxxxxxx := tc_MAc k25xxxxxxxxxxxxxxxxxxxxxxxxxx hy ne_b25
  have hr_b5xxxxxxxxx := (hy.1.2.2 b5 lt_b5 ne_b5).1.trans hr_b5xxxxxxxx
  have hr_b31xxxxxxxx := (hy.1.2.2 b31 lt_b31 ne_b31).1.trans hr_b31xxxxxxx
  have hr_b42xxxxxxx := (hy.1.2.2 b42 lt_b42 ne_b42).1.trans hr_b42xxxxxx
  have hr_b53xxxxxx := (hy.1.2.2 b53 lt_b53 ne_b53).1.trans hr_b53xxxxx
  have hr_b64xxxxx := (hy.1.2.2 b64 lt_b64 ne_b64).1.trans hr_b64xxxx
  have hr_b75xxxx := (hy.1.2.2 b75 lt_b75 ne_b75).1.trans hr_b75xxx
  have hr_b86xxx := (hy.1.2.2 b86 lt_b86 ne_b86).1.trans hr_b86xx
  have hr_b97xx := (hy.1.2.2 b97 lt_b97 ne_b97).1.trans hr_b97x
  have hr_b108x := (hy.1.2.2 b108 lt_b108 ne_b108).1.trans hr_b108
  have hr_b119 := hy.2.2.1
  have hs : H123.size = H0.size + 87 := by omega
  have lt_b119 : b119 < H123.size := by omega
  have lt_b17 : b17 < H123.size := by omega
  have lt_b25 : b25 < H123.size := by omega
  have lt_b5 : b5 < H123.size := by omega
  have lt_b31 : b31 < H123.size := by omega
  have lt_b42 : b42 < H123.size := by omega
  have lt_b53 : b53 < H123.size := by omega
  have lt_b64 : b64 < H123.size := by omega
  have lt_b75 : b75 < H123.size := by omega
  have lt_b86 : b86 < H123.size := by omega
  have lt_b97 : b97 < H123.size := by omega
  have lt_b108 : b108 < H123.size := by omega
  have hN := th_new_c hN hy
  refine W.eq (g2 := F0 m 126 ls [.ref b119, .ref a0]) rfl ?_
  refine tc_putF hC cf_X11 hB.1 ho (j := 11) (by decide) rfl hnm rfl rfl kf_X11_79 dX11_init_126 (fun H126 locs hB1 ho z126 oq126 => ?_)
  have hu := hB.1.2.2.2.2.1
  have hB := th_NR_s hB hB1 hu hB.2.2.1 (by omega) oq126
  have hIN := th_IN_s hIN hu oq126
  have k17xxxxxxxxxxxxxxxxxxxxxxxxxxxxxx := tm_MAo k17xxxxxxxxxxxxxxxxxxxxxxxxxxxxx oq126 (by have q9 := lb17; omega)
  have n17xxxxxxxxxxxxxxxxxxxxxxxxxxxxxx : ¬ th_MR G Γ123 H126 b17 := fun w => n17xxxxxxxxxxxxxxxxxxxxxxxxxxxxx (th_MR_s hu oq126 w)
  have k25xxxxxxxxxxxxxxxxxxxxxxxxxxxx := tm_MAo k25xxxxxxxxxxxxxxxxxxxxxxxxxxx oq126 (by have q9 := lb25; omega)
  have n25xxxxxxxxxxxxxxxxxxxxxxxxxxxx : ¬ th_MR G Γ123 H126 b25 := fun w => n25xxxxxxxxxxxxxxxxxxxxxxxxxxx (th_MR_s hu oq126 w)
  have hs : H126.size = H0.size + 87 := by omega
  have lt_b17 : b17 < H126.size := by omega
  have lt_b25 : b25 < H126.size := by omega
  have lt_b5 : b5 < H126.size := by omega
  have lt_b31 : b31 < H126.size := by omega
  have lt_b42 : b42 < H126.size := by omega
  have lt_b53 : b53 < H126.size := by omega
  have lt_b64 : b64 < H126.size := by omega
  have lt_b75 : b75 < H126.size := by omega
  have lt_b86 : b86 < H126.size := by omega
  have lt_b97 : b97 < H126.size := by omega
  have lt_b108 : b108 < H126.size := by omega
  have lt_b119 : b119 < H126.size := by omega
  refine lv_aload_n hx hb dX11_init_129 rfl (lv_at hl 0 rfl) ?_
  refine tc_new hC cf_X0 hB.1 kw_367 kw_368 kw_13 (Nat.le_of_ble_eq_true rfl) (Nat.le_of_ble_eq_true rfl) dX11_init_130 (fun b130 H130 eb130 zb130 oq130 hB1 kn => ?_)
  have n1300 : ¬ th_MR G Γ123 H126 b130 := fun w => absurd (th_MR_lt hB.2.1 w) (by omega)
  have u130 := kn.1
  have hB := th_NR_s hB hB1 u130 n1300 (by omega) oq130
  have hIN := th_IN_s hIN u130 oq130
  have nb : ¬ th_MR G Γ123 H130 b130 := fun w => n1300 (th_MR_s u130 oq130 w)
  have ho := tc_OBo ho oq130 (by omega)
  have k17xxxxxxxxxxxxxxxxxxxxxxxxxxxxxxx := tm_MAo k17xxxxxxxxxxxxxxxxxxxxxxxxxxxxxx oq130 (by have q9 := lt_b17; omega)
  have n17xxxxxxxxxxxxxxxxxxxxxxxxxxxxxxx : ¬ th_MR G Γ123 H130 b17 := fun w => n17xxxxxxxxxxxxxxxxxxxxxxxxxxxxxx (th_MR_s u130 oq130 w)
  have k25xxxxxxxxxxxxxxxxxxxxxxxxxxxxx := tm_MAo k25xxxxxxxxxxxxxxxxxxxxxxxxxxxx oq130 (by have q9 := lt_b25; omega)
  have n25xxxxxxxxxxxxxxxxxxxxxxxxxxxxx : ¬ th_MR G Γ123 H130 b25 := fun w => n25xxxxxxxxxxxxxxxxxxxxxxxxxxxx (th_MR_s u130 oq130 w)
  have lbn : H0.size ≤ b130 := by omega
  have ltn : b130 < H130.size := by omega
  have szn : G.2.2 ≤ b130 := by have q9 := hB.1.2.2.2.2.2.1; have q8 := hB.1.2.2.2.2.2.2; omega
  have ne_b17 : b17 ≠ b130 := by have q9 := lt_b17; omega
  have nr_b130_b17 : b130 ≠ b17 := fun e => ne_b17 e.symm
  have ne_b25 : b25 ≠ b130 := by have q9 := lt_b25; omega
  have nr_b130_b25 : b130 ≠ b25 := fun e => ne_b25 e.symm
  have ne_b5 : b5 ≠ b130 := by have q9 := lt_b5; omega
  have ne_b31 : b31 ≠ b130 := by have q9 := lt_b31; omega
  have ne_b42 : b42 ≠ b130 := by have q9 := lt_b42; omega
  have ne_b53 : b53 ≠ b130 := by have q9 := lt_b53; omega
  have ne_b64 : b64 ≠ b130 := by have q9 := lt_b64; omega
  have ne_b75 : b75 ≠ b130 := by have q9 := lt_b75; omega
  have ne_b86 : b86 ≠ b130 := by have q9 := lt_b86; omega
  have ne_b97 : b97 ≠ b130 := by have q9 := lt_b97; omega
  have ne_b108 : b108 ≠ b130 := by have q9 := lt_b108; omega
  have ne_b119 : b119 ≠ b130 := by have q9 := lt_b119; omega
  have hs : H130.size = H0.size + 88 := by omega
  have lt_b17 : b17 < H130.size := by omega
  have lt_b25 : b25 < H130.size := by omega
  have lt_b5 : b5 < H130.size := by omega
  have lt_b31 : b31 < H130.size := by omega
  have lt_b42 : b42 < H130.size := by omega
  have lt_b53 : b53 < H130.size := by omega
  have lt_b64 : b64 < H130.size := by omega
  have lt_b75 : b75 < H130.size := by omega
  have lt_b86 : b86 < H130.size := by omega
  have lt_b97 : b97 < H130.size := by omega
  have lt_b108 : b108 < H130.size := by omega
  have lt_b119 : b119 < H130.size := by omega
  have of_b130 : b130 = a0 + 88 := by omega
  refine lv_dup hx hb dX11_init_133 rfl ?_
  refine th_call (th_runI (As := []) (rest := [.ref b130, .ref a0]) hC mf_X0_init km_X11_85 im_X0_init rfl (c_X0_init_i l G Γ123 H130 hB.1.1 hB.2.1 b130 kn szn ltn nb (by omega)) rfl rfl ⟨Nat.le_of_ble_eq_true rfl, Nat.le_of_ble_eq_true rfl⟩ rfl hl.1 rfl (Nat.le_of_ble_eq_true rfl) dX11_init_134 ⟨Nat.le_of_ble_eq_true rfl, Nat.le_of_ble_eq_true rfl⟩) hB.1.2.1 (fun v134 H134 locs hp hz hS => ?_)
  obtain ⟨rfl, Γ134, hy, hi, hzn⟩ := hp
  have hB := th_NR_c hB hy lbn hS
  have hIN := th_IN_c hIN hy hi
  have ho := tc_OBc ho hy (by omega) (by omega)
  have n17xxxxxxxxxxxxxxxxxxxxxxxxxxxxxxxx : ¬ th_MR G Γ134 H134 b17 := fun w => (hy.2.2.2.1 _ w).elim n17xxxxxxxxxxxxxxxxxxxxxxxxxxxxxxx (fun w => absurd w (by have q9 := lt_b17; omega))
  have k17xxxxxxxxxxxxxxxxxxxxxxxxxxxxxxxx := tc_MAc k17xxxxxxxxxxxxxxxxxxxxxxxxxxxxxxx hy ne_b17
  have n25xxxxxxxxxxxxxxxxxxxxxxxxxxxxxx : ¬ th_MR G Γ134 H134 b25 := fun w => (hy.2.2.2.1 _ w).elim n25xxxxxxxxxxxxxxxxxxxxxxxxxxxxx (fun w => absurd w (by have q9 := lt_b25; omega))
  have k25xxxxxxxxxxxxxxxxxxxxxxxxxxxxxx := tc_MAc k25xxxxxxxxxxxxxxxxxxxxxxxxxxxxx hy ne_b25
  have hr_b5xxxxxxxxxx := (hy.1.2.2 b5 lt_b5 ne_b5).1.trans hr_b5xxxxxxxxx
  have hr_b31xxxxxxxxx := (hy.1.2.2 b31 lt_b31 ne_b31).1.trans hr_b31xxxxxxxx
  have hr_b42xxxxxxxx := (hy.1.2.2 b42 lt_b42 ne_b42).1.trans hr_b42xxxxxxx
  have hr_b53xxxxxxx := (hy.1.2.2 b53 lt_b53 ne_b53).1.trans hr_b53xxxxxx
  have hr_b64xxxxxx := (hy.1.2.2 b64 lt_b64 ne_b64).1.trans hr_b64xxxxx
  have hr_b75xxxxx := (hy.1.2.2 b75 lt_b75 ne_b75).1.trans hr_b75xxxx
  have hr_b86xxxx := (hy.1.2.2 b86 lt_b86 ne_b86).1.trans hr_b86xxx
  have hr_b97xxx := (hy.1.2.2 b97 lt_b97 ne_b97).1.trans hr_b97xx
  have hr_b108xx := (hy.1.2.2 b108 lt_b108 ne_b108).1.trans hr_b108x
  have hr_b119x := (hy.1.2.2 b119 lt_b119 ne_b119).1.trans hr_b119
  have hr_b130 := hy.2.2.1
  have hs : H134.size = H0.size + 89 := by omega
  have lt_b130 : b130 < H134.size := by omega
  have lt_b17 : b17 < H134.size := by omega
  have lt_b25 : b25 < H134.size := by omega
  have lt_b5 : b5 < H134.size := by omega
  have lt_b31 : b31 < H134.size := by omega
  have lt_b42 : b42 < H134.size := by omega
  have lt_b53 : b53 < H134.size := by omega
  have lt_b64 : b64 < H134.size := by omega
  have lt_b75 : b75 < H134.size := by omega
  have lt_b86 : b86 < H134.size := by omega
  have lt_b97 : b97 < H134.size := by omega
  have lt_b108 : b108 < H134.size := by omega
  have lt_b119 : b119 < H134.size := by omega
  have hN := th_new_c hN hy
  refine W.eq (g2 := F0 m 137 ls [.ref b130, .ref a0]) rfl ?_
  refine tc_putF hC cf_X11 hB.1 ho (j := 12) (by decide) rfl hnm rfl rfl kf_X11_86 dX11_init_137 (fun H137 locs hB1 ho z137 oq137 => ?_)
  have hu := hB.1.2.2.2.2.1
  have hB := th_NR_s hB hB1 hu hB.2.2.1 (by omega) oq137
  have hIN := th_IN_s hIN hu oq137
  have k17xxxxxxxxxxxxxxxxxxxxxxxxxxxxxxxxx := tm_MAo k17xxxxxxxxxxxxxxxxxxxxxxxxxxxxxxxx oq137 (by have q9 := lb17; omega)
  have n17xxxxxxxxxxxxxxxxxxxxxxxxxxxxxxxxx : ¬ th_MR G Γ134 H137 b17 := fun w => n17xxxxxxxxxxxxxxxxxxxxxxxxxxxxxxxx (th_MR_s hu oq137 w)
  have k25xxxxxxxxxxxxxxxxxxxxxxxxxxxxxxx := tm_MAo k25xxxxxxxxxxxxxxxxxxxxxxxxxxxxxx oq137 (by have q9 := lb25; omega)
  have n25xxxxxxxxxxxxxxxxxxxxxxxxxxxxxxx : ¬ th_MR G Γ134 H137 b25 := fun w => n25xxxxxxxxxxxxxxxxxxxxxxxxxxxxxx (th_MR_s hu oq137 w)
  have hs : H137.size = H0.size + 89 := by omega
  have lt_b17 : b17 < H137.size := by omega
  have lt_b25 : b25 < H137.size := by omega
  have lt_b5 : b5 < H137.size := by omega
  have lt_b31 : b31 < H137.size := by omega
  have lt_b42 : b42 < H137.size := by omega
  have lt_b53 : b53 < H137.size := by omega
  have lt_b64 : b64 < H137.size := by omega
  have lt_b75 : b75 < H137.size := by omega
  have lt_b86 : b86 < H137.size := by omega
  have lt_b97 : b97 < H137.size := by omega
  have lt_b108 : b108 < H137.size := by omega
  have lt_b119 : b119 < H137.size := by omega
  have lt_b130 : b130 < H137.size := by omega
  refine lv_aload_n hx hb dX11_init_140 rfl (lv_at hl 0 rfl) ?_
  refine lv_iconst (v := 5) hx hb dX11_init_141 (by decide) ?_
  refine tc_newa (ty := .int) (t := 0) hC hB.1 rfl rfl rfl kw_104 (N := 5) tk_5 (by decide) (Nat.le_of_ble_eq_true rfl) (Nat.le_of_ble_eq_true rfl) dX11_init_142 (fun b142 H142 eb142 zb142 oq142 hB1 k142 => ?_)
  have u142 := k142.2.1
  have n1420 : ¬ th_MR G Γ134 H137 b142 := fun w => absurd (th_MR_lt hB.2.1 w) (by omega)
  have hB := th_NR_s hB hB1 u142 n1420 (by omega) oq142
  have hIN := th_IN_s hIN u142 oq142
  have n142 : ¬ th_MR G Γ134 H142 b142 := fun w => n1420 (th_MR_s u142 oq142 w)
  have lb142 : H0.size ≤ b142 := by omega
  have ho := tc_OBo ho oq142 (by omega)
  have k17xxxxxxxxxxxxxxxxxxxxxxxxxxxxxxxxxx := tm_MAo k17xxxxxxxxxxxxxxxxxxxxxxxxxxxxxxxxx oq142 (by have q9 := tm_lt k17xxxxxxxxxxxxxxxxxxxxxxxxxxxxxxxxx; omega)
  have n17xxxxxxxxxxxxxxxxxxxxxxxxxxxxxxxxxx : ¬ th_MR G Γ134 H142 b17 := fun w => n17xxxxxxxxxxxxxxxxxxxxxxxxxxxxxxxxx (th_MR_s u142 oq142 w)
  have k25xxxxxxxxxxxxxxxxxxxxxxxxxxxxxxxx := tm_MAo k25xxxxxxxxxxxxxxxxxxxxxxxxxxxxxxx oq142 (by have q9 := tm_lt k25xxxxxxxxxxxxxxxxxxxxxxxxxxxxxxx; omega)
  have n25xxxxxxxxxxxxxxxxxxxxxxxxxxxxxxxx : ¬ th_MR G Γ134 H142 b25 := fun w => n25xxxxxxxxxxxxxxxxxxxxxxxxxxxxxxx (th_MR_s u142 oq142 w)
  have hs : H142.size = H0.size + 90 := by omega
  have dd_b142_b17 : b17 ≠ b142 := by have q9 := lt_b17; omega
  have dd_b142_b25 : b25 ≠ b142 := by have q9 := lt_b25; omega
  have lt_b142 : b142 < H142.size := by omega
  have nr_b5_b142 : b5 ≠ b142 := by have q9 := lt_b5; omega
  have lt_b5 : b5 < H142.size := by omega
  have nr_b31_b142 : b31 ≠ b142 := by have q9 := lt_b31; omega
  have lt_b31 : b31 < H142.size := by omega
  have nr_b42_b142 : b42 ≠ b142 := by have q9 := lt_b42; omega
  have lt_b42 : b42 < H142.size := by omega
  have nr_b53_b142 : b53 ≠ b142 := by have q9 := lt_b53; omega
  have lt_b53 : b53 < H142.size := by omega
  have nr_b64_b142 : b64 ≠ b142 := by have q9 := lt_b64; omega
  have lt_b64 : b64 < H142.size := by omega
  have nr_b75_b142 : b75 ≠ b142 := by have q9 := lt_b75; omega
  have lt_b75 : b75 < H142.size := by omega
  have nr_b86_b142 : b86 ≠ b142 := by have q9 := lt_b86; omega
  have lt_b86 : b86 < H142.size := by omega
  have nr_b97_b142 : b97 ≠ b142 := by have q9 := lt_b97; omega
  have lt_b97 : b97 < H142.size := by omega
  have nr_b108_b142 : b108 ≠ b142 := by have q9 := lt_b108; omega
  have lt_b108 : b108 < H142.size := by omega
  have nr_b119_b142 : b119 ≠ b142 := by have q9 := lt_b119; omega
  have lt_b119 : b119 < H142.size := by omega
  have nr_b130_b142 : b130 ≠ b142 := by have q9 := lt_b130; omega
  have lt_b130 : b130 < H142.size := by omega
  have lt_b17 : b17 < H142.size := by omega
  have lt_b25 : b25 < H142.size := by omega
  have of_b142 : b142 = a0 + 90 := by omega
  refine tc_putF hC cf_X11 hB.1 ho (j := 13) (by decide) rfl hnm rfl rfl kf_X11_90 dX11_init_144 (fun H144 locs hB1 ho z144 oq144 => ?_)
  have hu := hB.1.2.2.2.2.1
  have hB := th_NR_s hB hB1 hu hB.2.2.1 (by omega) oq144
  have hIN := th_IN_s hIN hu oq144
  have k17xxxxxxxxxxxxxxxxxxxxxxxxxxxxxxxxxxx := tm_MAo k17xxxxxxxxxxxxxxxxxxxxxxxxxxxxxxxxxx oq144 (by have q9 := lb17; omega)
  have n17xxxxxxxxxxxxxxxxxxxxxxxxxxxxxxxxxxx : ¬ th_MR G Γ134 H144 b17 := fun w => n17xxxxxxxxxxxxxxxxxxxxxxxxxxxxxxxxxx (th_MR_s hu oq144 w)
  have k25xxxxxxxxxxxxxxxxxxxxxxxxxxxxxxxxx := tm_MAo k25xxxxxxxxxxxxxxxxxxxxxxxxxxxxxxxx oq144 (by have q9 := lb25; omega)
  have n25xxxxxxxxxxxxxxxxxxxxxxxxxxxxxxxxx : ¬ th_MR G Γ134 H144 b25 := fun w => n25xxxxxxxxxxxxxxxxxxxxxxxxxxxxxxxx (th_MR_s hu oq144 w)
  have k142x := tm_MAo k142 oq144 (by have q9 := lb142; omega)
  have n142x : ¬ th_MR G Γ134 H144 b142 := fun w => n142 (th_MR_s hu oq144 w)
  have hs : H144.size = H0.size + 90 := by omega
  have lt_b17 : b17 < H144.size := by omega
  have lt_b25 : b25 < H144.size := by omega
  have lt_b142 : b142 < H144.size := by omega
  have lt_b5 : b5 < H144.size := by omega
  have lt_b31 : b31 < H144.size := by omega
  have lt_b42 : b42 < H144.size := by omega
  have lt_b53 : b53 < H144.size := by omega
  have lt_b64 : b64 < H144.size := by omega
  have lt_b75 : b75 < H144.size := by omega
  have lt_b86 : b86 < H144.size := by omega
  have lt_b97 : b97 < H144.size := by omega
  have lt_b108 : b108 < H144.size := by omega
  have lt_b119 : b119 < H144.size := by omega
  have lt_b130 : b130 < H144.size := by omega
  refine lv_aload_n hx hb dX11_init_147 rfl (lv_at hl 0 rfl) ?_
  refine lv_iconst (v := 0) hx hb dX11_init_148 (by decide) ?_
  refine tc_put hC cf_X11 hB.1 ho (j := 14) (by decide) rfl rfl rfl kf_X11_94 dX11_init_149 (fun H149 locs hB1 ho z149 oq149 => ?_)
  have hu := hB.1.2.2.2.2.1
  have hB := th_NR_s hB hB1 hu hB.2.2.1 (by omega) oq149
  have hIN := th_IN_s hIN hu oq149
  have k17xxxxxxxxxxxxxxxxxxxxxxxxxxxxxxxxxxxx := tm_MAo k17xxxxxxxxxxxxxxxxxxxxxxxxxxxxxxxxxxx oq149 (by have q9 := lb17; omega)
  have n17xxxxxxxxxxxxxxxxxxxxxxxxxxxxxxxxxxxx : ¬ th_MR G Γ134 H149 b17 := fun w => n17xxxxxxxxxxxxxxxxxxxxxxxxxxxxxxxxxxx (th_MR_s hu oq149 w)
  have k25xxxxxxxxxxxxxxxxxxxxxxxxxxxxxxxxxx := tm_MAo k25xxxxxxxxxxxxxxxxxxxxxxxxxxxxxxxxx oq149 (by have q9 := lb25; omega)
  have n25xxxxxxxxxxxxxxxxxxxxxxxxxxxxxxxxxx : ¬ th_MR G Γ134 H149 b25 := fun w => n25xxxxxxxxxxxxxxxxxxxxxxxxxxxxxxxxx (th_MR_s hu oq149 w)
  have k142xx := tm_MAo k142x oq149 (by have q9 := lb142; omega)
  have n142xx : ¬ th_MR G Γ134 H149 b142 := fun w => n142x (th_MR_s hu oq149 w)
  have hs : H149.size = H0.size + 90 := by omega
  have lt_b17 : b17 < H149.size := by omega
  have lt_b25 : b25 < H149.size := by omega
  have lt_b142 : b142 < H149.size := by omega
  have lt_b5 : b5 < H149.size := by omega
  have lt_b31 : b31 < H149.size := by omega
  have lt_b42 : b42 < H149.size := by omega
  have lt_b53 : b53 < H149.size := by omega
  have lt_b64 : b64 < H149.size := by omega
  have lt_b75 : b75 < H149.size := by omega
  have lt_b86 : b86 < H149.size := by omega
  have lt_b97 : b97 < H149.size := by omega
  have lt_b108 : b108 < H149.size := by omega
  have lt_b119 : b119 < H149.size := by omega
  have lt_b130 : b130 < H149.size := by omega
  refine lv_aload_n hx hb dX11_init_152 rfl (lv_at hl 0 rfl) ?_
  refine lv_iconst (v := (-1)) hx hb dX11_init_153 (by decide) ?_
  refine tc_put hC cf_X11 hB.1 ho (j := 15) (by decide) rfl rfl rfl kf_X11_98 dX11_init_154 (fun H154 locs hB1 ho z154 oq154 => ?_)
  have hu := hB.1.2.2.2.2.1
  have hB := th_NR_s hB hB1 hu hB.2.2.1 (by omega) oq154
  have hIN := th_IN_s hIN hu oq154
  have k17xxxxxxxxxxxxxxxxxxxxxxxxxxxxxxxxxxxxx := tm_MAo k17xxxxxxxxxxxxxxxxxxxxxxxxxxxxxxxxxxxx oq154 (by have q9 := lb17; omega)
  have n17xxxxxxxxxxxxxxxxxxxxxxxxxxxxxxxxxxxxx : ¬ th_MR G Γ134 H154 b17 := fun w => n17xxxxxxxxxxxxxxxxxxxxxxxxxxxxxxxxxxxx (th_MR_s hu oq154 w)
  have k25xxxxxxxxxxxxxxxxxxxxxxxxxxxxxxxxxxx := tm_MAo k25xxxxxxxxxxxxxxxxxxxxxxxxxxxxxxxxxx oq154 (by have q9 := lb25; omega)
  have n25xxxxxxxxxxxxxxxxxxxxxxxxxxxxxxxxxxx : ¬ th_MR G Γ134 H154 b25 := fun w => n25xxxxxxxxxxxxxxxxxxxxxxxxxxxxxxxxxx (th_MR_s hu oq154 w)
  have k142xxx := tm_MAo k142xx oq154 (by have q9 := lb142; omega)
  have n142xxx : ¬ th_MR G Γ134 H154 b142 := fun w => n142xx (th_MR_s hu oq154 w)
  have hs : H154.size = H0.size + 90 := by omega
  have lt_b17 : b17 < H154.size := by omega
  have lt_b25 : b25 < H154.size := by omega
  have lt_b142 : b142 < H154.size := by omega
  have lt_b5 : b5 < H154.size := by omega
  have lt_b31 : b31 < H154.size := by omega
  have lt_b42 : b42 < H154.size := by omega
  have lt_b53 : b53 < H154.size := by omega
  have lt_b64 : b64 < H154.size := by omega
  have lt_b75 : b75 < H154.size := by omega
  have lt_b86 : b86 < H154.size := by omega
  have lt_b97 : b97 < H154.size := by omega
  have lt_b108 : b108 < H154.size := by omega
  have lt_b119 : b119 < H154.size := by omega
  have lt_b130 : b130 < H154.size := by omega
  refine lv_aload_n hx hb dX11_init_157 rfl (lv_at hl 0 rfl) ?_
  refine lv_iconst (v := 0) hx hb dX11_init_158 (by decide) ?_
  refine tc_put hC cf_X11 hB.1 ho (j := 16) (by decide) rfl rfl rfl kf_X11_101 dX11_init_159 (fun H159 locs hB1 ho z159 oq159 => ?_)
  have hu := hB.1.2.2.2.2.1
  have hB := th_NR_s hB hB1 hu hB.2.2.1 (by omega) oq159
  have hIN := th_IN_s hIN hu oq159
  have k17xxxxxxxxxxxxxxxxxxxxxxxxxxxxxxxxxxxxxx := tm_MAo k17xxxxxxxxxxxxxxxxxxxxxxxxxxxxxxxxxxxxx oq159 (by have q9 := lb17; omega)
  have n17xxxxxxxxxxxxxxxxxxxxxxxxxxxxxxxxxxxxxx : ¬ th_MR G Γ134 H159 b17 := fun w => n17xxxxxxxxxxxxxxxxxxxxxxxxxxxxxxxxxxxxx (th_MR_s hu oq159 w)
  have k25xxxxxxxxxxxxxxxxxxxxxxxxxxxxxxxxxxxx := tm_MAo k25xxxxxxxxxxxxxxxxxxxxxxxxxxxxxxxxxxx oq159 (by have q9 := lb25; omega)
  have n25xxxxxxxxxxxxxxxxxxxxxxxxxxxxxxxxxxxx : ¬ th_MR G Γ134 H159 b25 := fun w => n25xxxxxxxxxxxxxxxxxxxxxxxxxxxxxxxxxxx (th_MR_s hu oq159 w)
  have k142xxxx := tm_MAo k142xxx oq159 (by have q9 := lb142; omega)
  have n142xxxx : ¬ th_MR G Γ134 H159 b142 := fun w => n142xxx (th_MR_s hu oq159 w)
  have hs : H159.size = H0.size + 90 := by omega
  have lt_b17 : b17 < H159.size := by omega
  have lt_b25 : b25 < H159.size := by omega
  have lt_b142 : b142 < H159.size := by omega
  have lt_b5 : b5 < H159.size := by omega
  have lt_b31 : b31 < H159.size := by omega
  have lt_b42 : b42 < H159.size := by omega
  have lt_b53 : b53 < H159.size := by omega
  have lt_b64 : b64 < H159.size := by omega
  have lt_b75 : b75 < H159.size := by omega
  have lt_b86 : b86 < H159.size := by omega
  have lt_b97 : b97 < H159.size := by omega
  have lt_b108 : b108 < H159.size := by omega
  have lt_b119 : b119 < H159.size := by omega
  have lt_b130 : b130 < H159.size := by omega
  refine lv_aload_n hx hb dX11_init_162 rfl (lv_at hl 0 rfl) ?_
  refine lv_iconst (v := (-1)) hx hb dX11_init_163 (by decide) ?_
  refine tc_put hC cf_X11 hB.1 ho (j := 17) (by decide) rfl rfl rfl kf_X11_104 dX11_init_164 (fun H164 locs hB1 ho z164 oq164 => ?_)
  have hu := hB.1.2.2.2.2.1
  have hB := th_NR_s hB hB1 hu hB.2.2.1 (by omega) oq164
  have hIN := th_IN_s hIN hu oq164
  have k17xxxxxxxxxxxxxxxxxxxxxxxxxxxxxxxxxxxxxxx := tm_MAo k17xxxxxxxxxxxxxxxxxxxxxxxxxxxxxxxxxxxxxx oq164 (by have q9 := lb17; omega)
  have n17xxxxxxxxxxxxxxxxxxxxxxxxxxxxxxxxxxxxxxx : ¬ th_MR G Γ134 H164 b17 := fun w => n17xxxxxxxxxxxxxxxxxxxxxxxxxxxxxxxxxxxxxx (th_MR_s hu oq164 w)
  have k25xxxxxxxxxxxxxxxxxxxxxxxxxxxxxxxxxxxxx := tm_MAo k25xxxxxxxxxxxxxxxxxxxxxxxxxxxxxxxxxxxx oq164 (by have q9 := lb25; omega)
  have n25xxxxxxxxxxxxxxxxxxxxxxxxxxxxxxxxxxxxx : ¬ th_MR G Γ134 H164 b25 := fun w => n25xxxxxxxxxxxxxxxxxxxxxxxxxxxxxxxxxxxx (th_MR_s hu oq164 w)
  have k142xxxxx := tm_MAo k142xxxx oq164 (by have q9 := lb142; omega)
  have n142xxxxx : ¬ th_MR G Γ134 H164 b142 := fun w => n142xxxx (th_MR_s hu oq164 w)
  have hs : H164.size = H0.size + 90 := by omega
  have lt_b17 : b17 < H164.size := by omega
  have lt_b25 : b25 < H164.size := by omega
  have lt_b142 : b142 < H164.size := by omega
  have lt_b5 : b5 < H164.size := by omega
  have lt_b31 : b31 < H164.size := by omega
  have lt_b42 : b42 < H164.size := by omega
  have lt_b53 : b53 < H164.size := by omega
  have lt_b64 : b64 < H164.size := by omega
  have lt_b75 : b75 < H164.size := by omega
  have lt_b86 : b86 < H164.size := by omega
  have lt_b97 : b97 < H164.size := by omega
  have lt_b108 : b108 < H164.size := by omega
  have lt_b119 : b119 < H164.size := by omega
  have lt_b130 : b130 < H164.size := by omega
  refine lv_iconst (v := 0) hx hb dX11_init_167 (by decide) ?_
  refine lv_istore_n (lv' := [(1, .int 0), (0, .ref a0)]) hx hb dX11_init_168 rfl hl (by decide) rfl (fun ls hl => ?_)
  refine lv_iload_n hx hb dX11_init_169 rfl (lv_at hl 0 rfl) ?_
  refine lv_iconst (v := 2) hx hb dX11_init_170 (by decide) ?_
  refine tr_icmp_ge (tgt := 193) hx hb dX11_init_171 (by decide) tk_0 tk_2 (fun c => absurd c (by decide)) (fun _ => ?_)
  refine lv_aload_n hx hb dX11_init_174 rfl (lv_at hl 1 rfl) ?_
  refine tc_get hC cf_X11 ho (j := 1) (by decide) rfl kf_X11_16 dX11_init_175 ?_
  refine lv_iload_n hx hb dX11_init_178 rfl (lv_at hl 0 rfl) ?_
  refine tc_new hC cf_X8 hB.1 kw_30 kw_31 kw_2 (Nat.le_of_ble_eq_true rfl) (Nat.le_of_ble_eq_true rfl) dX11_init_179 (fun b179 H179 eb179 zb179 oq179 hB1 kn => ?_)
  have n1790 : ¬ th_MR G Γ134 H164 b179 := fun w => absurd (th_MR_lt hB.2.1 w) (by omega)
  have u179 := kn.1
  have hB := th_NR_s hB hB1 u179 n1790 (by omega) oq179
  have hIN := th_IN_s hIN u179 oq179
  have nb : ¬ th_MR G Γ134 H179 b179 := fun w => n1790 (th_MR_s u179 oq179 w)
  have ho := tc_OBo ho oq179 (by omega)
  have k17xxxxxxxxxxxxxxxxxxxxxxxxxxxxxxxxxxxxxxxx := tm_MAo k17xxxxxxxxxxxxxxxxxxxxxxxxxxxxxxxxxxxxxxx oq179 (by have q9 := lt_b17; omega)
  have n17xxxxxxxxxxxxxxxxxxxxxxxxxxxxxxxxxxxxxxxx : ¬ th_MR G Γ134 H179 b17 := fun w => n17xxxxxxxxxxxxxxxxxxxxxxxxxxxxxxxxxxxxxxx (th_MR_s u179 oq179 w)
  have k25xxxxxxxxxxxxxxxxxxxxxxxxxxxxxxxxxxxxxx := tm_MAo k25xxxxxxxxxxxxxxxxxxxxxxxxxxxxxxxxxxxxx oq179 (by have q9 := lt_b25; omega)
  have n25xxxxxxxxxxxxxxxxxxxxxxxxxxxxxxxxxxxxxx : ¬ th_MR G Γ134 H179 b25 := fun w => n25xxxxxxxxxxxxxxxxxxxxxxxxxxxxxxxxxxxxx (th_MR_s u179 oq179 w)
  have k142xxxxxx := tm_MAo k142xxxxx oq179 (by have q9 := lt_b142; omega)
  have n142xxxxxx : ¬ th_MR G Γ134 H179 b142 := fun w => n142xxxxx (th_MR_s u179 oq179 w)
  have lbn : H0.size ≤ b179 := by omega
  have ltn : b179 < H179.size := by omega
  have szn : G.2.2 ≤ b179 := by have q9 := hB.1.2.2.2.2.2.1; have q8 := hB.1.2.2.2.2.2.2; omega
  have ne_b17 : b17 ≠ b179 := by have q9 := lt_b17; omega
  have nr_b179_b17 : b179 ≠ b17 := fun e => ne_b17 e.symm
  have ne_b25 : b25 ≠ b179 := by have q9 := lt_b25; omega
  have nr_b179_b25 : b179 ≠ b25 := fun e => ne_b25 e.symm
  have ne_b142 : b142 ≠ b179 := by have q9 := lt_b142; omega
  have nr_b179_b142 : b179 ≠ b142 := fun e => ne_b142 e.symm
  have ne_b5 : b5 ≠ b179 := by have q9 := lt_b5; omega
  have ne_b31 : b31 ≠ b179 := by have q9 := lt_b31; omega
  have ne_b42 : b42 ≠ b179 := by have q9 := lt_b42; omega
  have ne_b53 : b53 ≠ b179 := by have q9 := lt_b53; omega
  have ne_b64 : b64 ≠ b179 := by have q9 := lt_b64; omega
  have ne_b75 : b75 ≠ b179 := by have q9 := lt_b75; omega
  have ne_b86 : b86 ≠ b179 := by have q9 := lt_b86; omega
  have ne_b97 : b97 ≠ b179 := by have q9 := lt_b97; omega
  have ne_b108 : b108 ≠ b179 := by have q9 := lt_b108; omega
  have ne_b119 : b119 ≠ b179 := by have q9 := lt_b119; omega
  have ne_b130 : b130 ≠ b179 := by have q9 := lt_b130; omega
  have hs : H179.size = H0.size + 91 := by omega
  have lt_b17 : b17 < H179.size := by omega
  have lt_b25 : b25 < H179.size := by omega
  have lt_b142 : b142 < H179.size := by omega
  have lt_b5 : b5 < H179.size := by omega
  have lt_b31 : b31 < H179.size := by omega
  have lt_b42 : b42 < H179.size := by omega
  have lt_b53 : b53 < H179.size := by omega
  have lt_b64 : b64 < H179.size := by omega
  have lt_b75 : b75 < H179.size := by omega
  have lt_b86 : b86 < H179.size := by omega
  have lt_b97 : b97 < H179.size := by omega
  have lt_b108 : b108 < H179.size := by omega
  have lt_b119 : b119 < H179.size := by omega
  have lt_b130 : b130 < H179.size := by omega
  have of_b179 : b179 = a0 + 91 := by omega
  refine lv_dup hx hb dX11_init_182 rfl ?_
  refine th_call (th_runI (As := []) (rest := [.ref b179, .int 0, .ref b17]) hC mf_X8_init km_X11_11 im_X8_init rfl (c_X8_init_i l G Γ134 H179 hB.1.1 hB.2.1 b179 kn szn ltn nb (by omega)) rfl rfl ⟨Nat.le_of_ble_eq_true rfl, Nat.le_of_ble_eq_true rfl⟩ rfl hl.1 rfl (Nat.le_of_ble_eq_true rfl) dX11_init_183 ⟨Nat.le_of_ble_eq_true rfl, Nat.le_of_ble_eq_true rfl⟩) hB.1.2.1 (fun v183 H183 locs hp hz hS => ?_)
  obtain ⟨rfl, Γ183, hy, hi, hzn⟩ := hp
  have hB := th_NR_c hB hy lbn hS
  have hIN := th_IN_c hIN hy hi
  have ho := tc_OBc ho hy (by omega) (by omega)
  have n17xxxxxxxxxxxxxxxxxxxxxxxxxxxxxxxxxxxxxxxxx : ¬ th_MR G Γ183 H183 b17 := fun w => (hy.2.2.2.1 _ w).elim n17xxxxxxxxxxxxxxxxxxxxxxxxxxxxxxxxxxxxxxxx (fun w => absurd w (by have q9 := lt_b17; omega))
  have k17xxxxxxxxxxxxxxxxxxxxxxxxxxxxxxxxxxxxxxxxx := tc_MAc k17xxxxxxxxxxxxxxxxxxxxxxxxxxxxxxxxxxxxxxxx hy ne_b17
  have n25xxxxxxxxxxxxxxxxxxxxxxxxxxxxxxxxxxxxxxx : ¬ th_MR G Γ183 H183 b25 := fun w => (hy.2.2.2.1 _ w).elim n25xxxxxxxxxxxxxxxxxxxxxxxxxxxxxxxxxxxxxx (fun w => absurd w (by have q9 := lt_b25; omega))
  have k25xxxxxxxxxxxxxxxxxxxxxxxxxxxxxxxxxxxxxxx := tc_MAc k25xxxxxxxxxxxxxxxxxxxxxxxxxxxxxxxxxxxxxx hy ne_b25
  have n142xxxxxxx : ¬ th_MR G Γ183 H183 b142 := fun w => (hy.2.2.2.1 _ w).elim n142xxxxxx (fun w => absurd w (by have q9 := lt_b142; omega))
  have k142xxxxxxx := tc_MAc k142xxxxxx hy ne_b142
  have hr_b5xxxxxxxxxxx := (hy.1.2.2 b5 lt_b5 ne_b5).1.trans hr_b5xxxxxxxxxx
  have hr_b31xxxxxxxxxx := (hy.1.2.2 b31 lt_b31 ne_b31).1.trans hr_b31xxxxxxxxx
  have hr_b42xxxxxxxxx := (hy.1.2.2 b42 lt_b42 ne_b42).1.trans hr_b42xxxxxxxx
  have hr_b53xxxxxxxx := (hy.1.2.2 b53 lt_b53 ne_b53).1.trans hr_b53xxxxxxx
  have hr_b64xxxxxxx := (hy.1.2.2 b64 lt_b64 ne_b64).1.trans hr_b64xxxxxx
  have hr_b75xxxxxx := (hy.1.2.2 b75 lt_b75 ne_b75).1.trans hr_b75xxxxx
  have hr_b86xxxxx := (hy.1.2.2 b86 lt_b86 ne_b86).1.trans hr_b86xxxx
  have hr_b97xxxx := (hy.1.2.2 b97 lt_b97 ne_b97).1.trans hr_b97xxx
  have hr_b108xxx := (hy.1.2.2 b108 lt_b108 ne_b108).1.trans hr_b108xx
  have hr_b119xx := (hy.1.2.2 b119 lt_b119 ne_b119).1.trans hr_b119x
  have hr_b130x := (hy.1.2.2 b130 lt_b130 ne_b130).1.trans hr_b130
  have hr_b179 := hy.2.2.1
  have hs : H183.size = H0.size + 121 := by omega
  have lt_b179 : b179 < H183.size := by omega
  have lt_b17 : b17 < H183.size := by omega
  have lt_b25 : b25 < H183.size := by omega
  have lt_b142 : b142 < H183.size := by omega
  have lt_b5 : b5 < H183.size := by omega
  have lt_b31 : b31 < H183.size := by omega
  have lt_b42 : b42 < H183.size := by omega
  have lt_b53 : b53 < H183.size := by omega
  have lt_b64 : b64 < H183.size := by omega
  have lt_b75 : b75 < H183.size := by omega
  have lt_b86 : b86 < H183.size := by omega
  have lt_b97 : b97 < H183.size := by omega
  have lt_b108 : b108 < H183.size := by omega
  have lt_b119 : b119 < H183.size := by omega
  have lt_b130 : b130 < H183.size := by omega
  have hN := th_new_c hN hy
  refine W.eq (g2 := F0 m 186 ls [.ref b179, .int 0, .ref b17]) rfl ?_
  refine tc_aast (x := 0) hC hB.1 k17xxxxxxxxxxxxxxxxxxxxxxxxxxxxxxxxxxxxxxxxx lb17 rfl hr_b179 ro_32 rfl tk_0 (by decide) (by decide) dX11_init_186 (fun H186 locs hB1 kq z186 oq186 => ?_)
  have hq := k17xxxxxxxxxxxxxxxxxxxxxxxxxxxxxxxxxxxxxxxxx.2.1
  have hB := th_NR_s hB hB1 hq n17xxxxxxxxxxxxxxxxxxxxxxxxxxxxxxxxxxxxxxxxx (by omega) oq186
  have hIN := th_IN_s hIN hq oq186
  have n17xxxxxxxxxxxxxxxxxxxxxxxxxxxxxxxxxxxxxxxxxx : ¬ th_MR G Γ183 H186 b17 := fun w => n17xxxxxxxxxxxxxxxxxxxxxxxxxxxxxxxxxxxxxxxxx (th_MR_s hq oq186 w)
  have ho := tc_OBo ho oq186 (by have q9 := lb17; omega)
  have k25xxxxxxxxxxxxxxxxxxxxxxxxxxxxxxxxxxxxxxxx := tm_MAo k25xxxxxxxxxxxxxxxxxxxxxxxxxxxxxxxxxxxxxxx oq186 (fun e => dd_b25_b17 e.symm)
  have n25xxxxxxxxxxxxxxxxxxxxxxxxxxxxxxxxxxxxxxxx : ¬ th_MR G Γ183 H186 b25 := fun w => n25xxxxxxxxxxxxxxxxxxxxxxxxxxxxxxxxxxxxxxx (th_MR_s hq oq186 w)
  have k142xxxxxxxx := tm_MAo k142xxxxxxx oq186 (fun e => dd_b142_b17 e.symm)
  have n142xxxxxxxx : ¬ th_MR G Γ183 H186 b142 := fun w => n142xxxxxxx (th_MR_s hq oq186 w)
  have kz186 := kq
  have hs : H186.size = H0.size + 121 := by omega
  have lt_b17 : b17 < H186.size := by omega
  have lt_b25 : b25 < H186.size := by omega
  have lt_b142 : b142 < H186.size := by omega
  have lt_b5 : b5 < H186.size := by omega
  have lt_b31 : b31 < H186.size := by omega
  have lt_b42 : b42 < H186.size := by omega
  have lt_b53 : b53 < H186.size := by omega
  have lt_b64 : b64 < H186.size := by omega
  have lt_b75 : b75 < H186.size := by omega
  have lt_b86 : b86 < H186.size := by omega
  have lt_b97 : b97 < H186.size := by omega
  have lt_b108 : b108 < H186.size := by omega
  have lt_b119 : b119 < H186.size := by omega
  have lt_b130 : b130 < H186.size := by omega
  have lt_b179 : b179 < H186.size := by omega
  refine tr_iinc (fun z187_1 => [(1, .int z187_1), (0, .ref a0)]) hx hb dX11_init_187 hl (k := 0) rfl tk_0 tk_1 (by decide) (by decide) (by decide) (fun _ => rfl) (fun z187_1 ls ez187_1 hl => ?_)
  have pz187_1 : z187_1.toInt = 1 := ez187_1
  refine lv_goto (tgt := 169) hx hb dX11_init_190 (by decide) ?_
  refine lv_iload_n hx hb dX11_init_169 rfl (lv_at hl 0 rfl) ?_
  refine lv_iconst (v := 2) hx hb dX11_init_170 (by decide) ?_
  refine tr_icmp_ge (tgt := 193) hx hb dX11_init_171 (by decide) pz187_1 tk_2 (fun c => absurd c (by decide)) (fun _ => ?_)
  refine lv_aload_n hx hb dX11_init_174 rfl (lv_at hl 1 rfl) ?_
  refine tc_get hC cf_X11 ho (j := 1) (by decide) rfl kf_X11_16 dX11_init_175 ?_
  refine lv_iload_n hx hb dX11_init_178 rfl (lv_at hl 0 rfl) ?_
  refine tc_new hC cf_X8 hB.1 kw_30 kw_31 kw_2 (Nat.le_of_ble_eq_true rfl) (Nat.le_of_ble_eq_true rfl) dX11_init_179 (fun b179_1 H179_1 eb179 zb179 oq179 hB1 kn => ?_)
  have n1790 : ¬ th_MR G Γ183 H186 b179_1 := fun w => absurd (th_MR_lt hB.2.1 w) (by omega)
  have u179 := kn.1
  have hB := th_NR_s hB hB1 u179 n1790 (by omega) oq179
  have hIN := th_IN_s hIN u179 oq179
  have nb : ¬ th_MR G Γ183 H179_1 b179_1 := fun w => n1790 (th_MR_s u179 oq179 w)
  have ho := tc_OBo ho oq179 (by omega)
  have kz186x := tm_MAo kz186 oq179 (by have q9 := lt_b17; omega)
  have n17xxxxxxxxxxxxxxxxxxxxxxxxxxxxxxxxxxxxxxxxxxx : ¬ th_MR G Γ183 H179_1 b17 := fun w => n17xxxxxxxxxxxxxxxxxxxxxxxxxxxxxxxxxxxxxxxxxx (th_MR_s u179 oq179 w)
  have k25xxxxxxxxxxxxxxxxxxxxxxxxxxxxxxxxxxxxxxxxx := tm_MAo k25xxxxxxxxxxxxxxxxxxxxxxxxxxxxxxxxxxxxxxxx oq179 (by have q9 := lt_b25; omega)
  have n25xxxxxxxxxxxxxxxxxxxxxxxxxxxxxxxxxxxxxxxxx : ¬ th_MR G Γ183 H179_1 b25 := fun w => n25xxxxxxxxxxxxxxxxxxxxxxxxxxxxxxxxxxxxxxxx (th_MR_s u179 oq179 w)
  have k142xxxxxxxxx := tm_MAo k142xxxxxxxx oq179 (by have q9 := lt_b142; omega)
  have n142xxxxxxxxx : ¬ th_MR G Γ183 H179_1 b142 := fun w => n142xxxxxxxx (th_MR_s u179 oq179 w)
  have lbn : H0.size ≤ b179_1 := by omega
  have ltn : b179_1 < H179_1.size := by omega
  have szn : G.2.2 ≤ b179_1 := by have q9 := hB.1.2.2.2.2.2.1; have q8 := hB.1.2.2.2.2.2.2; omega
  have ne_b17 : b17 ≠ b179_1 := by have q9 := lt_b17; omega
  have nr_b179_1_b17 : b179_1 ≠ b17 := fun e => ne_b17 e.symm
  have ne_b25 : b25 ≠ b179_1 := by have q9 := lt_b25; omega
  have nr_b179_1_b25 : b179_1 ≠ b25 := fun e => ne_b25 e.symm
  have ne_b142 : b142 ≠ b179_1 := by have q9 := lt_b142; omega
  have nr_b179_1_b142 : b179_1 ≠ b142 := fun e => ne_b142 e.symm
  have ne_b5 : b5 ≠ b179_1 := by have q9 := lt_b5; omega
  have ne_b31 : b31 ≠ b179_1 := by have q9 := lt_b31; omega
  have ne_b42 : b42 ≠ b179_1 := by have q9 := lt_b42; omega
  have ne_b53 : b53 ≠ b179_1 := by have q9 := lt_b53; omega
  have ne_b64 : b64 ≠ b179_1 := by have q9 := lt_b64; omega
  have ne_b75 : b75 ≠ b179_1 := by have q9 := lt_b75; omega
  have ne_b86 : b86 ≠ b179_1 := by have q9 := lt_b86; omega
  have ne_b97 : b97 ≠ b179_1 := by have q9 := lt_b97; omega
  have ne_b108 : b108 ≠ b179_1 := by have q9 := lt_b108; omega
  have ne_b119 : b119 ≠ b179_1 := by have q9 := lt_b119; omega
  have ne_b130 : b130 ≠ b179_1 := by have q9 := lt_b130; omega
  have ne_b179 : b179 ≠ b179_1 := by have q9 := lt_b179; omega
  have hs : H179_1.size = H0.size + 122 := by omega
  have lt_b17 : b17 < H179_1.size := by omega
  have lt_b25 : b25 < H179_1.size := by omega
  have lt_b142 : b142 < H179_1.size := by omega
  have lt_b5 : b5 < H179_1.size := by omega
  have lt_b31 : b31 < H179_1.size := by omega
  have lt_b42 : b42 < H179_1.size := by omega
  have lt_b53 : b53 < H179_1.size := by omega
  have lt_b64 : b64 < H179_1.size := by omega
  have lt_b75 : b75 < H179_1.size := by omega
  have lt_b86 : b86 < H179_1.size := by omega
  have lt_b97 : b97 < H179_1.size := by omega
  have lt_b108 : b108 < H179_1.size := by omega
  have lt_b119 : b119 < H179_1.size := by omega
  have lt_b130 : b130 < H179_1.size := by omega
  have lt_b179 : b179 < H179_1.size := by omega
  have of_b179_1 : b179_1 = a0 + 122 := by omega
  refine lv_dup hx hb dX11_init_182 rfl ?_
  refine th_call (th_runI (As := []) (rest := [.ref b179_1, .int z187_1, .ref b17]) hC mf_X8_init km_X11_11 im_X8_init rfl (c_X8_init_i l G Γ183 H179_1 hB.1.1 hB.2.1 b179_1 kn szn ltn nb (by omega)) rfl rfl ⟨Nat.le_of_ble_eq_true rfl, Nat.le_of_ble_eq_true rfl⟩ rfl hl.1 rfl (Nat.le_of_ble_eq_true rfl) dX11_init_183 ⟨Nat.le_of_ble_eq_true rfl, Nat.le_of_ble_eq_true rfl⟩) hB.1.2.1 (fun v183 H183_1 locs hp hz hS => ?_)
  obtain ⟨rfl, Γ183_1, hy, hi, hzn⟩ := hp
  have hB := th_NR_c hB hy lbn hS
  have hIN := th_IN_c hIN hy hi
  have ho := tc_OBc ho hy (by omega) (by omega)
  have n17xxxxxxxxxxxxxxxxxxxxxxxxxxxxxxxxxxxxxxxxxxxx : ¬ th_MR G Γ183_1 H183_1 b17 := fun w => (hy.2.2.2.1 _ w).elim n17xxxxxxxxxxxxxxxxxxxxxxxxxxxxxxxxxxxxxxxxxxx (fun w => absurd w (by have q9 := lt_b17; omega))
  have kz186xx := tc_MAc kz186x hy ne_b17
  have n25xxxxxxxxxxxxxxxxxxxxxxxxxxxxxxxxxxxxxxxxxx : ¬ th_MR G Γ183_1 H183_1 b25 := fun w => (hy.2.2.2.1 _ w).elim n25xxxxxxxxxxxxxxxxxxxxxxxxxxxxxxxxxxxxxxxxx (fun w => absurd w (by have q9 := lt_b25; omega))
  have k25xxxxxxxxxxxxxxxxxxxxxxxxxxxxxxxxxxxxxxxxxx := tc_MAc k25xxxxxxxxxxxxxxxxxxxxxxxxxxxxxxxxxxxxxxxxx hy ne_b25
  have n142xxxxxxxxxx : ¬ th_MR G Γ183_1 H183_1 b142 := fun w => (hy.2.2.2.1 _ w).elim n142xxxxxxxxx (fun w => absurd w (by have q9 := lt_b142; omega))
  have k142xxxxxxxxxx := tc_MAc k142xxxxxxxxx hy ne_b142
  have hr_b5xxxxxxxxxxxx := (hy.1.2.2 b5 lt_b5 ne_b5).1.trans hr_b5xxxxxxxxxxx
  have hr_b31xxxxxxxxxxx := (hy.1.2.2 b31 lt_b31 ne_b31).1.trans hr_b31xxxxxxxxxx
  have hr_b42xxxxxxxxxx := (hy.1.2.2 b42 lt_b42 ne_b42).1.trans hr_b42xxxxxxxxx
  have hr_b53xxxxxxxxx := (hy.1.2.2 b53 lt_b53 ne_b53).1.trans hr_b53xxxxxxxx
  have hr_b64xxxxxxxx := (hy.1.2.2 b64 lt_b64 ne_b64).1.trans hr_b64xxxxxxx
  have hr_b75xxxxxxx := (hy.1.2.2 b75 lt_b75 ne_b75).1.trans hr_b75xxxxxx
  have hr_b86xxxxxx := (hy.1.2.2 b86 lt_b86 ne_b86).1.trans hr_b86xxxxx
  have hr_b97xxxxx := (hy.1.2.2 b97 lt_b97 ne_b97).1.trans hr_b97xxxx
  have hr_b108xxxx := (hy.1.2.2 b108 lt_b108 ne_b108).1.trans hr_b108xxx
  have hr_b119xxx := (hy.1.2.2 b119 lt_b119 ne_b119).1.trans hr_b119xx
  have hr_b130xx := (hy.1.2.2 b130 lt_b130 ne_b130).1.trans hr_b130x
  have hr_b179x := (hy.1.2.2 b179 lt_b179 ne_b179).1.trans hr_b179
  have hr_b179_1 := hy.2.2.1
  have hs : H183_1.size = H0.size + 152 := by omega
  have lt_b179_1 : b179_1 < H183_1.size := by omega
  have lt_b17 : b17 < H183_1.size := by omega
  have lt_b25 : b25 < H183_1.size := by omega
  have lt_b142 : b142 < H183_1.size := by omega
  have lt_b5 : b5 < H183_1.size := by omega
  have lt_b31 : b31 < H183_1.size := by omega
  have lt_b42 : b42 < H183_1.size := by omega
  have lt_b53 : b53 < H183_1.size := by omega
  have lt_b64 : b64 < H183_1.size := by omega
  have lt_b75 : b75 < H183_1.size := by omega
  have lt_b86 : b86 < H183_1.size := by omega
  have lt_b97 : b97 < H183_1.size := by omega
  have lt_b108 : b108 < H183_1.size := by omega
  have lt_b119 : b119 < H183_1.size := by omega
  have lt_b130 : b130 < H183_1.size := by omega
  have lt_b179 : b179 < H183_1.size := by omega
  have hN := th_new_c hN hy
  refine W.eq (g2 := F0 m 186 ls [.ref b179_1, .int z187_1, .ref b17]) rfl ?_
  refine tc_aast (x := 1) hC hB.1 kz186xx lb17 rfl hr_b179_1 ro_32 rfl pz187_1 (by decide) (by decide) dX11_init_186 (fun H186_1 locs hB1 kq z186 oq186 => ?_)
  have hq := kz186xx.2.1
  have hB := th_NR_s hB hB1 hq n17xxxxxxxxxxxxxxxxxxxxxxxxxxxxxxxxxxxxxxxxxxxx (by omega) oq186
  have hIN := th_IN_s hIN hq oq186
  have n17xxxxxxxxxxxxxxxxxxxxxxxxxxxxxxxxxxxxxxxxxxxxx : ¬ th_MR G Γ183_1 H186_1 b17 := fun w => n17xxxxxxxxxxxxxxxxxxxxxxxxxxxxxxxxxxxxxxxxxxxx (th_MR_s hq oq186 w)
  have ho := tc_OBo ho oq186 (by have q9 := lb17; omega)
  have k25xxxxxxxxxxxxxxxxxxxxxxxxxxxxxxxxxxxxxxxxxxx := tm_MAo k25xxxxxxxxxxxxxxxxxxxxxxxxxxxxxxxxxxxxxxxxxx oq186 (fun e => dd_b25_b17 e.symm)
  have n25xxxxxxxxxxxxxxxxxxxxxxxxxxxxxxxxxxxxxxxxxxx : ¬ th_MR G Γ183_1 H186_1 b25 := fun w => n25xxxxxxxxxxxxxxxxxxxxxxxxxxxxxxxxxxxxxxxxxx (th_MR_s hq oq186 w)
  have k142xxxxxxxxxxx := tm_MAo k142xxxxxxxxxx oq186 (fun e => dd_b142_b17 e.symm)
  have n142xxxxxxxxxxx : ¬ th_MR G Γ183_1 H186_1 b142 := fun w => n142xxxxxxxxxx (th_MR_s hq oq186 w)
  have kz186_1 := kq
  have hs : H186_1.size = H0.size + 152 := by omega
  have lt_b17 : b17 < H186_1.size := by omega
  have lt_b25 : b25 < H186_1.size := by omega
  have lt_b142 : b142 < H186_1.size := by omega
  have lt_b5 : b5 < H186_1.size := by omega
  have lt_b31 : b31 < H186_1.size := by omega
  have lt_b42 : b42 < H186_1.size := by omega
  have lt_b53 : b53 < H186_1.size := by omega
  have lt_b64 : b64 < H186_1.size := by omega
  have lt_b75 : b75 < H186_1.size := by omega
  have lt_b86 : b86 < H186_1.size := by omega
  have lt_b97 : b97 < H186_1.size := by omega
  have lt_b108 : b108 < H186_1.size := by omega
  have lt_b119 : b119 < H186_1.size := by omega
  have lt_b130 : b130 < H186_1.size := by omega
  have lt_b179 : b179 < H186_1.size := by omega
  have lt_b179_1 : b179_1 < H186_1.size := by omega
  refine tr_iinc (fun z187_2 => [(1, .int z187_2), (0, .ref a0)]) hx hb dX11_init_187 hl (k := 0) rfl pz187_1 tk_1 (by decide) (by decide) (by decide) (fun _ => rfl) (fun z187_2 ls ez187_2 hl => ?_)
  have pz187_2 : z187_2.toInt = 2 := ez187_2
  refine lv_goto (tgt := 169) hx hb dX11_init_190 (by decide) ?_
  refine lv_iload_n hx hb dX11_init_169 rfl (lv_at hl 0 rfl) ?_
  refine lv_iconst (v := 2) hx hb dX11_init_170 (by decide) ?_
  refine tr_icmp_ge (tgt := 193) hx hb dX11_init_171 (by decide) pz187_2 tk_2 (fun _ => ?_) (fun c => absurd c (by decide))
  have hI1 := hB.1.1
  have hR1 := hB.2.1
  have hI2 := th_nmA (r := 43) (o := a0) hI1 kz186_1 ro_43 (Nat.le_refl _) (Nat.le_refl _) (fun i hi => by
    match i, hi with
    | 0, _ => exact th_sR hr_b179x
    | 1, _ => exact th_sR hr_b179_1
    | n + 2, h => exact absurd h (by omega))
  have hR1 := th_RC_up hI1 hR1 (x := (43, a0)) kz186_1.2.1 n17xxxxxxxxxxxxxxxxxxxxxxxxxxxxxxxxxxxxxxxxxxxxx hI2 (fun e => absurd (show (43 : Nat) = 3 from e) (by decide)) (fun e => absurd (show (43 : Nat) = 18 ∨ (43 : Nat) = 19 from e) (by decide)) (show (43 : Nat) ≠ 12 by decide)
  have hI1 := hI2
  have hIN := th_IN_up (b := b17) (x := (43, a0)) hIN (ini_q rfl rfl rfl (fun i d hm => by
    rcases List.mem_cons.mp hm with e | hm
    · cases e; exact (th_sl_at kz186_1.2.2 (arrV_read _ _ (by decide))).trans (congrArg Value.ref (show b179 = b17 + 59 by omega))
    rcases List.mem_cons.mp hm with e | hm
    · cases e; exact (th_sl_at kz186_1.2.2 (arrV_read _ _ (by decide))).trans (congrArg Value.ref (show b179_1 = b17 + 90 by omega))
    cases hm))
  have ho := th_OB_up (b := b17) (x := (43, a0)) ho (by have q9 := lb17; omega)
  have k25xxxxxxxxxxxxxxxxxxxxxxxxxxxxxxxxxxxxxxxxxxxu := th_MA_up (b := b17) (x := (43, a0)) k25xxxxxxxxxxxxxxxxxxxxxxxxxxxxxxxxxxxxxxxxxxx (fun e => dd_b25_b17 e.symm)
  have n25xxxxxxxxxxxxxxxxxxxxxxxxxxxxxxxxxxxxxxxxxxxu : ¬ th_MR G (th_up Γ183_1 b17 (43, a0)) H186_1 b25 := fun w => n25xxxxxxxxxxxxxxxxxxxxxxxxxxxxxxxxxxxxxxxxxxx (th_MR_up (show (43 : Nat) ≠ 12 by decide) w)
  have k142xxxxxxxxxxxu := th_MA_up (b := b17) (x := (43, a0)) k142xxxxxxxxxxx (fun e => dd_b142_b17 e.symm)
  have n142xxxxxxxxxxxu : ¬ th_MR G (th_up Γ183_1 b17 (43, a0)) H186_1 b142 := fun w => n142xxxxxxxxxxx (th_MR_up (show (43 : Nat) ≠ 12 by decide) w)
  have hI2 := th_nmA (r := 44) (o := a0) hI1 k25xxxxxxxxxxxxxxxxxxxxxxxxxxxxxxxxxxxxxxxxxxxu ro_44 (Nat.le_refl _) (Nat.le_refl _) (fun i _ => th_sI (x := 0) (by decide) (by decide))
  have hR1 := th_RC_up hI1 hR1 (x := (44, a0)) k25xxxxxxxxxxxxxxxxxxxxxxxxxxxxxxxxxxxxxxxxxxxu.2.1 n25xxxxxxxxxxxxxxxxxxxxxxxxxxxxxxxxxxxxxxxxxxxu hI2 (fun e => absurd (show (44 : Nat) = 3 from e) (by decide)) (fun e => absurd (show (44 : Nat) = 18 ∨ (44 : Nat) = 19 from e) (by decide)) (show (44 : Nat) ≠ 12 by decide)
  have hI1 := hI2
  have hIN := th_IN_up (b := b25) (x := (44, a0)) hIN (ini_r rfl rfl rfl rfl (fun i hi => th_sl_at k25xxxxxxxxxxxxxxxxxxxxxxxxxxxxxxxxxxxxxxxxxxx.2.2 (arrV_read _ _ hi)))
  have ho := th_OB_up (b := b25) (x := (44, a0)) ho (by have q9 := lb25; omega)
  have k142xxxxxxxxxxxuu := th_MA_up (b := b25) (x := (44, a0)) k142xxxxxxxxxxxu (fun e => dd_b142_b25 e.symm)
  have n142xxxxxxxxxxxuu : ¬ th_MR G (th_up (th_up Γ183_1 b17 (43, a0)) b25 (44, a0)) H186_1 b142 := fun w => n142xxxxxxxxxxxu (th_MR_up (show (44 : Nat) ≠ 12 by decide) w)
  have hI2 := th_nmA (r := 45) (o := a0) hI1 k142xxxxxxxxxxxuu ro_45 (Nat.le_refl _) (Nat.le_refl _) (fun i _ => th_sI (x := 0) (by decide) (by decide))
  have hR1 := th_RC_up hI1 hR1 (x := (45, a0)) k142xxxxxxxxxxxuu.2.1 n142xxxxxxxxxxxuu hI2 (fun e => absurd (show (45 : Nat) = 3 from e) (by decide)) (fun e => absurd (show (45 : Nat) = 18 ∨ (45 : Nat) = 19 from e) (by decide)) (show (45 : Nat) ≠ 12 by decide)
  have hI1 := hI2
  have hIN := th_IN_up (b := b142) (x := (45, a0)) hIN (ini_r rfl rfl rfl rfl (fun i hi => th_sl_at k142xxxxxxxxxxx.2.2 (arrV_read _ _ hi)))
  have ho := th_OB_up (b := b142) (x := (45, a0)) ho (by have q9 := lb142; omega)
  have g_b17 : (th_up (th_up (th_up Γ183_1 b17 (43, a0)) b25 (44, a0)) b142 (45, a0)) b17 = (43, a0) := (th_up_n (dd_b142_b17)).trans ((th_up_n (dd_b25_b17)).trans (th_up_s))
  have g_b25 : (th_up (th_up (th_up Γ183_1 b17 (43, a0)) b25 (44, a0)) b142 (45, a0)) b25 = (44, a0) := (th_up_n (dd_b142_b25)).trans (th_up_s)
  have g_b142 : (th_up (th_up (th_up Γ183_1 b17 (43, a0)) b25 (44, a0)) b142 (45, a0)) b142 = (45, a0) := th_up_s
  have nm0 : ¬ th_MR G (th_up (th_up (th_up Γ183_1 b17 (43, a0)) b25 (44, a0)) b142 (45, a0)) H186_1 a0 := fun w => hB.2.2.1 (th_MR_up (show (43 : Nat) ≠ 12 by decide) (th_MR_up (show (44 : Nat) ≠ 12 by decide) (th_MR_up (show (45 : Nat) ≠ 12 by decide) w)))
  have hI2 := th_nmO (r := 42) hI1 ho hsz ro_42 rfl (fun j q hq => by
    match j, hq with
    | 0, hq => have e9 := Option.some.inj hq; subst e9; exact th_sR ((th_up_n nr_b5_b142).trans ((th_up_n nr_b5_b25).trans ((th_up_n nr_b5_b17).trans hr_b5xxxxxxxxxxxx)))
    | 1, hq => have e9 := Option.some.inj hq; subst e9; exact th_sO g_b17
    | 2, hq => have e9 := Option.some.inj hq; subst e9; exact th_sO g_b25
    | 3, hq => have e9 := Option.some.inj hq; subst e9; exact th_sR ((th_up_n nr_b31_b142).trans ((th_up_n nr_b31_b25).trans ((th_up_n nr_b31_b17).trans hr_b31xxxxxxxxxxx)))
    | 4, hq => have e9 := Option.some.inj hq; subst e9; exact th_sR ((th_up_n nr_b42_b142).trans ((th_up_n nr_b42_b25).trans ((th_up_n nr_b42_b17).trans hr_b42xxxxxxxxxx)))
    | 5, hq => have e9 := Option.some.inj hq; subst e9; exact th_sR ((th_up_n nr_b53_b142).trans ((th_up_n nr_b53_b25).trans ((th_up_n nr_b53_b17).trans hr_b53xxxxxxxxx)))
    | 6, hq => have e9 := Option.some.inj hq; subst e9; exact th_sR ((th_up_n nr_b64_b142).trans ((th_up_n nr_b64_b25).trans ((th_up_n nr_b64_b17).trans hr_b64xxxxxxxx)))
    | 7, hq => have e9 := Option.some.inj hq; subst e9; exact th_sR ((th_up_n nr_b75_b142).trans ((th_up_n nr_b75_b25).trans ((th_up_n nr_b75_b17).trans hr_b75xxxxxxx)))
    | 8, hq => have e9 := Option.some.inj hq; subst e9; exact th_sR ((th_up_n nr_b86_b142).trans ((th_up_n nr_b86_b25).trans ((th_up_n nr_b86_b17).trans hr_b86xxxxxx)))
    | 9, hq => have e9 := Option.some.inj hq; subst e9; exact th_sR ((th_up_n nr_b97_b142).trans ((th_up_n nr_b97_b25).trans ((th_up_n nr_b97_b17).trans hr_b97xxxxx)))
    | 10, hq => have e9 := Option.some.inj hq; subst e9; exact th_sR ((th_up_n nr_b108_b142).trans ((th_up_n nr_b108_b25).trans ((th_up_n nr_b108_b17).trans hr_b108xxxx)))
    | 11, hq => have e9 := Option.some.inj hq; subst e9; exact th_sR ((th_up_n nr_b119_b142).trans ((th_up_n nr_b119_b25).trans ((th_up_n nr_b119_b17).trans hr_b119xxx)))
    | 12, hq => have e9 := Option.some.inj hq; subst e9; exact th_sR ((th_up_n nr_b130_b142).trans ((th_up_n nr_b130_b25).trans ((th_up_n nr_b130_b17).trans hr_b130xx)))
    | 13, hq => have e9 := Option.some.inj hq; subst e9; exact th_sO g_b142
    | 14, hq => have e9 := Option.some.inj hq; subst e9; exact th_sI (x := 0) (by decide) (by decide)
    | 15, hq => have e9 := Option.some.inj hq; subst e9; exact th_sI (x := (-1)) (by decide) (by decide)
    | 16, hq => have e9 := Option.some.inj hq; subst e9; exact th_sI (x := 0) (by decide) (by decide)
    | 17, hq => have e9 := Option.some.inj hq; subst e9; exact th_sI (x := (-1)) (by decide) (by decide)
    | n + 18, hq => exact absurd (List.getElem?_eq_some_iff.mp hq).1 (by simp))
  have hR2 := th_RC_up hI1 hR1 (x := (42, 0)) ho.1 nm0 hI2 (fun e => absurd e (by decide)) (fun e => absurd e (by decide)) (by decide)
  have hIN2 := th_IN_up (b := a0) (x := (42, 0)) hIN (ini_f (r := 42) ho rfl rfl rfl (fun j x hm => by
    rcases List.mem_cons.mp hm with e | hm
    · cases e; exact ⟨by decide, rfl⟩
    rcases List.mem_cons.mp hm with e | hm
    · cases e; exact ⟨by decide, rfl⟩
    rcases List.mem_cons.mp hm with e | hm
    · cases e; exact ⟨by decide, rfl⟩
    rcases List.mem_cons.mp hm with e | hm
    · cases e; exact ⟨by decide, rfl⟩
    cases hm) (fun j d hm => by
    rcases List.mem_cons.mp hm with e | hm
    · cases e; exact ⟨by decide, by rw [← of_b5]; rfl⟩
    rcases List.mem_cons.mp hm with e | hm
    · cases e; exact ⟨by decide, by rw [← of_b17]; rfl⟩
    rcases List.mem_cons.mp hm with e | hm
    · cases e; exact ⟨by decide, by rw [← of_b25]; rfl⟩
    rcases List.mem_cons.mp hm with e | hm
    · cases e; exact ⟨by decide, by rw [← of_b31]; rfl⟩
    rcases List.mem_cons.mp hm with e | hm
    · cases e; exact ⟨by decide, by rw [← of_b42]; rfl⟩
    rcases List.mem_cons.mp hm with e | hm
    · cases e; exact ⟨by decide, by rw [← of_b53]; rfl⟩
    rcases List.mem_cons.mp hm with e | hm
    · cases e; exact ⟨by decide, by rw [← of_b64]; rfl⟩
    rcases List.mem_cons.mp hm with e | hm
    · cases e; exact ⟨by decide, by rw [← of_b75]; rfl⟩
    rcases List.mem_cons.mp hm with e | hm
    · cases e; exact ⟨by decide, by rw [← of_b86]; rfl⟩
    rcases List.mem_cons.mp hm with e | hm
    · cases e; exact ⟨by decide, by rw [← of_b97]; rfl⟩
    rcases List.mem_cons.mp hm with e | hm
    · cases e; exact ⟨by decide, by rw [← of_b108]; rfl⟩
    rcases List.mem_cons.mp hm with e | hm
    · cases e; exact ⟨by decide, by rw [← of_b119]; rfl⟩
    rcases List.mem_cons.mp hm with e | hm
    · cases e; exact ⟨by decide, by rw [← of_b130]; rfl⟩
    rcases List.mem_cons.mp hm with e | hm
    · cases e; exact ⟨by decide, by rw [← of_b142]; rfl⟩
    cases hm))
  have gq : ∀ q, q < H0.size → q ≠ a0 → (th_up (th_up (th_up (th_up Γ183_1 b17 (43, a0)) b25 (44, a0)) b142 (45, a0)) a0 (42, 0)) q = Γ183_1 q := fun q h1 h2 => ((((th_up_n h2).trans (th_up_n (by have q9 := lb142; omega))).trans (th_up_n (by have q9 := lb25; omega))).trans (th_up_n (by have q9 := lb17; omega)))
  refine th_vret hC hH hr hlocks hB.1.2.1 ⟨rfl, (th_up (th_up (th_up (th_up Γ183_1 b17 (43, a0)) b25 (44, a0)) b142 (45, a0)) a0 (42, 0)), ⟨⟨hI2, (by omega), fun q h1 h2 => ⟨(gq q h1 h2).trans (hB.1.2.2.2.1 q h1 h2), hB.1.2.2.1 q h1 h2⟩⟩, hR2, th_up_s, fun q w => hB.2.2.2 q (th_MR_up (show (43 : Nat) ≠ 12 by decide) (th_MR_up (show (44 : Nat) ≠ 12 by decide) (th_MR_up (show (45 : Nat) ≠ 12 by decide) (th_MR_up (show (42 : Nat) ≠ 12 by decide) w)))), fun q x o hg hq hs => ?_⟩, hIN2, hs⟩ dX11_init_193
  by_cases e_a0 : q = a0
  · rw [e_a0, th_up_s] at hg; cases hg; decide
  rw [th_up_n e_a0] at hg
  by_cases e_b142 : q = b142
  · rw [e_b142, th_up_s] at hg; cases hg; decide
  rw [th_up_n e_b142] at hg
  by_cases e_b25 : q = b25
  · rw [e_b25, th_up_s] at hg; cases hg; decide
  rw [th_up_n e_b25] at hg
  by_cases e_b17 : q = b17
  · rw [e_b17, th_up_s] at hg; cases hg; decide
  rw [th_up_n e_b17] at hg
  exact (show ∀ x ∈ (((((((((((((([] ++ [3, 4, 5, 6, 7, 8, 9, 10, 32, 33, 34, 35, 36, 39, 40, 41]) ++ [3, 4, 5, 6, 7, 8, 9, 10]) ++ [3, 4, 5, 6, 7, 8, 9, 10]) ++ [37, 38]) ++ [20, 21, 22]) ++ [39, 40, 41]) ++ [23, 24, 25, 26]) ++ [11, 23, 24, 25, 26]) ++ [3, 4, 5, 6, 7, 8, 9, 10, 17, 18, 19]) ++ [12, 27, 28, 29, 30, 31]) ++ [1, 2]) ++ [3, 4, 5, 6, 7, 8, 9, 10, 32, 33, 34, 35, 36, 39, 40, 41]) ++ [3, 4, 5, 6, 7, 8, 9, 10, 32, 33, 34, 35, 36, 39, 40, 41]) : List Nat), x ∈ [1, 2, 3, 4, 5, 6, 7, 8, 9, 10, 11, 12, 17, 18, 19, 20, 21, 22, 23, 24, 25, 26, 27, 28, 29, 30, 31, 32, 33, 34, 35, 36, 37, 38, 39, 40, 41, 42, 43, 44, 45] by decide) x (hN q x o hg hq hs)
