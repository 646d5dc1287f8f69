set_option maxHeartbeats 4000000 in
set_option maxRecDepth 100000 in
theorem c_X7_init (l : Launch) (G : th_G) (Γ : th_Ga) (H0 : Heap) (hI : th_I G Γ H0) (hR : th_RC G Γ H0) (a0 : Nat) (ho : th_OB G Γ H0 a0 7 14 (fun j => defaultValue (tyX7 j))) (hsz : G.2.2 ≤ a0) (hlt : a0 < H0.size) (hm : ¬ th_MR G Γ H0 a0) (hno : ∀ a o : Nat, Γ a ≠ (12, o)) : Met l yX7_init (.code yX7_init cX7_init 1 (none) :: th_tb) ({ frames := 2, cells := 9, slots := 7488, locals := 44 } : Room) (th_P [.ref a0] G H0) (th_Q (fun (v : Option Value) (H1 : Heap) => v = none ∧ ∃ Γ1 : th_Ga, th_NY G Γ Γ1 a0 27 [12, 27, 28, 29, 30, 31] H0 H1) G) 9 7488 (fun q => G.2.2 ≤ q) := by
  refine th_met RX7 (by decide) rfl (Nat.le_of_ble_eq_true rfl) ?_
  intro p e s m below meth c hC hH hr hlocks hnm ls hl
  have hx := hC.1
  have hb := hC.2.1
  have hB : th_NR G Γ Γ a0 H0 H0 [] := ⟨⟨hI, va_S.rf, fun _ _ _ => rfl, fun _ _ _ => rfl, ho.1, hsz, hlt⟩, hR, hm, fun q w => Or.inl w⟩
  have hl : lv_has ls 1 [(0, .ref a0)] := hl
  have hs : H0.size ≤ H0.size := Nat.le_refl _
  have hN := th_new_0 (a0 := a0) hI ho.1
  refine lv_aload_n hx hb dX7_init_0 rfl (lv_at hl 0 rfl) ?_
  refine W.objInit hx hb hC.2.2.2.1 (hC.2.2.2.2.1 _ kw_289) (hC.2.2.2.2.1 _ kw_28) (hC.2.2.2.2.1 _ kw_29) rfl (hl.1.trans hC.2.2.1.symm) rfl dX7_init_1 (Nat.le_of_ble_eq_true rfl) (Nat.le_of_ble_eq_true rfl) ?_
  refine W.eq (g2 := F0 m 4 ls []) rfl ?_
  refine lv_aload_n hx hb dX7_init_4 rfl (lv_at hl 0 rfl) ?_
  refine tc_new hC cf_X3 hB.1 kw_290 kw_291 kw_11 (Nat.le_of_ble_eq_true rfl) (Nat.le_of_ble_eq_true rfl) dX7_init_5 (fun b5 H5 eb5 zb5 oq5 hB1 kn => ?_)
  have n50 : ¬ th_MR G Γ H0 b5 := fun w => absurd (th_MR_lt hB.2.1 w) (by omega)
  have u5 := kn.1
  have hB := th_NR_s hB hB1 u5 n50 (by omega) oq5
  have nb : ¬ th_MR G Γ H5 b5 := fun w => n50 (th_MR_s u5 oq5 w)
  have ho := tc_OBo ho oq5 (by omega)
  have lbn : H0.size ≤ b5 := by omega
  have ltn : b5 < H5.size := by omega
  have szn : G.2.2 ≤ b5 := by have q9 := hB.1.2.2.2.2.2.1; have q8 := hB.1.2.2.2.2.2.2; omega
  have hs : H0.size ≤ H5.size := by omega
  refine lv_dup hx hb dX7_init_8 rfl ?_
  refine th_call (th_runI (As := []) (rest := [.ref b5, .ref a0]) hC mf_X3_init km_X7_11 im_X3_init rfl (c_X3_init l G Γ H5 hB.1.1 hB.2.1 b5 kn szn ltn nb hno) rfl rfl ⟨Nat.le_of_ble_eq_true rfl, Nat.le_of_ble_eq_true rfl⟩ rfl hl.1 rfl (Nat.le_of_ble_eq_true rfl) dX7_init_9 ⟨Nat.le_of_ble_eq_true rfl, Nat.le_of_ble_eq_true rfl⟩) hB.1.2.1 (fun v9 H9 locs hp hz hS => ?_)
  obtain ⟨rfl, Γ9, hy⟩ := hp
  have hB := th_NR_c hB hy lbn hS
  have ho := tc_OBc ho hy (by omega) (by omega)
  have hr_b5 := hy.2.2.1
  have hs : H0.size ≤ H9.size := by omega
  have lt_b5 : b5 < H9.size := by omega
  have hN := th_new_c hN hy
  refine W.eq (g2 := F0 m 12 ls [.ref b5, .ref a0]) rfl ?_
  refine tc_putF hC cf_X7 hB.1 ho (j := 0) (by decide) rfl hnm rfl rfl kf_X7_12 dX7_init_12 (fun H12 locs hB1 ho z12 oq12 => ?_)
  have hu := hB.1.2.2.2.2.1
  have hB := th_NR_s hB hB1 hu hB.2.2.1 (by omega) oq12
  have hs : H0.size ≤ H12.size := by omega
  have lt_b5 : b5 < H12.size := by omega
  refine lv_aload_n hx hb dX7_init_15 rfl (lv_at hl 0 rfl) ?_
  refine lv_sipush (v := 1296) hx hb dX7_init_16 (by decide) ?_
  refine tc_newa (ty := .int) (t := 0) hC hB.1 rfl rfl rfl kw_104 (N := 1296) tk_1296 (by decide) (Nat.le_of_ble_eq_true rfl) (Nat.le_of_ble_eq_true rfl) dX7_init_19 (fun b19 H19 eb19 zb19 oq19 hB1 k19 => ?_)
  have u19 := k19.2.1
  have n190 : ¬ th_MR G Γ9 H12 b19 := fun w => absurd (th_MR_lt hB.2.1 w) (by omega)
  have hB := th_NR_s hB hB1 u19 n190 (by omega) oq19
  have n19 : ¬ th_MR G Γ9 H19 b19 := fun w => n190 (th_MR_s u19 oq19 w)
  have lb19 : H0.size ≤ b19 := by omega
  have ho := tc_OBo ho oq19 (by omega)
  have hs : H0.size ≤ H19.size := by omega
  have lt_b19 : b19 < H19.size := by omega
  have nr_b5_b19 : b5 ≠ b19 := by have q9 := lt_b5; omega
  have lt_b5 : b5 < H19.size := by omega
  refine tc_putF hC cf_X7 hB.1 ho (j := 1) (by decide) rfl hnm rfl rfl kf_X7_18 dX7_init_21 (fun H21 locs hB1 ho z21 oq21 => ?_)
  have hu := hB.1.2.2.2.2.1
  have hB := th_NR_s hB hB1 hu hB.2.2.1 (by omega) oq21
  have k19x := tm_MAo k19 oq21 (by have q9 := lb19; omega)
  have n19x : ¬ th_MR G Γ9 H21 b19 := fun w => n19 (th_MR_s hu oq21 w)
  have hs : H0.size ≤ H21.size := by omega
  have lt_b19 : b19 < H21.size := by omega
  have lt_b5 : b5 < H21.size := by omega
  refine lv_aload_n hx hb dX7_init_24 rfl (lv_at hl 0 rfl) ?_
  refine lv_sipush (v := 1296) hx hb dX7_init_25 (by decide) ?_
  refine tc_newa (ty := .int) (t := 0) hC hB.1 rfl rfl rfl kw_104 (N := 1296) tk_1296 (by decide) (Nat.le_of_ble_eq_true rfl) (Nat.le_of_ble_eq_true rfl) dX7_init_28 (fun b28 H28 eb28 zb28 oq28 hB1 k28 => ?_)
  have u28 := k28.2.1
  have n280 : ¬ th_MR G Γ9 H21 b28 := fun w => absurd (th_MR_lt hB.2.1 w) (by omega)
  have hB := th_NR_s hB hB1 u28 n280 (by omega) oq28
  have n28 : ¬ th_MR G Γ9 H28 b28 := fun w => n280 (th_MR_s u28 oq28 w)
  have lb28 : H0.size ≤ b28 := by omega
  have ho := tc_OBo ho oq28 (by omega)
  have k19xx := tm_MAo k19x oq28 (by have q9 := tm_lt k19x; omega)
  have n19xx : ¬ th_MR G Γ9 H28 b19 := fun w => n19x (th_MR_s u28 oq28 w)
  have hs : H0.size ≤ H28.size := by omega
  have dd_b28_b19 : b19 ≠ b28 := by have q9 := lt_b19; omega
  have lt_b28 : b28 < H28.size := by omega
  have nr_b5_b28 : b5 ≠ b28 := by have q9 := lt_b5; omega
  have lt_b5 : b5 < H28.size := by omega
  have lt_b19 : b19 < H28.size := by omega
  refine tc_putF hC cf_X7 hB.1 ho (j := 2) (by decide) rfl hnm rfl rfl kf_X7_22 dX7_init_30 (fun H30 locs hB1 ho z30 oq30 => ?_)
  have hu := hB.1.2.2.2.2.1
  have hB := th_NR_s hB hB1 hu hB.2.2.1 (by omega) oq30
  have k19xxx := tm_MAo k19xx oq30 (by have q9 := lb19; omega)
  have n19xxx : ¬ th_MR G Γ9 H30 b19 := fun w => n19xx (th_MR_s hu oq30 w)
  have k28x := tm_MAo k28 oq30 (by have q9 := lb28; omega)
  have n28x : ¬ th_MR G Γ9 H30 b28 := fun w => n28 (th_MR_s hu oq30 w)
  have hs : H0.size ≤ H30.size := by omega
  have lt_b19 : b19 < H30.size := by omega
  have lt_b28 : b28 < H30.size := by omega
  have lt_b5 : b5 < H30.size := by omega
  refine lv_aload_n hx hb dX7_init_33 rfl (lv_at hl 0 rfl) ?_
  refine lv_sipush (v := 1296) hx hb dX7_init_34 (by decide) ?_
  refine tc_newa (ty := .int) (t := 0) hC hB.1 rfl rfl rfl kw_104 (N := 1296) tk_1296 (by decide) (Nat.le_of_ble_eq_true rfl) (Nat.le_of_ble_eq_true rfl) dX7_init_37 (fun b37 H37 eb37 zb37 oq37 hB1 k37 => ?_)
  have u37 := k37.2.1
  have n370 : ¬ th_MR G Γ9 H30 b37 := fun w => absurd (th_MR_lt hB.2.1 w) (by omega)
  have hB := th_NR_s hB hB1 u37 n370 (by omega) oq37
  have n37 : ¬ th_MR G Γ9 H37 b37 := fun w => n370 (th_MR_s u37 oq37 w)
  have lb37 : H0.size ≤ b37 := by omega
  have ho := tc_OBo ho oq37 (by omega)
  have k19xxxx := tm_MAo k19xxx oq37 (by have q9 := tm_lt k19xxx; omega)
  have n19xxxx : ¬ th_MR G Γ9 H37 b19 := fun w => n19xxx (th_MR_s u37 oq37 w)
  have k28xx := tm_MAo k28x oq37 (by have q9 := tm_lt k28x; omega)
  have n28xx : ¬ th_MR G Γ9 H37 b28 := fun w => n28x (th_MR_s u37 oq37 w)
  have hs : H0.size ≤ H37.size := by omega
  have dd_b37_b19 : b19 ≠ b37 := by have q9 := lt_b19; omega
  have dd_b37_b28 : b28 ≠ b37 := by have q9 := lt_b28; omega
  have lt_b37 : b37 < H37.size := by omega
  have nr_b5_b37 : b5 ≠ b37 := by have q9 := lt_b5; omega
  have lt_b5 : b5 < H37.size := by omega
  have lt_b19 : b19 < H37.size := by omega
  have lt_b28 : b28 < H37.size := by omega
  refine tc_putF hC cf_X7 hB.1 ho (j := 3) (by decide) rfl hnm rfl rfl kf_X7_25 dX7_init_39 (fun H39 locs hB1 ho z39 oq39 => ?_)
  have hu := hB.1.2.2.2.2.1
  have hB := th_NR_s hB hB1 hu hB.2.2.1 (by omega) oq39
  have k19xxxxx := tm_MAo k19xxxx oq39 (by have q9 := lb19; omega)
  have n19xxxxx : ¬ th_MR G Γ9 H39 b19 := fun w => n19xxxx (th_MR_s hu oq39 w)
  have k28xxx := tm_MAo k28xx oq39 (by have q9 := lb28; omega)
  have n28xxx : ¬ th_MR G Γ9 H39 b28 := fun w => n28xx (th_MR_s hu oq39 w)
  have k37x := tm_MAo k37 oq39 (by have q9 := lb37; omega)
  have n37x : ¬ th_MR G Γ9 H39 b37 := fun w => n37 (th_MR_s hu oq39 w)
  have hs : H0.size ≤ H39.size := by omega
  have lt_b19 : b19 < H39.size := by omega
  have lt_b28 : b28 < H39.size := by omega
  have lt_b37 : b37 < H39.size := by omega
  have lt_b5 : b5 < H39.size := by omega
  refine lv_aload_n hx hb dX7_init_42 rfl (lv_at hl 0 rfl) ?_
  refine lv_bipush (v := 9) hx hb dX7_init_43 (by decide) ?_
  refine tc_newa (ty := .int) (t := 0) hC hB.1 rfl rfl rfl kw_104 (N := 9) tk_9 (by decide) (Nat.le_of_ble_eq_true rfl) (Nat.le_of_ble_eq_true rfl) dX7_init_45 (fun b45 H45 eb45 zb45 oq45 hB1 k45 => ?_)
  have u45 := k45.2.1
  have n450 : ¬ th_MR G Γ9 H39 b45 := fun w => absurd (th_MR_lt hB.2.1 w) (by omega)
  have hB := th_NR_s hB hB1 u45 n450 (by omega) oq45
  have n45 : ¬ th_MR G Γ9 H45 b45 := fun w => n450 (th_MR_s u45 oq45 w)
  have lb45 : H0.size ≤ b45 := by omega
  have ho := tc_OBo ho oq45 (by omega)
  have k19xxxxxx := tm_MAo k19xxxxx oq45 (by have q9 := tm_lt k19xxxxx; omega)
  have n19xxxxxx : ¬ th_MR G Γ9 H45 b19 := fun w => n19xxxxx (th_MR_s u45 oq45 w)
  have k28xxxx := tm_MAo k28xxx oq45 (by have q9 := tm_lt k28xxx; omega)
  have n28xxxx : ¬ th_MR G Γ9 H45 b28 := fun w => n28xxx (th_MR_s u45 oq45 w)
  have k37xx := tm_MAo k37x oq45 (by have q9 := tm_lt k37x; omega)
  have n37xx : ¬ th_MR G Γ9 H45 b37 := fun w => n37x (th_MR_s u45 oq45 w)
  have hs : H0.size ≤ H45.size := by omega
  have dd_b45_b19 : b19 ≠ b45 := by have q9 := lt_b19; omega
  have dd_b45_b28 : b28 ≠ b45 := by have q9 := lt_b28; omega
  have dd_b45_b37 : b37 ≠ b45 := by have q9 := lt_b37; omega
  have lt_b45 : b45 < H45.size := by omega
  have nr_b5_b45 : b5 ≠ b45 := by have q9 := lt_b5; omega
  have lt_b5 : b5 < H45.size := by omega
  have lt_b19 : b19 < H45.size := by omega
  have lt_b28 : b28 < H45.size := by omega
  have lt_b37 : b37 < H45.size := by omega
  refine tc_putF hC cf_X7 hB.1 ho (j := 4) (by decide) rfl hnm rfl rfl kf_X7_28 dX7_init_47 (fun H47 locs hB1 ho z47 oq47 => ?_)
  have hu := hB.1.2.2.2.2.1
  have hB := th_NR_s hB hB1 hu hB.2.2.1 (by omega) oq47
  have k19xxxxxxx := tm_MAo k19xxxxxx oq47 (by have q9 := lb19; omega)
  have n19xxxxxxx : ¬ th_MR G Γ9 H47 b19 := fun w => n19xxxxxx (th_MR_s hu oq47 w)
  have k28xxxxx := tm_MAo k28xxxx oq47 (by have q9 := lb28; omega)
  have n28xxxxx : ¬ th_MR G Γ9 H47 b28 := fun w => n28xxxx (th_MR_s hu oq47 w)
  have k37xxx := tm_MAo k37xx oq47 (by have q9 := lb37; omega)
  have n37xxx : ¬ th_MR G Γ9 H47 b37 := fun w => n37xx (th_MR_s hu oq47 w)
  have k45x := tm_MAo k45 oq47 (by have q9 := lb45; omega)
  have n45x : ¬ th_MR G Γ9 H47 b45 := fun w => n45 (th_MR_s hu oq47 w)
  have hs : H0.size ≤ H47.size := by omega
  have lt_b19 : b19 < H47.size := by omega
  have lt_b28 : b28 < H47.size := by omega
  have lt_b37 : b37 < H47.size := by omega
  have lt_b45 : b45 < H47.size := by omega
  have lt_b5 : b5 < H47.size := by omega
  refine lv_aload_n hx hb dX7_init_50 rfl (lv_at hl 0 rfl) ?_
  refine lv_iconst (v := 0) hx hb dX7_init_51 (by decide) ?_
  refine tc_put hC cf_X7 hB.1 ho (j := 5) (by decide) rfl rfl rfl kf_X7_31 dX7_init_52 (fun H52 locs hB1 ho z52 oq52 => ?_)
  have hu := hB.1.2.2.2.2.1
  have hB := th_NR_s hB hB1 hu hB.2.2.1 (by omega) oq52
  have k19xxxxxxxx := tm_MAo k19xxxxxxx oq52 (by have q9 := lb19; omega)
  have n19xxxxxxxx : ¬ th_MR G Γ9 H52 b19 := fun w => n19xxxxxxx (th_MR_s hu oq52 w)
  have k28xxxxxx := tm_MAo k28xxxxx oq52 (by have q9 := lb28; omega)
  have n28xxxxxx : ¬ th_MR G Γ9 H52 b28 := fun w => n28xxxxx (th_MR_s hu oq52 w)
  have k37xxxx := tm_MAo k37xxx oq52 (by have q9 := lb37; omega)
  have n37xxxx : ¬ th_MR G Γ9 H52 b37 := fun w => n37xxx (th_MR_s hu oq52 w)
  have k45xx := tm_MAo k45x oq52 (by have q9 := lb45; omega)
  have n45xx : ¬ th_MR G Γ9 H52 b45 := fun w => n45x (th_MR_s hu oq52 w)
  have hs : H0.size ≤ H52.size := by omega
  have lt_b19 : b19 < H52.size := by omega
  have lt_b28 : b28 < H52.size := by omega
  have lt_b37 : b37 < H52.size := by omega
  have lt_b45 : b45 < H52.size := by omega
  have lt_b5 : b5 < H52.size := by omega
  refine lv_aload_n hx hb dX7_init_55 rfl (lv_at hl 0 rfl) ?_
  refine lv_iconst (v := 0) hx hb dX7_init_56 (by decide) ?_
  refine tc_put hC cf_X7 hB.1 ho (j := 6) (by decide) rfl rfl rfl kf_X7_35 dX7_init_57 (fun H57 locs hB1 ho z57 oq57 => ?_)
  have hu := hB.1.2.2.2.2.1
  have hB := th_NR_s hB hB1 hu hB.2.2.1 (by omega) oq57
  have k19xxxxxxxxx := tm_MAo k19xxxxxxxx oq57 (by have q9 := lb19; omega)
  have n19xxxxxxxxx : ¬ th_MR G Γ9 H57 b19 := fun w => n19xxxxxxxx (th_MR_s hu oq57 w)
  have k28xxxxxxx := tm_MAo k28xxxxxx oq57 (by have q9 := lb28; omega)
  have n28xxxxxxx : ¬ th_MR G Γ9 H57 b28 := fun w => n28xxxxxx (th_MR_s hu oq57 w)
  have k37xxxxx := tm_MAo k37xxxx oq57 (by have q9 := lb37; omega)
  have n37xxxxx : ¬ th_MR G Γ9 H57 b37 := fun w => n37xxxx (th_MR_s hu oq57 w)
  have k45xxx := tm_MAo k45xx oq57 (by have q9 := lb45; omega)
  have n45xxx : ¬ th_MR G Γ9 H57 b45 := fun w => n45xx (th_MR_s hu oq57 w)
  have hs : H0.size ≤ H57.size := by omega
  have lt_b19 : b19 < H57.size := by omega
  have lt_b28 : b28 < H57.size := by omega
  have lt_b37 : b37 < H57.size := by omega
  have lt_b45 : b45 < H57.size := by omega
  have lt_b5 : b5 < H57.size := by omega
  have hI1 := hB.1.1
  have hR1 := hB.2.1
  have hI2 := th_nmA (r := 28) (o := a0) hI1 k19xxxxxxxxx ro_28 (Nat.le_refl _) (Nat.le_refl _) (fun i _ => th_sI (x := 0) (by decide) (by decide))
  have hR1 := th_RC_up hI1 hR1 (x := (28, a0)) k19xxxxxxxxx.2.1 n19xxxxxxxxx hI2 (fun e => absurd (show (28 : Nat) = 3 from e) (by decide)) (fun e => absurd (show (28 : Nat) = 18 ∨ (28 : Nat) = 19 from e) (by decide)) (show (28 : Nat) ≠ 12 by decide)
  have hI1 := hI2
  have ho := th_OB_up (b := b19) (x := (28, a0)) ho (by have q9 := lb19; omega)
  have k28xxxxxxxu := th_MA_up (b := b19) (x := (28, a0)) k28xxxxxxx (fun e => dd_b28_b19 e.symm)
  have n28xxxxxxxu : ¬ th_MR G (th_up Γ9 b19 (28, a0)) H57 b28 := fun w => n28xxxxxxx (th_MR_up (show (28 : Nat) ≠ 12 by decide) w)
  have k37xxxxxu := th_MA_up (b := b19) (x := (28, a0)) k37xxxxx (fun e => dd_b37_b19 e.symm)
  have n37xxxxxu : ¬ th_MR G (th_up Γ9 b19 (28, a0)) H57 b37 := fun w => n37xxxxx (th_MR_up (show (28 : Nat) ≠ 12 by decide) w)
  have k45xxxu := th_MA_up (b := b19) (x := (28, a0)) k45xxx (fun e => dd_b45_b19 e.symm)
  have n45xxxu : ¬ th_MR G (th_up Γ9 b19 (28, a0)) H57 b45 := fun w => n45xxx (th_MR_up (show (28 : Nat) ≠ 12 by decide) w)
  have hI2 := th_nmA (r := 29) (o := a0) hI1 k28xxxxxxxu ro_29 (Nat.le_refl _) (Nat.le_refl _) (fun i _ => th_sI (x := 0) (by decide) (by decide))
  have hR1 := th_RC_up hI1 hR1 (x := (29, a0)) k28xxxxxxxu.2.1 n28xxxxxxxu hI2 (fun e => absurd (show (29 : Nat) = 3 from e) (by decide)) (fun e => absurd (show (29 : Nat) = 18 ∨ (29 : Nat) = 19 from e) (by decide)) (show (29 : Nat) ≠ 12 by decide)
  have hI1 := hI2
  have ho := th_OB_up (b := b28) (x := (29, a0)) ho (by have q9 := lb28; omega)
  have k37xxxxxuu := th_MA_up (b := b28) (x := (29, a0)) k37xxxxxu (fun e => dd_b37_b28 e.symm)
  have n37xxxxxuu : ¬ th_MR G (th_up (th_up Γ9 b19 (28, a0)) b28 (29, a0)) H57 b37 := fun w => n37xxxxxu (th_MR_up (show (29 : Nat) ≠ 12 by decide) w)
  have k45xxxuu := th_MA_up (b := b28) (x := (29, a0)) k45xxxu (fun e => dd_b45_b28 e.symm)
  have n45xxxuu : ¬ th_MR G (th_up (th_up Γ9 b19 (28, a0)) b28 (29, a0)) H57 b45 := fun w => n45xxxu (th_MR_up (show (29 : Nat) ≠ 12 by decide) w)
  have hI2 := th_nmA (r := 30) (o := a0) hI1 k37xxxxxuu ro_30 (Nat.le_refl _) (Nat.le_refl _) (fun i _ => th_sI (x := 0) (by decide) (by decide))
  have hR1 := th_RC_up hI1 hR1 (x := (30, a0)) k37xxxxxuu.2.1 n37xxxxxuu hI2 (fun e => absurd (show (30 : Nat) = 3 from e) (by decide)) (fun e => absurd (show (30 : Nat) = 18 ∨ (30 : Nat) = 19 from e) (by decide)) (show (30 : Nat) ≠ 12 by decide)
  have hI1 := hI2
  have ho := th_OB_up (b := b37) (x := (30, a0)) ho (by have q9 := lb37; omega)
  have k45xxxuuu := th_MA_up (b := b37) (x := (30, a0)) k45xxxuu (fun e => dd_b45_b37 e.symm)
  have n45xxxuuu : ¬ th_MR G (th_up (th_up (th_up Γ9 b19 (28, a0)) b28 (29, a0)) b37 (30, a0)) H57 b45 := fun w => n45xxxuu (th_MR_up (show (30 : Nat) ≠ 12 by decide) w)
  have hI2 := th_nmA (r := 31) (o := a0) hI1 k45xxxuuu ro_31 (Nat.le_refl _) (Nat.le_refl _) (fun i _ => th_sI (x := 0) (by decide) (by decide))
  have hR1 := th_RC_up hI1 hR1 (x := (31, a0)) k45xxxuuu.2.1 n45xxxuuu hI2 (fun e => absurd (show (31 : Nat) = 3 from e) (by decide)) (fun e => absurd (show (31 : Nat) = 18 ∨ (31 : Nat) = 19 from e) (by decide)) (show (31 : Nat) ≠ 12 by decide)
  have hI1 := hI2
  have ho := th_OB_up (b := b45) (x := (31, a0)) ho (by have q9 := lb45; omega)
  have g_b19 : (th_up (th_up (th_up (th_up Γ9 b19 (28, a0)) b28 (29, a0)) b37 (30, a0)) b45 (31, a0)) b19 = (28, a0) := (th_up_n (dd_b45_b19)).trans ((th_up_n (dd_b37_b19)).trans ((th_up_n (dd_b28_b19)).trans (th_up_s)))
  have g_b28 : (th_up (th_up (th_up (th_up Γ9 b19 (28, a0)) b28 (29, a0)) b37 (30, a0)) b45 (31, a0)) b28 = (29, a0) := (th_up_n (dd_b45_b28)).trans ((th_up_n (dd_b37_b28)).trans (th_up_s))
  have g_b37 : (th_up (th_up (th_up (th_up Γ9 b19 (28, a0)) b28 (29, a0)) b37 (30, a0)) b45 (31, a0)) b37 = (30, a0) := (th_up_n (dd_b45_b37)).trans (th_up_s)
  have g_b45 : (th_up (th_up (th_up (th_up Γ9 b19 (28, a0)) b28 (29, a0)) b37 (30, a0)) b45 (31, a0)) b45 = (31, a0) := th_up_s
  have nm0 : ¬ th_MR G (th_up (th_up (th_up (th_up Γ9 b19 (28, a0)) b28 (29, a0)) b37 (30, a0)) b45 (31, a0)) H57 a0 := fun w => hB.2.2.1 (th_MR_up (show (28 : Nat) ≠ 12 by decide) (th_MR_up (show (29 : Nat) ≠ 12 by decide) (th_MR_up (show (30 : Nat) ≠ 12 by decide) (th_MR_up (show (31 : Nat) ≠ 12 by decide) w))))
  have hI2 := th_nmO (r := 27) hI1 ho hsz ro_27 rfl (fun j q hq => by
    match j, hq with
    | 0, hq => have e9 := Option.some.inj hq; subst e9; exact th_sR ((th_up_n nr_b5_b45).trans ((th_up_n nr_b5_b37).trans ((th_up_n nr_b5_b28).trans ((th_up_n nr_b5_b19).trans hr_b5))))
    | 1, hq => have e9 := Option.some.inj hq; subst e9; exact th_sO g_b19
    | 2, hq => have e9 := Option.some.inj hq; subst e9; exact th_sO g_b28
    | 3, hq => have e9 := Option.some.inj hq; subst e9; exact th_sO g_b37
    | 4, hq => have e9 := Option.some.inj hq; subst e9; exact th_sO g_b45
    | 5, hq => have e9 := Option.some.inj hq; subst e9; exact th_sI (x := 0) (by decide) (by decide)
    | 6, hq => have e9 := Option.some.inj hq; subst e9; exact th_sI (x := 0) (by decide) (by decide)
    | 7, hq => have e9 := Option.some.inj hq; subst e9; exact th_sN
    | 8, hq => have e9 := Option.some.inj hq; subst e9; exact th_sN
    | 9, hq => have e9 := Option.some.inj hq; subst e9; exact th_sN
    | 10, hq => have e9 := Option.some.inj hq; subst e9; exact th_sN
    | 11, hq => have e9 := Option.some.inj hq; subst e9; exact th_sI (x := 0) (by decide) (by decide)
    | 12, hq => have e9 := Option.some.inj hq; subst e9; exact th_sI (x := 0) (by decide) (by decide)
    | 13, hq => have e9 := Option.some.inj hq; subst e9; exact th_sI (x := 0) (by decide) (by decide)
    | n + 14, hq => exact absurd (List.getElem?_eq_some_iff.mp hq).1 (by simp))
  have hR2 := th_RC_up hI1 hR1 (x := (27, 0)) ho.1 nm0 hI2 (fun e => absurd e (by decide)) (fun e => absurd e (by decide)) (by decide)
  have gq : ∀ q, q < H0.size → q ≠ a0 → (th_up (th_up (th_up (th_up (th_up Γ9 b19 (28, a0)) b28 (29, a0)) b37 (30, a0)) b45 (31, a0)) a0 (27, 0)) q = Γ9 q := fun q h1 h2 => (((((th_up_n h2).trans (th_up_n (by have q9 := lb45; omega))).trans (th_up_n (by have q9 := lb37; omega))).trans (th_up_n (by have q9 := lb28; omega))).trans (th_up_n (by have q9 := lb19; omega)))
  refine th_vret hC hH hr hlocks hB.1.2.1 ⟨rfl, (th_up (th_up (th_up (th_up (th_up Γ9 b19 (28, a0)) b28 (29, a0)) b37 (30, a0)) b45 (31, a0)) a0 (27, 0)), ⟨hI2, hs, fun q h1 h2 => ⟨(gq q h1 h2).trans (hB.1.2.2.2.1 q h1 h2), hB.1.2.2.1 q h1 h2⟩⟩, hR2, th_up_s, fun q w => hB.2.2.2 q (th_MR_up (show (28 : Nat) ≠ 12 by decide) (th_MR_up (show (29 : Nat) ≠ 12 by decide) (th_MR_up (show (30 : Nat) ≠ 12 by decide) (th_MR_up (show (31 : Nat) ≠ 12 by decide) (th_MR_up (show (27 : Nat) ≠ 12 by decide) w))))), fun q x o hg hq hs => ?_⟩ dX7_init_60
  by_cases e_a0 : q = a0
  · rw [e_a0, th_up_s] at hg; cases hg; decide
  rw [th_up_n e_a0] at hg
  by_cases e_b45 : q = b45
  · rw [e_b45, th_up_s] at hg; cases hg; decide
  rw [th_up_n e_b45] at hg
  by_cases e_b37 : q = b37
  · rw [e_b37, th_up_s] at hg; cases hg; decide
  rw [th_up_n e_b37] at hg
  by_cases e_b28 : q = b28
  · rw [e_b28, th_up_s] at hg; cases hg; decide
  rw [th_up_n e_b28] at hg
  by_cases e_b19 : q = b19
  · rw [e_b19, th_up_s] at hg; cases hg; decide
  rw [th_up_n e_b19] at hg
  exact (show ∀ x ∈ (([] ++ [12]) : List Nat), x ∈ [12, 27, 28, 29, 30, 31] by decide) x (hN q x o hg hq hs)
