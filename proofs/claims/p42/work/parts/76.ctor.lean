set_option maxHeartbeats 4000000 in
set_option maxRecDepth 100000 in
theorem c_X3_init (l : Launch) (G : th_G) (Γ : th_Ga) (H0 : Heap) (hI : th_I G Γ H0) (hR : th_RC G Γ H0) (a0 : Nat) (ho : th_OB G Γ H0 a0 3 7 (fun j => defaultValue (tyX3 j))) (hsz : G.2.2 ≤ a0) (hlt : a0 < H0.size) (hm : ¬ th_MR G Γ H0 a0) (hno : ∀ a o : Nat, Γ a ≠ (12, o)) : Met l yX3_init (.code yX3_init cX3_init 1 (none) :: th_tb) ({ frames := 1, cells := 4, slots := 3584, locals := 24 } : Room) (th_P [.ref a0] G H0) (th_Q (fun (v : Option Value) (H1 : Heap) => v = none ∧ ∃ Γ1 : th_Ga, th_NY G Γ Γ1 a0 12 [12] H0 H1) G) 4 3584 (fun q => G.2.2 ≤ q) := by
  refine th_met RX3 (by decide) rfl (Nat.le_of_ble_eq_true rfl) ?_
  intro p e s m below meth c hC hH hr hlocks hnm ls hl
  have hx := hC.1
  have hb := hC.2.1
  have hB : th_NR G Γ Γ a0 H0 H0 [] := ⟨⟨hI, va_S.rf, fun _ _ _ => rfl, fun _ _ _ => rfl, ho.1, hsz, hlt⟩, hR, hm, fun q w => Or.inl w⟩
  have hl : lv_has ls 1 [(0, .ref a0)] := hl
  have hs : H0.size ≤ H0.size := Nat.le_refl _
  have hN := th_new_0 (a0 := a0) hI ho.1
  refine lv_aload_n hx hb dX3_init_0 rfl (lv_at hl 0 rfl) ?_
  refine W.objInit hx hb hC.2.2.2.1 (hC.2.2.2.2.1 _ kw_295) (hC.2.2.2.2.1 _ kw_28) (hC.2.2.2.2.1 _ kw_29) rfl (hl.1.trans hC.2.2.1.symm) rfl dX3_init_1 (Nat.le_of_ble_eq_true rfl) (Nat.le_of_ble_eq_true rfl) ?_
  refine W.eq (g2 := F0 m 4 ls []) rfl ?_
  refine lv_aload_n hx hb dX3_init_4 rfl (lv_at hl 0 rfl) ?_
  refine lv_bipush (v := 10) hx hb dX3_init_5 (by decide) ?_
  refine tc_put hC cf_X3 hB.1 ho (j := 0) (by decide) rfl rfl rfl kf_X3_11 dX3_init_7 (fun H7 locs hB1 ho z7 oq7 => ?_)
  have hu := hB.1.2.2.2.2.1
  have hB := th_NR_s hB hB1 hu hB.2.2.1 (by omega) oq7
  have hs : H0.size ≤ H7.size := by omega
  refine lv_aload_n hx hb dX3_init_10 rfl (lv_at hl 0 rfl) ?_
  refine lv_sipush (v := 1024) hx hb dX3_init_11 (by decide) ?_
  refine tc_newa (ty := .long) (t := 1) hC hB.1 rfl rfl rfl kw_246 (N := 1024) tk_1024 (by decide) (Nat.le_of_ble_eq_true rfl) (Nat.le_of_ble_eq_true rfl) dX3_init_14 (fun b14 H14 eb14 zb14 oq14 hB1 k14 => ?_)
  have u14 := k14.2.1
  have n140 : ¬ th_MR G Γ H7 b14 := fun w => absurd (th_MR_lt hB.2.1 w) (by omega)
  have hB := th_NR_s hB hB1 u14 n140 (by omega) oq14
  have n14 : ¬ th_MR G Γ H14 b14 := fun w => n140 (th_MR_s u14 oq14 w)
  have lb14 : H0.size ≤ b14 := by omega
  have ho := tc_OBo ho oq14 (by omega)
  have hs : H0.size ≤ H14.size := by omega
  have lt_b14 : b14 < H14.size := by omega
  refine tc_put hC cf_X3 hB.1 ho (j := 1) (by decide) rfl rfl rfl kf_X3_15 dX3_init_16 (fun H16 locs hB1 ho z16 oq16 => ?_)
  have hu := hB.1.2.2.2.2.1
  have hB := th_NR_s hB hB1 hu hB.2.2.1 (by omega) oq16
  have k14x := tm_MAo k14 oq16 (by have q9 := lb14; omega)
  have n14x : ¬ th_MR G Γ H16 b14 := fun w => n14 (th_MR_s hu oq16 w)
  have hs : H0.size ≤ H16.size := by omega
  have lt_b14 : b14 < H16.size := by omega
  refine lv_aload_n hx hb dX3_init_19 rfl (lv_at hl 0 rfl) ?_
  refine lv_sipush (v := 1024) hx hb dX3_init_20 (by decide) ?_
  refine tc_newa (ty := .int) (t := 0) hC hB.1 rfl rfl rfl kw_104 (N := 1024) tk_1024 (by decide) (Nat.le_of_ble_eq_true rfl) (Nat.le_of_ble_eq_true rfl) dX3_init_23 (fun b23 H23 eb23 zb23 oq23 hB1 k23 => ?_)
  have u23 := k23.2.1
  have n230 : ¬ th_MR G Γ H16 b23 := fun w => absurd (th_MR_lt hB.2.1 w) (by omega)
  have hB := th_NR_s hB hB1 u23 n230 (by omega) oq23
  have n23 : ¬ th_MR G Γ H23 b23 := fun w => n230 (th_MR_s u23 oq23 w)
  have lb23 : H0.size ≤ b23 := by omega
  have ho := tc_OBo ho oq23 (by omega)
  have k14xx := tm_MAo k14x oq23 (by have q9 := tm_lt k14x; omega)
  have n14xx : ¬ th_MR G Γ H23 b14 := fun w => n14x (th_MR_s u23 oq23 w)
  have hs : H0.size ≤ H23.size := by omega
  have dd_b23_b14 : b14 ≠ b23 := by have q9 := lt_b14; omega
  have lt_b23 : b23 < H23.size := by omega
  have lt_b14 : b14 < H23.size := by omega
  refine tc_put hC cf_X3 hB.1 ho (j := 2) (by decide) rfl rfl rfl kf_X3_19 dX3_init_25 (fun H25 locs hB1 ho z25 oq25 => ?_)
  have hu := hB.1.2.2.2.2.1
  have hB := th_NR_s hB hB1 hu hB.2.2.1 (by omega) oq25
  have k14xxx := tm_MAo k14xx oq25 (by have q9 := lb14; omega)
  have n14xxx : ¬ th_MR G Γ H25 b14 := fun w => n14xx (th_MR_s hu oq25 w)
  have k23x := tm_MAo k23 oq25 (by have q9 := lb23; omega)
  have n23x : ¬ th_MR G Γ H25 b23 := fun w => n23 (th_MR_s hu oq25 w)
  have hs : H0.size ≤ H25.size := by omega
  have lt_b14 : b14 < H25.size := by omega
  have lt_b23 : b23 < H25.size := by omega
  refine lv_aload_n hx hb dX3_init_28 rfl (lv_at hl 0 rfl) ?_
  refine lv_sipush (v := 1024) hx hb dX3_init_29 (by decide) ?_
  refine tc_newa (ty := .int) (t := 0) hC hB.1 rfl rfl rfl kw_104 (N := 1024) tk_1024 (by decide) (Nat.le_of_ble_eq_true rfl) (Nat.le_of_ble_eq_true rfl) dX3_init_32 (fun b32 H32 eb32 zb32 oq32 hB1 k32 => ?_)
  have u32 := k32.2.1
  have n320 : ¬ th_MR G Γ H25 b32 := fun w => absurd (th_MR_lt hB.2.1 w) (by omega)
  have hB := th_NR_s hB hB1 u32 n320 (by omega) oq32
  have n32 : ¬ th_MR G Γ H32 b32 := fun w => n320 (th_MR_s u32 oq32 w)
  have lb32 : H0.size ≤ b32 := by omega
  have ho := tc_OBo ho oq32 (by omega)
  have k14xxxx := tm_MAo k14xxx oq32 (by have q9 := tm_lt k14xxx; omega)
  have n14xxxx : ¬ th_MR G Γ H32 b14 := fun w => n14xxx (th_MR_s u32 oq32 w)
  have k23xx := tm_MAo k23x oq32 (by have q9 := tm_lt k23x; omega)
  have n23xx : ¬ th_MR G Γ H32 b23 := fun w => n23x (th_MR_s u32 oq32 w)
  have hs : H0.size ≤ H32.size := by omega
  have dd_b32_b14 : b14 ≠ b32 := by have q9 := lt_b14; omega
  have dd_b32_b23 : b23 ≠ b32 := by have q9 := lt_b23; omega
  have lt_b32 : b32 < H32.size := by omega
  have lt_b14 : b14 < H32.size := by omega
  have lt_b23 : b23 < H32.size := by omega
  refine tc_put hC cf_X3 hB.1 ho (j := 3) (by decide) rfl rfl rfl kf_X3_23 dX3_init_34 (fun H34 locs hB1 ho z34 oq34 => ?_)
  have hu := hB.1.2.2.2.2.1
  have hB := th_NR_s hB hB1 hu hB.2.2.1 (by omega) oq34
  have k14xxxxx := tm_MAo k14xxxx oq34 (by have q9 := lb14; omega)
  have n14xxxxx : ¬ th_MR G Γ H34 b14 := fun w => n14xxxx (th_MR_s hu oq34 w)
  have k23xxx := tm_MAo k23xx oq34 (by have q9 := lb23; omega)
  have n23xxx : ¬ th_MR G Γ H34 b23 := fun w => n23xx (th_MR_s hu oq34 w)
  have k32x := tm_MAo k32 oq34 (by have q9 := lb32; omega)
  have n32x : ¬ th_MR G Γ H34 b32 := fun w => n32 (th_MR_s hu oq34 w)
  have hs : H0.size ≤ H34.size := by omega
  have lt_b14 : b14 < H34.size := by omega
  have lt_b23 : b23 < H34.size := by omega
  have lt_b32 : b32 < H34.size := by omega
  refine lv_aload_n hx hb dX3_init_37 rfl (lv_at hl 0 rfl) ?_
  refine lv_sipush (v := 512) hx hb dX3_init_38 (by decide) ?_
  refine tc_newa (ty := .int) (t := 0) hC hB.1 rfl rfl rfl kw_104 (N := 512) tk_512 (by decide) (Nat.le_of_ble_eq_true rfl) (Nat.le_of_ble_eq_true rfl) dX3_init_41 (fun b41 H41 eb41 zb41 oq41 hB1 k41 => ?_)
  have u41 := k41.2.1
  have n410 : ¬ th_MR G Γ H34 b41 := fun w => absurd (th_MR_lt hB.2.1 w) (by omega)
  have hB := th_NR_s hB hB1 u41 n410 (by omega) oq41
  have n41 : ¬ th_MR G Γ H41 b41 := fun w => n410 (th_MR_s u41 oq41 w)
  have lb41 : H0.size ≤ b41 := by omega
  have ho := tc_OBo ho oq41 (by omega)
  have k14xxxxxx := tm_MAo k14xxxxx oq41 (by have q9 := tm_lt k14xxxxx; omega)
  have n14xxxxxx : ¬ th_MR G Γ H41 b14 := fun w => n14xxxxx (th_MR_s u41 oq41 w)
  have k23xxxx := tm_MAo k23xxx oq41 (by have q9 := tm_lt k23xxx; omega)
  have n23xxxx : ¬ th_MR G Γ H41 b23 := fun w => n23xxx (th_MR_s u41 oq41 w)
  have k32xx := tm_MAo k32x oq41 (by have q9 := tm_lt k32x; omega)
  have n32xx : ¬ th_MR G Γ H41 b32 := fun w => n32x (th_MR_s u41 oq41 w)
  have hs : H0.size ≤ H41.size := by omega
  have dd_b41_b14 : b14 ≠ b41 := by have q9 := lt_b14; omega
  have dd_b41_b23 : b23 ≠ b41 := by have q9 := lt_b23; omega
  have dd_b41_b32 : b32 ≠ b41 := by have q9 := lt_b32; omega
  have lt_b41 : b41 < H41.size := by omega
  have lt_b14 : b14 < H41.size := by omega
  have lt_b23 : b23 < H41.size := by omega
  have lt_b32 : b32 < H41.size := by omega
  refine tc_put hC cf_X3 hB.1 ho (j := 4) (by decide) rfl rfl rfl kf_X3_26 dX3_init_43 (fun H43 locs hB1 ho z43 oq43 => ?_)
  have hu := hB.1.2.2.2.2.1
  have hB := th_NR_s hB hB1 hu hB.2.2.1 (by omega) oq43
  have k14xxxxxxx := tm_MAo k14xxxxxx oq43 (by have q9 := lb14; omega)
  have n14xxxxxxx : ¬ th_MR G Γ H43 b14 := fun w => n14xxxxxx (th_MR_s hu oq43 w)
  have k23xxxxx := tm_MAo k23xxxx oq43 (by have q9 := lb23; omega)
  have n23xxxxx : ¬ th_MR G Γ H43 b23 := fun w => n23xxxx (th_MR_s hu oq43 w)
  have k32xxx := tm_MAo k32xx oq43 (by have q9 := lb32; omega)
  have n32xxx : ¬ th_MR G Γ H43 b32 := fun w => n32xx (th_MR_s hu oq43 w)
  have k41x := tm_MAo k41 oq43 (by have q9 := lb41; omega)
  have n41x : ¬ th_MR G Γ H43 b41 := fun w => n41 (th_MR_s hu oq43 w)
  have hs : H0.size ≤ H43.size := by omega
  have lt_b14 : b14 < H43.size := by omega
  have lt_b23 : b23 < H43.size := by omega
  have lt_b32 : b32 < H43.size := by omega
  have lt_b41 : b41 < H43.size := by omega
  refine lv_aload_n hx hb dX3_init_46 rfl (lv_at hl 0 rfl) ?_
  refine lv_iconst (v := 0) hx hb dX3_init_47 (by decide) ?_
  refine tc_put hC cf_X3 hB.1 ho (j := 5) (by decide) rfl rfl rfl kf_X3_29 dX3_init_48 (fun H48 locs hB1 ho z48 oq48 => ?_)
  have hu := hB.1.2.2.2.2.1
  have hB := th_NR_s hB hB1 hu hB.2.2.1 (by omega) oq48
  have k14xxxxxxxx := tm_MAo k14xxxxxxx oq48 (by have q9 := lb14; omega)
  have n14xxxxxxxx : ¬ th_MR G Γ H48 b14 := fun w => n14xxxxxxx (th_MR_s hu oq48 w)
  have k23xxxxxx := tm_MAo k23xxxxx oq48 (by have q9 := lb23; omega)
  have n23xxxxxx : ¬ th_MR G Γ H48 b23 := fun w => n23xxxxx (th_MR_s hu oq48 w)
  have k32xxxx := tm_MAo k32xxx oq48 (by have q9 := lb32; omega)
  have n32xxxx : ¬ th_MR G Γ H48 b32 := fun w => n32xxx (th_MR_s hu oq48 w)
  have k41xx := tm_MAo k41x oq48 (by have q9 := lb41; omega)
  have n41xx : ¬ th_MR G Γ H48 b41 := fun w => n41x (th_MR_s hu oq48 w)
  have hs : H0.size ≤ H48.size := by omega
  have lt_b14 : b14 < H48.size := by omega
  have lt_b23 : b23 < H48.size := by omega
  have lt_b32 : b32 < H48.size := by omega
  have lt_b41 : b41 < H48.size := by omega
  refine lv_aload_n hx hb dX3_init_51 rfl (lv_at hl 0 rfl) ?_
  refine lv_iconst (v := 0) hx hb dX3_init_52 (by decide) ?_
  refine tc_put hC cf_X3 hB.1 ho (j := 6) (by decide) rfl narrow_b0 rfl kf_X3_32 dX3_init_53 (fun H53 locs hB1 ho z53 oq53 => ?_)
  have hu := hB.1.2.2.2.2.1
  have hB := th_NR_s hB hB1 hu hB.2.2.1 (by omega) oq53
  have k14xxxxxxxxx := tm_MAo k14xxxxxxxx oq53 (by have q9 := lb14; omega)
  have n14xxxxxxxxx : ¬ th_MR G Γ H53 b14 := fun w => n14xxxxxxxx (th_MR_s hu oq53 w)
  have k23xxxxxxx := tm_MAo k23xxxxxx oq53 (by have q9 := lb23; omega)
  have n23xxxxxxx : ¬ th_MR G Γ H53 b23 := fun w => n23xxxxxx (th_MR_s hu oq53 w)
  have k32xxxxx := tm_MAo k32xxxx oq53 (by have q9 := lb32; omega)
  have n32xxxxx : ¬ th_MR G Γ H53 b32 := fun w => n32xxxx (th_MR_s hu oq53 w)
  have k41xxx := tm_MAo k41xx oq53 (by have q9 := lb41; omega)
  have n41xxx : ¬ th_MR G Γ H53 b41 := fun w => n41xx (th_MR_s hu oq53 w)
  have hs : H0.size ≤ H53.size := by omega
  have lt_b14 : b14 < H53.size := by omega
  have lt_b23 : b23 < H53.size := by omega
  have lt_b32 : b32 < H53.size := by omega
  have lt_b41 : b41 < H53.size := by omega
  refine lv_aload_n hx hb dX3_init_56 rfl (lv_at hl 0 rfl) ?_
  refine tc_get hC cf_X3 ho (j := 1) (by decide) rfl kf_X3_15 dX3_init_57 ?_
  refine lv_ldc2 (v := (-1)) hx hb hC.2.2.2.1 (hC.2.2.2.2.1 _ kw_296) dX3_init_60 ?_
  refine th_call (th_runS (As := [.ref b14, .long (-1)]) (rest := []) hC mf_J7_fill_d0a16 km_X3_38 st_J7_fill_d0a16 (c_J7_fill_d0a16_m1024 l G Γ H53 hB.1.1 b14 (fun _ => 0) k14xxxxxxxxx (-1)) rfl rfl ⟨Nat.le_of_ble_eq_true rfl, Nat.le_of_ble_eq_true rfl⟩ rfl hl.1 rfl (Nat.le_of_ble_eq_true rfl) dX3_init_63 ⟨Nat.le_refl _, Nat.le_refl _⟩) hB.1.2.1 (fun v63 H63 locs hp hz hS => ?_)
  obtain ⟨rfl, hIf, hf, ⟨gf, kq⟩, hfr⟩ := hp
  have oq : ∀ q, q ≠ b14 → H63[q]? = H53[q]? := fun q hq => hfr q (by simpa using hq)
  have hB1 : th_N G Γ Γ a0 H0 H63 locs := ⟨hIf, hS, fun q h1 h2 => (oq q (by have q9 := lb14; omega)).trans (hB.1.2.2.1 q h1 h2), hB.1.2.2.2⟩
  have hq := k14xxxxxxxxx.2.1
  have hB := th_NR_s hB hB1 hq n14xxxxxxxxx hz oq
  have ho := tc_OBo ho oq (by have q9 := lb14; omega)
  have k23xxxxxxxx := tm_MAo k23xxxxxxx oq (fun e => dd_b23_b14 e.symm)
  have k32xxxxxx := tm_MAo k32xxxxx oq (fun e => dd_b32_b14 e.symm)
  have k41xxxx := tm_MAo k41xxx oq (fun e => dd_b41_b14 e.symm)
  have kf := kq
  have hs : H0.size ≤ H63.size := by omega
  refine W.eq (g2 := F0 m 66 ls []) rfl ?_
  have hI2 := th_nmO (r := 12) hB.1.1 ho hsz ro_12 rfl (fun j q hq => by
    match j, hq with
    | 0, hq => have e9 := Option.some.inj hq; subst e9; exact th_sI (x := 10) (by decide) (by decide)
    | 1, hq => have e9 := Option.some.inj hq; subst e9; exact th_s5
    | 2, hq => have e9 := Option.some.inj hq; subst e9; exact th_s5
    | 3, hq => have e9 := Option.some.inj hq; subst e9; exact th_s5
    | 4, hq => have e9 := Option.some.inj hq; subst e9; exact th_s5
    | 5, hq => have e9 := Option.some.inj hq; subst e9; exact th_sI (x := 0) (by decide) (by decide)
    | 6, hq => have e9 := Option.some.inj hq; subst e9; exact th_sI (x := 0) (by decide) (by decide)
    | n + 7, hq => exact absurd (List.getElem?_eq_some_iff.mp hq).1 (by simp))
  have hR2 := th_RC_mm hB.2.1 hno ho rfl rfl rfl rfl rfl rfl kf k23xxxxxxxx k32xxxxxx k41xxxx (fun e => dd_b23_b14 e) (fun e => dd_b32_b14 e) (fun e => dd_b41_b14 e) (fun e => dd_b32_b23 e) (fun e => dd_b41_b23 e) (fun e => dd_b41_b32 e) (by have q9 := lb14; omega) (by have q9 := lb23; omega) (by have q9 := lb32; omega) (by have q9 := lb41; omega)
  refine th_vret hC hH hr hlocks hB.1.2.1 ⟨rfl, th_up Γ a0 (12, 0), ⟨hI2, hs, fun q h1 h2 => ⟨th_up_n h2, hB.1.2.2.1 q h1 h2⟩⟩, hR2, th_up_s, fun q w => Or.inr (th_MR_mm hno ho rfl rfl rfl rfl lb14 lb23 lb32 lb41 w), fun q x o hg hq hs => ?_⟩ dX3_init_66
  by_cases e_a0 : q = a0
  · rw [e_a0, th_up_s] at hg; cases hg; decide
  rw [th_up_n e_a0] at hg
  exact (show ∀ x ∈ ([] : List Nat), x ∈ [12] by decide) x (hN q x o hg hq hs)
