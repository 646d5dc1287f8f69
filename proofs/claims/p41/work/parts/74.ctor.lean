set_option maxHeartbeats 4000000 in
set_option maxRecDepth 100000 in
theorem c_X0_init (l : Launch) (G : th_G) (Γ : th_Ga) (H0 : Heap) (hI : th_I G Γ H0) (hR : th_RC G Γ H0) (a0 : Nat) (ho : th_OB G Γ H0 a0 0 1 (fun j => defaultValue (tyX0 j))) (hsz : G.2.2 ≤ a0) (hlt : a0 < H0.size) (hm : ¬ th_MR G Γ H0 a0) : Met l yX0_init (.code yX0_init cX0_init 1 (none) :: th_tb) ({ frames := 1, cells := 1, slots := 200, locals := 12 } : Room) (th_P [.ref a0] G H0) (th_Q (fun (v : Option Value) (H1 : Heap) => v = none ∧ ∃ Γ1 : th_Ga, th_NY G Γ Γ1 a0 1 [1, 2] H0 H1) G) 1 200 (fun q => G.2.2 ≤ q) := by
  refine th_met RX0 (by decide) rfl (Nat.le_of_ble_eq_true rfl) ?_
  intro p e s m below meth c hC hH hr hlocks hnm ls hl
  have hx := hC.1
  have hb := hC.2.1
  have hB : th_NR G Γ Γ a0 H0 H0 [] := ⟨⟨hI, va_S.rf, fun _ _ _ => rfl, fun _ _ _ => rfl, ho.1, hsz, hlt⟩, hR, hm, fun q w => Or.inl w⟩
  have hl : lv_has ls 1 [(0, .ref a0)] := hl
  have hs : H0.size ≤ H0.size := Nat.le_refl _
  refine lv_aload_n hx hb dX0_init_0 rfl (lv_at hl 0 rfl) ?_
  refine W.objInit hx hb hC.2.2.2.1 (hC.2.2.2.2.1 _ kw_372) (hC.2.2.2.2.1 _ kw_28) (hC.2.2.2.2.1 _ kw_29) rfl (hl.1.trans hC.2.2.1.symm) rfl dX0_init_1 (Nat.le_of_ble_eq_true rfl) (Nat.le_of_ble_eq_true rfl) ?_
  refine W.eq (g2 := F0 m 4 ls []) rfl ?_
  refine lv_aload_n hx hb dX0_init_4 rfl (lv_at hl 0 rfl) ?_
  refine lv_sipush (v := 200) hx hb dX0_init_5 (by decide) ?_
  refine tc_newa (ty := .long) (t := 1) hC hB.1 rfl rfl rfl kw_246 (N := 200) tk_200 (by decide) (Nat.le_of_ble_eq_true rfl) (Nat.le_of_ble_eq_true rfl) dX0_init_8 (fun b8 H8 eb8 zb8 oq8 hB1 k8 => ?_)
  have u8 := k8.2.1
  have n80 : ¬ th_MR G Γ H0 b8 := fun w => absurd (th_MR_lt hB.2.1 w) (by omega)
  have hB := th_NR_s hB hB1 u8 n80 (by omega) oq8
  have n8 : ¬ th_MR G Γ H8 b8 := fun w => n80 (th_MR_s u8 oq8 w)
  have lb8 : H0.size ≤ b8 := by omega
  have ho := tc_OBo ho oq8 (by omega)
  have hs : H0.size ≤ H8.size := by omega
  have lt_b8 : b8 < H8.size := by omega
  refine tc_putF hC cf_X0 hB.1 ho (j := 0) (by decide) rfl hnm rfl rfl kf_X0_9 dX0_init_10 (fun H10 locs hB1 ho z10 oq10 => ?_)
  have hu := hB.1.2.2.2.2.1
  have hB := th_NR_s hB hB1 hu hB.2.2.1 (by omega) oq10
  have k8x := tm_MAo k8 oq10 (by have q9 := lb8; omega)
  have n8x : ¬ th_MR G Γ H10 b8 := fun w => n8 (th_MR_s hu oq10 w)
  have hs : H0.size ≤ H10.size := by omega
  have lt_b8 : b8 < H10.size := by omega
  have hI1 := hB.1.1
  have hR1 := hB.2.1
  have hI2 := th_nmA (r := 2) (o := a0) hI1 k8x ro_2 (Nat.le_refl _) (Nat.le_refl _) (fun i _ => th_sLa (x := 0))
  have hR1 := th_RC_up hI1 hR1 (x := (2, a0)) k8x.2.1 n8x hI2 (fun e => absurd (show (2 : Nat) = 3 from e) (by decide)) (fun e => absurd (show (2 : Nat) = 18 ∨ (2 : Nat) = 19 from e) (by decide)) (show (2 : Nat) ≠ 12 by decide)
  have hI1 := hI2
  have ho := th_OB_up (b := b8) (x := (2, a0)) ho (by have q9 := lb8; omega)
  have g_b8 : (th_up Γ b8 (2, a0)) b8 = (2, a0) := th_up_s
  have nm0 : ¬ th_MR G (th_up Γ b8 (2, a0)) H10 a0 := fun w => hB.2.2.1 (th_MR_up (show (2 : Nat) ≠ 12 by decide) w)
  have hI2 := th_nmO (r := 1) hI1 ho hsz ro_1 rfl (fun j q hq => by
    match j, hq with
    | 0, hq => have e9 := Option.some.inj hq; subst e9; exact th_sO g_b8
    | n + 1, hq => exact absurd (List.getElem?_eq_some_iff.mp hq).1 (by simp))
  have hR2 := th_RC_up hI1 hR1 (x := (1, 0)) ho.1 nm0 hI2 (fun e => absurd e (by decide)) (fun e => absurd e (by decide)) (by decide)
  have gq : ∀ q, q < H0.size → q ≠ a0 → (th_up (th_up Γ b8 (2, a0)) a0 (1, 0)) q = Γ q := fun q h1 h2 => ((th_up_n h2).trans (th_up_n (by have q9 := lb8; omega)))
  refine th_vret hC hH hr hlocks hB.1.2.1 ⟨rfl, (th_up (th_up Γ b8 (2, a0)) a0 (1, 0)), ⟨hI2, hs, fun q h1 h2 => ⟨(gq q h1 h2).trans (hB.1.2.2.2.1 q h1 h2), hB.1.2.2.1 q h1 h2⟩⟩, hR2, th_up_s, fun q w => hB.2.2.2 q (th_MR_up (show (2 : Nat) ≠ 12 by decide) (th_MR_up (show (1 : Nat) ≠ 12 by decide) w)), fun q x o hg hq hs => ?_⟩ dX0_init_13
  by_cases e_a0 : q = a0
  · rw [e_a0, th_up_s] at hg; cases hg; decide
  rw [th_up_n e_a0] at hg
  by_cases e_b8 : q = b8
  · rw [e_b8, th_up_s] at hg; cases hg; decide
  rw [th_up_n e_b8] at hg
  exact absurd hs (by rcases hq with w | w; exact absurd w e_a0; have q9 : th_ro (Γ q).1 = none := tc_un hI w; rw [hg] at q9; rw [q9]; decide)

set_option maxHeartbeats 4000000 in
set_option maxRecDepth 100000 in
theorem c_X5_init (l : Launch) (G : th_G) (Γ : th_Ga) (H0 : Heap) (hI : th_I G Γ H0) (hR : th_RC G Γ H0) (a0 : Nat) (ho : th_OB G Γ H0 a0 5 9 (fun j => defaultValue (tyX5 j))) (hsz : G.2.2 ≤ a0) (hlt : a0 < H0.size) (hm : ¬ th_MR G Γ H0 a0) : Met l yX5_init (.code yX5_init cX5_init 1 (none) :: th_tb) ({ frames := 1, cells := 2, slots := 802, locals := 12 } : Room) (th_P [.ref a0] G H0) (th_Q (fun (v : Option Value) (H1 : Heap) => v = none ∧ ∃ Γ1 : th_Ga, th_NY G Γ Γ1 a0 20 [20, 21, 22] H0 H1) G) 2 802 (fun q => G.2.2 ≤ q) := by
  refine th_met RX5 (by decide) rfl (Nat.le_of_ble_eq_true rfl) ?_
  intro p e s m below meth c hC hH hr hlocks hnm ls hl
  have hx := hC.1
  have hb := hC.2.1
  have hB : th_NR G Γ Γ a0 H0 H0 [] := ⟨⟨hI, va_S.rf, fun _ _ _ => rfl, fun _ _ _ => rfl, ho.1, hsz, hlt⟩, hR, hm, fun q w => Or.inl w⟩
  have hl : lv_has ls 1 [(0, .ref a0)] := hl
  have hs : H0.size ≤ H0.size := Nat.le_refl _
  refine lv_aload_n hx hb dX5_init_0 rfl (lv_at hl 0 rfl) ?_
  refine W.objInit hx hb hC.2.2.2.1 (hC.2.2.2.2.1 _ kw_193) (hC.2.2.2.2.1 _ kw_28) (hC.2.2.2.2.1 _ kw_29) rfl (hl.1.trans hC.2.2.1.symm) rfl dX5_init_1 (Nat.le_of_ble_eq_true rfl) (Nat.le_of_ble_eq_true rfl) ?_
  refine W.eq (g2 := F0 m 4 ls []) rfl ?_
  refine lv_aload_n hx hb dX5_init_4 rfl (lv_at hl 0 rfl) ?_
  refine lv_sipush (v := 401) hx hb dX5_init_5 (by decide) ?_
  refine tc_newa (ty := .int) (t := 0) hC hB.1 rfl rfl rfl kw_104 (N := 401) tk_401 (by decide) (Nat.le_of_ble_eq_true rfl) (Nat.le_of_ble_eq_true rfl) dX5_init_8 (fun b8 H8 eb8 zb8 oq8 hB1 k8 => ?_)
  have u8 := k8.2.1
  have n80 : ¬ th_MR G Γ H0 b8 := fun w => absurd (th_MR_lt hB.2.1 w) (by omega)
  have hB := th_NR_s hB hB1 u8 n80 (by omega) oq8
  have n8 : ¬ th_MR G Γ H8 b8 := fun w => n80 (th_MR_s u8 oq8 w)
  have lb8 : H0.size ≤ b8 := by omega
  have ho := tc_OBo ho oq8 (by omega)
  have hs : H0.size ≤ H8.size := by omega
  have lt_b8 : b8 < H8.size := by omega
  refine tc_putF hC cf_X5 hB.1 ho (j := 0) (by decide) rfl hnm rfl rfl kf_X5_11 dX5_init_10 (fun H10 locs hB1 ho z10 oq10 => ?_)
  have hu := hB.1.2.2.2.2.1
  have hB := th_NR_s hB hB1 hu hB.2.2.1 (by omega) oq10
  have k8x := tm_MAo k8 oq10 (by have q9 := lb8; omega)
  have n8x : ¬ th_MR G Γ H10 b8 := fun w => n8 (th_MR_s hu oq10 w)
  have hs : H0.size ≤ H10.size := by omega
  have lt_b8 : b8 < H10.size := by omega
  refine lv_aload_n hx hb dX5_init_13 rfl (lv_at hl 0 rfl) ?_
  refine lv_sipush (v := 401) hx hb dX5_init_14 (by decide) ?_
  refine tc_newa (ty := .int) (t := 0) hC hB.1 rfl rfl rfl kw_104 (N := 401) tk_401 (by decide) (Nat.le_of_ble_eq_true rfl) (Nat.le_of_ble_eq_true rfl) dX5_init_17 (fun b17 H17 eb17 zb17 oq17 hB1 k17 => ?_)
  have u17 := k17.2.1
  have n170 : ¬ th_MR G Γ H10 b17 := fun w => absurd (th_MR_lt hB.2.1 w) (by omega)
  have hB := th_NR_s hB hB1 u17 n170 (by omega) oq17
  have n17 : ¬ th_MR G Γ H17 b17 := fun w => n170 (th_MR_s u17 oq17 w)
  have lb17 : H0.size ≤ b17 := by omega
  have ho := tc_OBo ho oq17 (by omega)
  have k8xx := tm_MAo k8x oq17 (by have q9 := tm_lt k8x; omega)
  have n8xx : ¬ th_MR G Γ H17 b8 := fun w => n8x (th_MR_s u17 oq17 w)
  have hs : H0.size ≤ H17.size := by omega
  have dd_b17_b8 : b8 ≠ b17 := by have q9 := lt_b8; omega
  have lt_b17 : b17 < H17.size := by omega
  have lt_b8 : b8 < H17.size := by omega
  refine tc_putF hC cf_X5 hB.1 ho (j := 1) (by decide) rfl hnm rfl rfl kf_X5_15 dX5_init_19 (fun H19 locs hB1 ho z19 oq19 => ?_)
  have hu := hB.1.2.2.2.2.1
  have hB := th_NR_s hB hB1 hu hB.2.2.1 (by omega) oq19
  have k8xxx := tm_MAo k8xx oq19 (by have q9 := lb8; omega)
  have n8xxx : ¬ th_MR G Γ H19 b8 := fun w => n8xx (th_MR_s hu oq19 w)
  have k17x := tm_MAo k17 oq19 (by have q9 := lb17; omega)
  have n17x : ¬ th_MR G Γ H19 b17 := fun w => n17 (th_MR_s hu oq19 w)
  have hs : H0.size ≤ H19.size := by omega
  have lt_b8 : b8 < H19.size := by omega
  have lt_b17 : b17 < H19.size := by omega
  have hI1 := hB.1.1
  have hR1 := hB.2.1
  have hI2 := th_nmA (r := 21) (o := a0) hI1 k8xxx ro_21 (Nat.le_refl _) (Nat.le_refl _) (fun i _ => th_sI (x := 0) (by decide) (by decide))
  have hR1 := th_RC_up hI1 hR1 (x := (21, a0)) k8xxx.2.1 n8xxx hI2 (fun e => absurd (show (21 : Nat) = 3 from e) (by decide)) (fun e => absurd (show (21 : Nat) = 18 ∨ (21 : Nat) = 19 from e) (by decide)) (show (21 : Nat) ≠ 12 by decide)
  have hI1 := hI2
  have ho := th_OB_up (b := b8) (x := (21, a0)) ho (by have q9 := lb8; omega)
  have k17xu := th_MA_up (b := b8) (x := (21, a0)) k17x (fun e => dd_b17_b8 e.symm)
  have n17xu : ¬ th_MR G (th_up Γ b8 (21, a0)) H19 b17 := fun w => n17x (th_MR_up (show (21 : Nat) ≠ 12 by decide) w)
  have hI2 := th_nmA (r := 22) (o := a0) hI1 k17xu ro_22 (Nat.le_refl _) (Nat.le_refl _) (fun i _ => th_sI (x := 0) (by decide) (by decide))
  have hR1 := th_RC_up hI1 hR1 (x := (22, a0)) k17xu.2.1 n17xu hI2 (fun e => absurd (show (22 : Nat) = 3 from e) (by decide)) (fun e => absurd (show (22 : Nat) = 18 ∨ (22 : Nat) = 19 from e) (by decide)) (show (22 : Nat) ≠ 12 by decide)
  have hI1 := hI2
  have ho := th_OB_up (b := b17) (x := (22, a0)) ho (by have q9 := lb17; omega)
  have g_b8 : (th_up (th_up Γ b8 (21, a0)) b17 (22, a0)) b8 = (21, a0) := (th_up_n (dd_b17_b8)).trans (th_up_s)
  have g_b17 : (th_up (th_up Γ b8 (21, a0)) b17 (22, a0)) b17 = (22, a0) := th_up_s
  have nm0 : ¬ th_MR G (th_up (th_up Γ b8 (21, a0)) b17 (22, a0)) H19 a0 := fun w => hB.2.2.1 (th_MR_up (show (21 : Nat) ≠ 12 by decide) (th_MR_up (show (22 : Nat) ≠ 12 by decide) w))
  have hI2 := th_nmO (r := 20) hI1 ho hsz ro_20 rfl (fun j q hq => by
    match j, hq with
    | 0, hq => have e9 := Option.some.inj hq; subst e9; exact th_sO g_b8
    | 1, hq => have e9 := Option.some.inj hq; subst e9; exact th_sO g_b17
    | 2, hq => have e9 := Option.some.inj hq; subst e9; exact th_sN
    | 3, hq => have e9 := Option.some.inj hq; subst e9; exact th_sN
    | 4, hq => have e9 := Option.some.inj hq; subst e9; exact th_sI (x := 0) (by decide) (by decide)
    | 5, hq => have e9 := Option.some.inj hq; subst e9; exact th_sI (x := 0) (by decide) (by decide)
    | 6, hq => have e9 := Option.some.inj hq; subst e9; exact th_sI (x := 0) (by decide) (by decide)
    | 7, hq => have e9 := Option.some.inj hq; subst e9; exact th_sI (x := 0) (by decide) (by decide)
    | 8, hq => have e9 := Option.some.inj hq; subst e9; exact th_sI (x := 0) (by decide) (by decide)
    | n + 9, hq => exact absurd (List.getElem?_eq_some_iff.mp hq).1 (by simp))
  have hR2 := th_RC_up hI1 hR1 (x := (20, 0)) ho.1 nm0 hI2 (fun e => absurd e (by decide)) (fun e => absurd e (by decide)) (by decide)
  have gq : ∀ q, q < H0.size → q ≠ a0 → (th_up (th_up (th_up Γ b8 (21, a0)) b17 (22, a0)) a0 (20, 0)) q = Γ q := fun q h1 h2 => (((th_up_n h2).trans (th_up_n (by have q9 := lb17; omega))).trans (th_up_n (by have q9 := lb8; omega)))
  refine th_vret hC hH hr hlocks hB.1.2.1 ⟨rfl, (th_up (th_up (th_up Γ b8 (21, a0)) b17 (22, a0)) a0 (20, 0)), ⟨hI2, hs, fun q h1 h2 => ⟨(gq q h1 h2).trans (hB.1.2.2.2.1 q h1 h2), hB.1.2.2.1 q h1 h2⟩⟩, hR2, th_up_s, fun q w => hB.2.2.2 q (th_MR_up (show (21 : Nat) ≠ 12 by decide) (th_MR_up (show (22 : Nat) ≠ 12 by decide) (th_MR_up (show (20 : Nat) ≠ 12 by decide) w))), fun q x o hg hq hs => ?_⟩ dX5_init_22
  by_cases e_a0 : q = a0
  · rw [e_a0, th_up_s] at hg; cases hg; decide
  rw [th_up_n e_a0] at hg
  by_cases e_b17 : q = b17
  · rw [e_b17, th_up_s] at hg; cases hg; decide
  rw [th_up_n e_b17] at hg
  by_cases e_b8 : q = b8
  · rw [e_b8, th_up_s] at hg; cases hg; decide
  rw [th_up_n e_b8] at hg
  exact absurd hs (by rcases hq with w | w; exact absurd w e_a0; have q9 : th_ro (Γ q).1 = none := tc_un hI w; rw [hg] at q9; rw [q9]; decide)

set_option maxHeartbeats 4000000 in
set_option maxRecDepth 100000 in
theorem c_X6_init (l : Launch) (G : th_G) (Γ : th_Ga) (H0 : Heap) (hI : th_I G Γ H0) (hR : th_RC G Γ H0) (a0 : Nat) (ho : th_OB G Γ H0 a0 6 4 (fun j => defaultValue (tyX6 j))) (hsz : G.2.2 ≤ a0) (hlt : a0 < H0.size) (hm : ¬ th_MR G Γ H0 a0) : Met l yX6_init (.code yX6_init cX6_init 1 (none) :: th_tb) ({ frames := 1, cells := 3, slots := 90, locals := 12 } : Room) (th_P [.ref a0] G H0) (th_Q (fun (v : Option Value) (H1 : Heap) => v = none ∧ ∃ Γ1 : th_Ga, th_NY G Γ Γ1 a0 23 [23, 24, 25, 26] H0 H1) G) 3 90 (fun q => G.2.2 ≤ q) := by
  refine th_met RX6 (by decide) rfl (Nat.le_of_ble_eq_true rfl) ?_
  intro p e s m below meth c hC hH hr hlocks hnm ls hl
  have hx := hC.1
  have hb := hC.2.1
  have hB : th_NR G Γ Γ a0 H0 H0 [] := ⟨⟨hI, va_S.rf, fun _ _ _ => rfl, fun _ _ _ => rfl, ho.1, hsz, hlt⟩, hR, hm, fun q w => Or.inl w⟩
  have hl : lv_has ls 1 [(0, .ref a0)] := hl
  have hs : H0.size ≤ H0.size := Nat.le_refl _
  refine lv_aload_n hx hb dX6_init_0 rfl (lv_at hl 0 rfl) ?_
  refine W.objInit hx hb hC.2.2.2.1 (hC.2.2.2.2.1 _ kw_229) (hC.2.2.2.2.1 _ kw_28) (hC.2.2.2.2.1 _ kw_29) rfl (hl.1.trans hC.2.2.1.symm) rfl dX6_init_1 (Nat.le_of_ble_eq_true rfl) (Nat.le_of_ble_eq_true rfl) ?_
  refine W.eq (g2 := F0 m 4 ls []) rfl ?_
  refine lv_aload_n hx hb dX6_init_4 rfl (lv_at hl 0 rfl) ?_
  refine lv_bipush (v := 64) hx hb dX6_init_5 (by decide) ?_
  refine tc_newa (ty := .long) (t := 1) hC hB.1 rfl rfl rfl kw_246 (N := 64) tk_64 (by decide) (Nat.le_of_ble_eq_true rfl) (Nat.le_of_ble_eq_true rfl) dX6_init_7 (fun b7 H7 eb7 zb7 oq7 hB1 k7 => ?_)
  have u7 := k7.2.1
  have n70 : ¬ th_MR G Γ H0 b7 := fun w => absurd (th_MR_lt hB.2.1 w) (by omega)
  have hB := th_NR_s hB hB1 u7 n70 (by omega) oq7
  have n7 : ¬ th_MR G Γ H7 b7 := fun w => n70 (th_MR_s u7 oq7 w)
  have lb7 : H0.size ≤ b7 := by omega
  have ho := tc_OBo ho oq7 (by omega)
  have hs : H0.size ≤ H7.size := by omega
  have lt_b7 : b7 < H7.size := by omega
  refine tc_putF hC cf_X6 hB.1 ho (j := 0) (by decide) rfl hnm rfl rfl kf_X6_9 dX6_init_9 (fun H9 locs hB1 ho z9 oq9 => ?_)
  have hu := hB.1.2.2.2.2.1
  have hB := th_NR_s hB hB1 hu hB.2.2.1 (by omega) oq9
  have k7x := tm_MAo k7 oq9 (by have q9 := lb7; omega)
  have n7x : ¬ th_MR G Γ H9 b7 := fun w => n7 (th_MR_s hu oq9 w)
  have hs : H0.size ≤ H9.size := by omega
  have lt_b7 : b7 < H9.size := by omega
  refine lv_aload_n hx hb dX6_init_12 rfl (lv_at hl 0 rfl) ?_
  refine lv_bipush (v := 23) hx hb dX6_init_13 (by decide) ?_
  refine tc_newa (ty := .int) (t := 0) hC hB.1 rfl rfl rfl kw_104 (N := 23) tk_23 (by decide) (Nat.le_of_ble_eq_true rfl) (Nat.le_of_ble_eq_true rfl) dX6_init_15 (fun b15 H15 eb15 zb15 oq15 hB1 k15 => ?_)
  have u15 := k15.2.1
  have n150 : ¬ th_MR G Γ H9 b15 := fun w => absurd (th_MR_lt hB.2.1 w) (by omega)
  have hB := th_NR_s hB hB1 u15 n150 (by omega) oq15
  have n15 : ¬ th_MR G Γ H15 b15 := fun w => n150 (th_MR_s u15 oq15 w)
  have lb15 : H0.size ≤ b15 := by omega
  have ho := tc_OBo ho oq15 (by omega)
  have k7xx := tm_MAo k7x oq15 (by have q9 := tm_lt k7x; omega)
  have n7xx : ¬ th_MR G Γ H15 b7 := fun w => n7x (th_MR_s u15 oq15 w)
  have hs : H0.size ≤ H15.size := by omega
  have dd_b15_b7 : b7 ≠ b15 := by have q9 := lt_b7; omega
  have lt_b15 : b15 < H15.size := by omega
  have lt_b7 : b7 < H15.size := by omega
  refine tc_putF hC cf_X6 hB.1 ho (j := 1) (by decide) rfl hnm rfl rfl kf_X6_17 dX6_init_17 (fun H17 locs hB1 ho z17 oq17 => ?_)
  have hu := hB.1.2.2.2.2.1
  have hB := th_NR_s hB hB1 hu hB.2.2.1 (by omega) oq17
  have k7xxx := tm_MAo k7xx oq17 (by have q9 := lb7; omega)
  have n7xxx : ¬ th_MR G Γ H17 b7 := fun w => n7xx (th_MR_s hu oq17 w)
  have k15x := tm_MAo k15 oq17 (by have q9 := lb15; omega)
  have n15x : ¬ th_MR G Γ H17 b15 := fun w => n15 (th_MR_s hu oq17 w)
  have hs : H0.size ≤ H17.size := by omega
  have lt_b7 : b7 < H17.size := by omega
  have lt_b15 : b15 < H17.size := by omega
  refine lv_aload_n hx hb dX6_init_20 rfl (lv_at hl 0 rfl) ?_
  refine lv_iconst (v := 3) hx hb dX6_init_21 (by decide) ?_
  refine tc_newa (ty := .int) (t := 0) hC hB.1 rfl rfl rfl kw_104 (N := 3) tk_3 (by decide) (Nat.le_of_ble_eq_true rfl) (Nat.le_of_ble_eq_true rfl) dX6_init_22 (fun b22 H22 eb22 zb22 oq22 hB1 k22 => ?_)
  have u22 := k22.2.1
  have n220 : ¬ th_MR G Γ H17 b22 := fun w => absurd (th_MR_lt hB.2.1 w) (by omega)
  have hB := th_NR_s hB hB1 u22 n220 (by omega) oq22
  have n22 : ¬ th_MR G Γ H22 b22 := fun w => n220 (th_MR_s u22 oq22 w)
  have lb22 : H0.size ≤ b22 := by omega
  have ho := tc_OBo ho oq22 (by omega)
  have k7xxxx := tm_MAo k7xxx oq22 (by have q9 := tm_lt k7xxx; omega)
  have n7xxxx : ¬ th_MR G Γ H22 b7 := fun w => n7xxx (th_MR_s u22 oq22 w)
  have k15xx := tm_MAo k15x oq22 (by have q9 := tm_lt k15x; omega)
  have n15xx : ¬ th_MR G Γ H22 b15 := fun w => n15x (th_MR_s u22 oq22 w)
  have hs : H0.size ≤ H22.size := by omega
  have dd_b22_b7 : b7 ≠ b22 := by have q9 := lt_b7; omega
  have dd_b22_b15 : b15 ≠ b22 := by have q9 := lt_b15; omega
  have lt_b22 : b22 < H22.size := by omega
  have lt_b7 : b7 < H22.size := by omega
  have lt_b15 : b15 < H22.size := by omega
  refine tc_putF hC cf_X6 hB.1 ho (j := 2) (by decide) rfl hnm rfl rfl kf_X6_23 dX6_init_24 (fun H24 locs hB1 ho z24 oq24 => ?_)
  have hu := hB.1.2.2.2.2.1
  have hB := th_NR_s hB hB1 hu hB.2.2.1 (by omega) oq24
  have k7xxxxx := tm_MAo k7xxxx oq24 (by have q9 := lb7; omega)
  have n7xxxxx : ¬ th_MR G Γ H24 b7 := fun w => n7xxxx (th_MR_s hu oq24 w)
  have k15xxx := tm_MAo k15xx oq24 (by have q9 := lb15; omega)
  have n15xxx : ¬ th_MR G Γ H24 b15 := fun w => n15xx (th_MR_s hu oq24 w)
  have k22x := tm_MAo k22 oq24 (by have q9 := lb22; omega)
  have n22x : ¬ th_MR G Γ H24 b22 := fun w => n22 (th_MR_s hu oq24 w)
  have hs : H0.size ≤ H24.size := by omega
  have lt_b7 : b7 < H24.size := by omega
  have lt_b15 : b15 < H24.size := by omega
  have lt_b22 : b22 < H24.size := by omega
  refine lv_aload_n hx hb dX6_init_27 rfl (lv_at hl 0 rfl) ?_
  refine lv_iconst (v := 0) hx hb dX6_init_28 (by decide) ?_
  refine tc_put hC cf_X6 hB.1 ho (j := 3) (by decide) rfl narrow_b0 rfl kf_X6_26 dX6_init_29 (fun H29 locs hB1 ho z29 oq29 => ?_)
  have hu := hB.1.2.2.2.2.1
  have hB := th_NR_s hB hB1 hu hB.2.2.1 (by omega) oq29
  have k7xxxxxx := tm_MAo k7xxxxx oq29 (by have q9 := lb7; omega)
  have n7xxxxxx : ¬ th_MR G Γ H29 b7 := fun w => n7xxxxx (th_MR_s hu oq29 w)
  have k15xxxx := tm_MAo k15xxx oq29 (by have q9 := lb15; omega)
  have n15xxxx : ¬ th_MR G Γ H29 b15 := fun w => n15xxx (th_MR_s hu oq29 w)
  have k22xx := tm_MAo k22x oq29 (by have q9 := lb22; omega)
  have n22xx : ¬ th_MR G Γ H29 b22 := fun w => n22x (th_MR_s hu oq29 w)
  have hs : H0.size ≤ H29.size := by omega
  have lt_b7 : b7 < H29.size := by omega
  have lt_b15 : b15 < H29.size := by omega
  have lt_b22 : b22 < H29.size := by omega
  have hI1 := hB.1.1
  have hR1 := hB.2.1
  have hI2 := th_nmA (r := 24) (o := a0) hI1 k7xxxxxx ro_24 (Nat.le_refl _) (Nat.le_refl _) (fun i _ => th_sLa (x := 0))
  have hR1 := th_RC_up hI1 hR1 (x := (24, a0)) k7xxxxxx.2.1 n7xxxxxx hI2 (fun e => absurd (show (24 : Nat) = 3 from e) (by decide)) (fun e => absurd (show (24 : Nat) = 18 ∨ (24 : Nat) = 19 from e) (by decide)) (show (24 : Nat) ≠ 12 by decide)
  have hI1 := hI2
  have ho := th_OB_up (b := b7) (x := (24, a0)) ho (by have q9 := lb7; omega)
  have k15xxxxu := th_MA_up (b := b7) (x := (24, a0)) k15xxxx (fun e => dd_b15_b7 e.symm)
  have n15xxxxu : ¬ th_MR G (th_up Γ b7 (24, a0)) H29 b15 := fun w => n15xxxx (th_MR_up (show (24 : Nat) ≠ 12 by decide) w)
  have k22xxu := th_MA_up (b := b7) (x := (24, a0)) k22xx (fun e => dd_b22_b7 e.symm)
  have n22xxu : ¬ th_MR G (th_up Γ b7 (24, a0)) H29 b22 := fun w => n22xx (th_MR_up (show (24 : Nat) ≠ 12 by decide) w)
  have hI2 := th_nmA (r := 25) (o := a0) hI1 k15xxxxu ro_25 (Nat.le_refl _) (Nat.le_refl _) (fun i _ => th_sI (x := 0) (by decide) (by decide))
  have hR1 := th_RC_up hI1 hR1 (x := (25, a0)) k15xxxxu.2.1 n15xxxxu hI2 (fun e => absurd (show (25 : Nat) = 3 from e) (by decide)) (fun e => absurd (show (25 : Nat) = 18 ∨ (25 : Nat) = 19 from e) (by decide)) (show (25 : Nat) ≠ 12 by decide)
  have hI1 := hI2
  have ho := th_OB_up (b := b15) (x := (25, a0)) ho (by have q9 := lb15; omega)
  have k22xxuu := th_MA_up (b := b15) (x := (25, a0)) k22xxu (fun e => dd_b22_b15 e.symm)
  have n22xxuu : ¬ th_MR G (th_up (th_up Γ b7 (24, a0)) b15 (25, a0)) H29 b22 := fun w => n22xxu (th_MR_up (show (25 : Nat) ≠ 12 by decide) w)
  have hI2 := th_nmA (r := 26) (o := a0) hI1 k22xxuu ro_26 (Nat.le_refl _) (Nat.le_refl _) (fun i _ => th_sI (x := 0) (by decide) (by decide))
  have hR1 := th_RC_up hI1 hR1 (x := (26, a0)) k22xxuu.2.1 n22xxuu hI2 (fun e => absurd (show (26 : Nat) = 3 from e) (by decide)) (fun e => absurd (show (26 : Nat) = 18 ∨ (26 : Nat) = 19 from e) (by decide)) (show (26 : Nat) ≠ 12 by decide)
  have hI1 := hI2
  have ho := th_OB_up (b := b22) (x := (26, a0)) ho (by have q9 := lb22; omega)
  have g_b7 : (th_up (th_up (th_up Γ b7 (24, a0)) b15 (25, a0)) b22 (26, a0)) b7 = (24, a0) := (th_up_n (dd_b22_b7)).trans ((th_up_n (dd_b15_b7)).trans (th_up_s))
  have g_b15 : (th_up (th_up (th_up Γ b7 (24, a0)) b15 (25, a0)) b22 (26, a0)) b15 = (25, a0) := (th_up_n (dd_b22_b15)).trans (th_up_s)
  have g_b22 : (th_up (th_up (th_up Γ b7 (24, a0)) b15 (25, a0)) b22 (26, a0)) b22 = (26, a0) := th_up_s
  have nm0 : ¬ th_MR G (th_up (th_up (th_up Γ b7 (24, a0)) b15 (25, a0)) b22 (26, a0)) H29 a0 := fun w => hB.2.2.1 (th_MR_up (show (24 : Nat) ≠ 12 by decide) (th_MR_up (show (25 : Nat) ≠ 12 by decide) (th_MR_up (show (26 : Nat) ≠ 12 by decide) w)))
  have hI2 := th_nmO (r := 23) hI1 ho hsz ro_23 rfl (fun j q hq => by
    match j, hq with
    | 0, hq => have e9 := Option.some.inj hq; subst e9; exact th_sO g_b7
    | 1, hq => have e9 := Option.some.inj hq; subst e9; exact th_sO g_b15
    | 2, hq => have e9 := Option.some.inj hq; subst e9; exact th_sO g_b22
    | 3, hq => have e9 := Option.some.inj hq; subst e9; exact th_sI (x := 0) (by decide) (by decide)
    | n + 4, hq => exact absurd (List.getElem?_eq_some_iff.mp hq).1 (by simp))
  have hR2 := th_RC_up hI1 hR1 (x := (23, 0)) ho.1 nm0 hI2 (fun e => absurd e (by decide)) (fun e => absurd e (by decide)) (by decide)
  have gq : ∀ q, q < H0.size → q ≠ a0 → (th_up (th_up (th_up (th_up Γ b7 (24, a0)) b15 (25, a0)) b22 (26, a0)) a0 (23, 0)) q = Γ q := fun q h1 h2 => ((((th_up_n h2).trans (th_up_n (by have q9 := lb22; omega))).trans (th_up_n (by have q9 := lb15; omega))).trans (th_up_n (by have q9 := lb7; omega)))
  refine th_vret hC hH hr hlocks hB.1.2.1 ⟨rfl, (th_up (th_up (th_up (th_up Γ b7 (24, a0)) b15 (25, a0)) b22 (26, a0)) a0 (23, 0)), ⟨hI2, hs, fun q h1 h2 => ⟨(gq q h1 h2).trans (hB.1.2.2.2.1 q h1 h2), hB.1.2.2.1 q h1 h2⟩⟩, hR2, th_up_s, fun q w => hB.2.2.2 q (th_MR_up (show (24 : Nat) ≠ 12 by decide) (th_MR_up (show (25 : Nat) ≠ 12 by decide) (th_MR_up (show (26 : Nat) ≠ 12 by decide) (th_MR_up (show (23 : Nat) ≠ 12 by decide) w)))), fun q x o hg hq hs => ?_⟩ dX6_init_32
  by_cases e_a0 : q = a0
  · rw [e_a0, th_up_s] at hg; cases hg; decide
  rw [th_up_n e_a0] at hg
  by_cases e_b22 : q = b22
  · rw [e_b22, th_up_s] at hg; cases hg; decide
  rw [th_up_n e_b22] at hg
  by_cases e_b15 : q = b15
  · rw [e_b15, th_up_s] at hg; cases hg; decide
  rw [th_up_n e_b15] at hg
  by_cases e_b7 : q = b7
  · rw [e_b7, th_up_s] at hg; cases hg; decide
  rw [th_up_n e_b7] at hg
  exact absurd hs (by rcases hq with w | w; exact absurd w e_a0; have q9 : th_ro (Γ q).1 = none := tc_un hI w; rw [hg] at q9; rw [q9]; decide)

set_option maxHeartbeats 4000000 in
set_option maxRecDepth 100000 in
theorem c_X9_init (l : Launch) (G : th_G) (Γ : th_Ga) (H0 : Heap) (hI : th_I G Γ H0) (hR : th_RC G Γ H0) (a0 : Nat) (ho : th_OB G Γ H0 a0 9 2 (fun j => defaultValue (tyX9 j))) (hsz : G.2.2 ≤ a0) (hlt : a0 < H0.size) (hm : ¬ th_MR G Γ H0 a0) : Met l yX9_init (.code yX9_init cX9_init 1 (none) :: th_tb) ({ frames := 1, cells := 1, slots := 400, locals := 12 } : Room) (th_P [.ref a0] G H0) (th_Q (fun (v : Option Value) (H1 : Heap) => v = none ∧ ∃ Γ1 : th_Ga, th_NY G Γ Γ1 a0 37 [37, 38] H0 H1) G) 1 400 (fun q => G.2.2 ≤ q) := by
  refine th_met RX9 (by decide) rfl (Nat.le_of_ble_eq_true rfl) ?_
  intro p e s m below meth c hC hH hr hlocks hnm ls hl
  have hx := hC.1
  have hb := hC.2.1
  have hB : th_NR G Γ Γ a0 H0 H0 [] := ⟨⟨hI, va_S.rf, fun _ _ _ => rfl, fun _ _ _ => rfl, ho.1, hsz, hlt⟩, hR, hm, fun q w => Or.inl w⟩
  have hl : lv_has ls 1 [(0, .ref a0)] := hl
  have hs : H0.size ≤ H0.size := Nat.le_refl _
  refine lv_aload_n hx hb dX9_init_0 rfl (lv_at hl 0 rfl) ?_
  refine W.objInit hx hb hC.2.2.2.1 (hC.2.2.2.2.1 _ kw_175) (hC.2.2.2.2.1 _ kw_28) (hC.2.2.2.2.1 _ kw_29) rfl (hl.1.trans hC.2.2.1.symm) rfl dX9_init_1 (Nat.le_of_ble_eq_true rfl) (Nat.le_of_ble_eq_true rfl) ?_
  refine W.eq (g2 := F0 m 4 ls []) rfl ?_
  refine lv_aload_n hx hb dX9_init_4 rfl (lv_at hl 0 rfl) ?_
  refine lv_sipush (v := 400) hx hb dX9_init_5 (by decide) ?_
  refine tc_newa (ty := .int) (t := 0) hC hB.1 rfl rfl rfl kw_104 (N := 400) tk_400 (by decide) (Nat.le_of_ble_eq_true rfl) (Nat.le_of_ble_eq_true rfl) dX9_init_8 (fun b8 H8 eb8 zb8 oq8 hB1 k8 => ?_)
  have u8 := k8.2.1
  have n80 : ¬ th_MR G Γ H0 b8 := fun w => absurd (th_MR_lt hB.2.1 w) (by omega)
  have hB := th_NR_s hB hB1 u8 n80 (by omega) oq8
  have n8 : ¬ th_MR G Γ H8 b8 := fun w => n80 (th_MR_s u8 oq8 w)
  have lb8 : H0.size ≤ b8 := by omega
  have ho := tc_OBo ho oq8 (by omega)
  have hs : H0.size ≤ H8.size := by omega
  have lt_b8 : b8 < H8.size := by omega
  refine tc_putF hC cf_X9 hB.1 ho (j := 0) (by decide) rfl hnm rfl rfl kf_X9_9 dX9_init_10 (fun H10 locs hB1 ho z10 oq10 => ?_)
  have hu := hB.1.2.2.2.2.1
  have hB := th_NR_s hB hB1 hu hB.2.2.1 (by omega) oq10
  have k8x := tm_MAo k8 oq10 (by have q9 := lb8; omega)
  have n8x : ¬ th_MR G Γ H10 b8 := fun w => n8 (th_MR_s hu oq10 w)
  have hs : H0.size ≤ H10.size := by omega
  have lt_b8 : b8 < H10.size := by omega
  refine lv_aload_n hx hb dX9_init_13 rfl (lv_at hl 0 rfl) ?_
  refine lv_iconst (v := 0) hx hb dX9_init_14 (by decide) ?_
  refine tc_put hC cf_X9 hB.1 ho (j := 1) (by decide) rfl rfl rfl kf_X9_15 dX9_init_15 (fun H15 locs hB1 ho z15 oq15 => ?_)
  have hu := hB.1.2.2.2.2.1
  have hB := th_NR_s hB hB1 hu hB.2.2.1 (by omega) oq15
  have k8xx := tm_MAo k8x oq15 (by have q9 := lb8; omega)
  have n8xx : ¬ th_MR G Γ H15 b8 := fun w => n8x (th_MR_s hu oq15 w)
  have hs : H0.size ≤ H15.size := by omega
  have lt_b8 : b8 < H15.size := by omega
  have hI1 := hB.1.1
  have hR1 := hB.2.1
  have hI2 := th_nmA (r := 38) (o := a0) hI1 k8xx ro_38 (Nat.le_refl _) (Nat.le_refl _) (fun i _ => th_sI (x := 0) (by decide) (by decide))
  have hR1 := th_RC_up hI1 hR1 (x := (38, a0)) k8xx.2.1 n8xx hI2 (fun e => absurd (show (38 : Nat) = 3 from e) (by decide)) (fun e => absurd (show (38 : Nat) = 18 ∨ (38 : Nat) = 19 from e) (by decide)) (show (38 : Nat) ≠ 12 by decide)
  have hI1 := hI2
  have ho := th_OB_up (b := b8) (x := (38, a0)) ho (by have q9 := lb8; omega)
  have g_b8 : (th_up Γ b8 (38, a0)) b8 = (38, a0) := th_up_s
  have nm0 : ¬ th_MR G (th_up Γ b8 (38, a0)) H15 a0 := fun w => hB.2.2.1 (th_MR_up (show (38 : Nat) ≠ 12 by decide) w)
  have hI2 := th_nmO (r := 37) hI1 ho hsz ro_37 rfl (fun j q hq => by
    match j, hq with
    | 0, hq => have e9 := Option.some.inj hq; subst e9; exact th_sO g_b8
    | 1, hq => have e9 := Option.some.inj hq; subst e9; exact th_sI (x := 0) (by decide) (by decide)
    | n + 2, hq => exact absurd (List.getElem?_eq_some_iff.mp hq).1 (by simp))
  have hR2 := th_RC_up hI1 hR1 (x := (37, 0)) ho.1 nm0 hI2 (fun e => absurd e (by decide)) (fun e => absurd e (by decide)) (by decide)
  have gq : ∀ q, q < H0.size → q ≠ a0 → (th_up (th_up Γ b8 (38, a0)) a0 (37, 0)) q = Γ q := fun q h1 h2 => ((th_up_n h2).trans (th_up_n (by have q9 := lb8; omega)))
  refine th_vret hC hH hr hlocks hB.1.2.1 ⟨rfl, (th_up (th_up Γ b8 (38, a0)) a0 (37, 0)), ⟨hI2, hs, fun q h1 h2 => ⟨(gq q h1 h2).trans (hB.1.2.2.2.1 q h1 h2), hB.1.2.2.1 q h1 h2⟩⟩, hR2, th_up_s, fun q w => hB.2.2.2 q (th_MR_up (show (38 : Nat) ≠ 12 by decide) (th_MR_up (show (37 : Nat) ≠ 12 by decide) w)), fun q x o hg hq hs => ?_⟩ dX9_init_18
  by_cases e_a0 : q = a0
  · rw [e_a0, th_up_s] at hg; cases hg; decide
  rw [th_up_n e_a0] at hg
  by_cases e_b8 : q = b8
  · rw [e_b8, th_up_s] at hg; cases hg; decide
  rw [th_up_n e_b8] at hg
  exact absurd hs (by rcases hq with w | w; exact absurd w e_a0; have q9 : th_ro (Γ q).1 = none := tc_un hI w; rw [hg] at q9; rw [q9]; decide)

set_option maxHeartbeats 4000000 in
set_option maxRecDepth 100000 in
theorem c_X10_init (l : Launch) (G : th_G) (Γ : th_Ga) (H0 : Heap) (hI : th_I G Γ H0) (hR : th_RC G Γ H0) (a0 : Nat) (ho : th_OB G Γ H0 a0 10 4 (fun j => defaultValue (tyX10 j))) (hsz : G.2.2 ≤ a0) (hlt : a0 < H0.size) (hm : ¬ th_MR G Γ H0 a0) : Met l yX10_init (.code yX10_init cX10_init 1 (none) :: th_tb) ({ frames := 1, cells := 2, slots := 496, locals := 12 } : Room) (th_P [.ref a0] G H0) (th_Q (fun (v : Option Value) (H1 : Heap) => v = none ∧ ∃ Γ1 : th_Ga, th_NY G Γ Γ1 a0 39 [39, 40, 41] H0 H1) G) 2 496 (fun q => G.2.2 ≤ q) := by
  refine th_met RX10 (by decide) rfl (Nat.le_of_ble_eq_true rfl) ?_
  intro p e s m below meth c hC hH hr hlocks hnm ls hl
  have hx := hC.1
  have hb := hC.2.1
  have hB : th_NR G Γ Γ a0 H0 H0 [] := ⟨⟨hI, va_S.rf, fun _ _ _ => rfl, fun _ _ _ => rfl, ho.1, hsz, hlt⟩, hR, hm, fun q w => Or.inl w⟩
  have hl : lv_has ls 1 [(0, .ref a0)] := hl
  have hs : H0.size ≤ H0.size := Nat.le_refl _
  refine lv_aload_n hx hb dX10_init_0 rfl (lv_at hl 0 rfl) ?_
  refine W.objInit hx hb hC.2.2.2.1 (hC.2.2.2.2.1 _ kw_111) (hC.2.2.2.2.1 _ kw_28) (hC.2.2.2.2.1 _ kw_29) rfl (hl.1.trans hC.2.2.1.symm) rfl dX10_init_1 (Nat.le_of_ble_eq_true rfl) (Nat.le_of_ble_eq_true rfl) ?_
  refine W.eq (g2 := F0 m 4 ls []) rfl ?_
  refine lv_aload_n hx hb dX10_init_4 rfl (lv_at hl 0 rfl) ?_
  refine lv_sipush (v := 400) hx hb dX10_init_5 (by decide) ?_
  refine tc_newa (ty := .int) (t := 0) hC hB.1 rfl rfl rfl kw_104 (N := 400) tk_400 (by decide) (Nat.le_of_ble_eq_true rfl) (Nat.le_of_ble_eq_true rfl) dX10_init_8 (fun b8 H8 eb8 zb8 oq8 hB1 k8 => ?_)
  have u8 := k8.2.1
  have n80 : ¬ th_MR G Γ H0 b8 := fun w => absurd (th_MR_lt hB.2.1 w) (by omega)
  have hB := th_NR_s hB hB1 u8 n80 (by omega) oq8
  have n8 : ¬ th_MR G Γ H8 b8 := fun w => n80 (th_MR_s u8 oq8 w)
  have lb8 : H0.size ≤ b8 := by omega
  have ho := tc_OBo ho oq8 (by omega)
  have hs : H0.size ≤ H8.size := by omega
  have lt_b8 : b8 < H8.size := by omega
  refine tc_putF hC cf_X10 hB.1 ho (j := 0) (by decide) rfl hnm rfl rfl kf_X10_11 dX10_init_10 (fun H10 locs hB1 ho z10 oq10 => ?_)
  have hu := hB.1.2.2.2.2.1
  have hB := th_NR_s hB hB1 hu hB.2.2.1 (by omega) oq10
  have k8x := tm_MAo k8 oq10 (by have q9 := lb8; omega)
  have n8x : ¬ th_MR G Γ H10 b8 := fun w => n8 (th_MR_s hu oq10 w)
  have hs : H0.size ≤ H10.size := by omega
  have lt_b8 : b8 < H10.size := by omega
  refine lv_aload_n hx hb dX10_init_13 rfl (lv_at hl 0 rfl) ?_
  refine lv_bipush (v := 96) hx hb dX10_init_14 (by decide) ?_
  refine tc_newa (ty := .int) (t := 0) hC hB.1 rfl rfl rfl kw_104 (N := 96) tk_96 (by decide) (Nat.le_of_ble_eq_true rfl) (Nat.le_of_ble_eq_true rfl) dX10_init_16 (fun b16 H16 eb16 zb16 oq16 hB1 k16 => ?_)
  have u16 := k16.2.1
  have n160 : ¬ th_MR G Γ H10 b16 := fun w => absurd (th_MR_lt hB.2.1 w) (by omega)
  have hB := th_NR_s hB hB1 u16 n160 (by omega) oq16
  have n16 : ¬ th_MR G Γ H16 b16 := fun w => n160 (th_MR_s u16 oq16 w)
  have lb16 : H0.size ≤ b16 := by omega
  have ho := tc_OBo ho oq16 (by omega)
  have k8xx := tm_MAo k8x oq16 (by have q9 := tm_lt k8x; omega)
  have n8xx : ¬ th_MR G Γ H16 b8 := fun w => n8x (th_MR_s u16 oq16 w)
  have hs : H0.size ≤ H16.size := by omega
  have dd_b16_b8 : b8 ≠ b16 := by have q9 := lt_b8; omega
  have lt_b16 : b16 < H16.size := by omega
  have lt_b8 : b8 < H16.size := by omega
  refine tc_putF hC cf_X10 hB.1 ho (j := 1) (by decide) rfl hnm rfl rfl kf_X10_15 dX10_init_18 (fun H18 locs hB1 ho z18 oq18 => ?_)
  have hu := hB.1.2.2.2.2.1
  have hB := th_NR_s hB hB1 hu hB.2.2.1 (by omega) oq18
  have k8xxx := tm_MAo k8xx oq18 (by have q9 := lb8; omega)
  have n8xxx : ¬ th_MR G Γ H18 b8 := fun w => n8xx (th_MR_s hu oq18 w)
  have k16x := tm_MAo k16 oq18 (by have q9 := lb16; omega)
  have n16x : ¬ th_MR G Γ H18 b16 := fun w => n16 (th_MR_s hu oq18 w)
  have hs : H0.size ≤ H18.size := by omega
  have lt_b8 : b8 < H18.size := by omega
  have lt_b16 : b16 < H18.size := by omega
  refine lv_aload_n hx hb dX10_init_21 rfl (lv_at hl 0 rfl) ?_
  refine lv_iconst (v := 0) hx hb dX10_init_22 (by decide) ?_
  refine tc_put hC cf_X10 hB.1 ho (j := 2) (by decide) rfl rfl rfl kf_X10_18 dX10_init_23 (fun H23 locs hB1 ho z23 oq23 => ?_)
  have hu := hB.1.2.2.2.2.1
  have hB := th_NR_s hB hB1 hu hB.2.2.1 (by omega) oq23
  have k8xxxx := tm_MAo k8xxx oq23 (by have q9 := lb8; omega)
  have n8xxxx : ¬ th_MR G Γ H23 b8 := fun w => n8xxx (th_MR_s hu oq23 w)
  have k16xx := tm_MAo k16x oq23 (by have q9 := lb16; omega)
  have n16xx : ¬ th_MR G Γ H23 b16 := fun w => n16x (th_MR_s hu oq23 w)
  have hs : H0.size ≤ H23.size := by omega
  have lt_b8 : b8 < H23.size := by omega
  have lt_b16 : b16 < H23.size := by omega
  refine lv_aload_n hx hb dX10_init_26 rfl (lv_at hl 0 rfl) ?_
  refine lv_iconst (v := 0) hx hb dX10_init_27 (by decide) ?_
  refine tc_put hC cf_X10 hB.1 ho (j := 3) (by decide) rfl rfl rfl kf_X10_22 dX10_init_28 (fun H28 locs hB1 ho z28 oq28 => ?_)
  have hu := hB.1.2.2.2.2.1
  have hB := th_NR_s hB hB1 hu hB.2.2.1 (by omega) oq28
  have k8xxxxx := tm_MAo k8xxxx oq28 (by have q9 := lb8; omega)
  have n8xxxxx : ¬ th_MR G Γ H28 b8 := fun w => n8xxxx (th_MR_s hu oq28 w)
  have k16xxx := tm_MAo k16xx oq28 (by have q9 := lb16; omega)
  have n16xxx : ¬ th_MR G Γ H28 b16 := fun w => n16xx (th_MR_s hu oq28 w)
  have hs : H0.size ≤ H28.size := by omega
  have lt_b8 : b8 < H28.size := by omega
  have lt_b16 : b16 < H28.size := by omega
  have hI1 := hB.1.1
  have hR1 := hB.2.1
  have hI2 := th_nmA (r := 40) (o := a0) hI1 k8xxxxx ro_40 (Nat.le_refl _) (Nat.le_refl _) (fun i _ => th_sI (x := 0) (by decide) (by decide))
  have hR1 := th_RC_up hI1 hR1 (x := (40, a0)) k8xxxxx.2.1 n8xxxxx hI2 (fun e => absurd (show (40 : Nat) = 3 from e) (by decide)) (fun e => absurd (show (40 : Nat) = 18 ∨ (40 : Nat) = 19 from e) (by decide)) (show (40 : Nat) ≠ 12 by decide)
  have hI1 := hI2
  have ho := th_OB_up (b := b8) (x := (40, a0)) ho (by have q9 := lb8; omega)
  have k16xxxu := th_MA_up (b := b8) (x := (40, a0)) k16xxx (fun e => dd_b16_b8 e.symm)
  have n16xxxu : ¬ th_MR G (th_up Γ b8 (40, a0)) H28 b16 := fun w => n16xxx (th_MR_up (show (40 : Nat) ≠ 12 by decide) w)
  have hI2 := th_nmA (r := 41) (o := a0) hI1 k16xxxu ro_41 (Nat.le_refl _) (Nat.le_refl _) (fun i _ => th_esm_st (Or.inr (by decide)))
  have hR1 := th_RC_up hI1 hR1 (x := (41, a0)) k16xxxu.2.1 n16xxxu hI2 (fun e => absurd (show (41 : Nat) = 3 from e) (by decide)) (fun e => absurd (show (41 : Nat) = 18 ∨ (41 : Nat) = 19 from e) (by decide)) (show (41 : Nat) ≠ 12 by decide)
  have hI1 := hI2
  have ho := th_OB_up (b := b16) (x := (41, a0)) ho (by have q9 := lb16; omega)
  have g_b8 : (th_up (th_up Γ b8 (40, a0)) b16 (41, a0)) b8 = (40, a0) := (th_up_n (dd_b16_b8)).trans (th_up_s)
  have g_b16 : (th_up (th_up Γ b8 (40, a0)) b16 (41, a0)) b16 = (41, a0) := th_up_s
  have nm0 : ¬ th_MR G (th_up (th_up Γ b8 (40, a0)) b16 (41, a0)) H28 a0 := fun w => hB.2.2.1 (th_MR_up (show (40 : Nat) ≠ 12 by decide) (th_MR_up (show (41 : Nat) ≠ 12 by decide) w))
  have hI2 := th_nmO (r := 39) hI1 ho hsz ro_39 rfl (fun j q hq => by
    match j, hq with
    | 0, hq => have e9 := Option.some.inj hq; subst e9; exact th_sO g_b8
    | 1, hq => have e9 := Option.some.inj hq; subst e9; exact th_sO g_b16
    | 2, hq => have e9 := Option.some.inj hq; subst e9; exact th_sI (x := 0) (by decide) (by decide)
    | 3, hq => have e9 := Option.some.inj hq; subst e9; exact th_sI (x := 0) (by decide) (by decide)
    | n + 4, hq => exact absurd (List.getElem?_eq_some_iff.mp hq).1 (by simp))
  have hR2 := th_RC_up hI1 hR1 (x := (39, 0)) ho.1 nm0 hI2 (fun e => absurd e (by decide)) (fun e => absurd e (by decide)) (by decide)
  have gq : ∀ q, q < H0.size → q ≠ a0 → (th_up (th_up (th_up Γ b8 (40, a0)) b16 (41, a0)) a0 (39, 0)) q = Γ q := fun q h1 h2 => (((th_up_n h2).trans (th_up_n (by have q9 := lb16; omega))).trans (th_up_n (by have q9 := lb8; omega)))
  refine th_vret hC hH hr hlocks hB.1.2.1 ⟨rfl, (th_up (th_up (th_up Γ b8 (40, a0)) b16 (41, a0)) a0 (39, 0)), ⟨hI2, hs, fun q h1 h2 => ⟨(gq q h1 h2).trans (hB.1.2.2.2.1 q h1 h2), hB.1.2.2.1 q h1 h2⟩⟩, hR2, th_up_s, fun q w => hB.2.2.2 q (th_MR_up (show (40 : Nat) ≠ 12 by decide) (th_MR_up (show (41 : Nat) ≠ 12 by decide) (th_MR_up (show (39 : Nat) ≠ 12 by decide) w))), fun q x o hg hq hs => ?_⟩ dX10_init_31
  by_cases e_a0 : q = a0
  · rw [e_a0, th_up_s] at hg; cases hg; decide
  rw [th_up_n e_a0] at hg
  by_cases e_b16 : q = b16
  · rw [e_b16, th_up_s] at hg; cases hg; decide
  rw [th_up_n e_b16] at hg
  by_cases e_b8 : q = b8
  · rw [e_b8, th_up_s] at hg; cases hg; decide
  rw [th_up_n e_b8] at hg
  exact absurd hs (by rcases hq with w | w; exact absurd w e_a0; have q9 : th_ro (Γ q).1 = none := tc_un hI w; rw [hg] at q9; rw [q9]; decide)
