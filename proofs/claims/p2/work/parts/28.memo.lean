set_option maxHeartbeats 4000000 in
set_option maxRecDepth 100000 in
theorem c_J7_fill_d0a16_m1024 (l : Launch) (G : th_G) (Γ : th_Ga) (H0 : Heap) (hI : th_I G Γ H0) (p1 : Nat) (f1 : Nat → Int64) (k1 : th_MA G Γ H0 p1 1 1024 (fun i => .long (f1 i))) (p2 : Int64) : Met l yJ7_fill_d0a16 (.code yJ7_fill_d0a16 cJ7_fill_d0a16 5 (none) :: th_tb) ({ frames := 0, cells := 0, slots := 0, locals := 0 } : Room) (th_P [.ref p1, .long p2] G H0) (th_Q (fun (v : Option Value) (H1 : Heap) => v = none ∧ th_I G Γ H1 ∧ th_F G Γ [] H0 H1 ∧ (∃ g : Nat → Int64, th_MA G Γ H1 p1 1 1024 (fun i => .long (g i))) ∧ (th_FR [p1] H0 H1)) G) 0 0 (fun q => G.2.2 ≤ q) := by
  refine th_met RJ7 (by decide) rfl (Nat.le_of_ble_eq_true rfl) ?_
  intro p e s m below meth c hC hH hr hlocks hnm ls hl
  have hx := hC.1
  have hb := hC.2.1
  have hB : th_B G Γ Γ [] H0 H0 [] := ⟨hI, va_S.rf, th_F_rf⟩
  have hl : lv_has ls 5 [(0, .ref p1), (1, .long p2)] := hl
  have hfr : th_FR [p1] H0 H0 := fun q _ => rfl
  refine lv_iconst (v := 0) hx hb dJ7_fill_d0a16_0 (by decide) ?_
  refine lv_istore_n (lv' := [(3, .int 0), (0, .ref p1), (1, .long p2)]) hx hb dJ7_fill_d0a16_1 rfl hl (by decide) rfl (fun ls hl => ?_)
  refine lv_aload_n hx hb dJ7_fill_d0a16_2 rfl (lv_at hl 1 rfl) ?_
  refine tm_alen hC k1 rfl (by decide) dJ7_fill_d0a16_3 (fun x1 ex1 => ?_)
  refine lv_istore (lv' := [(4, .int x1), (3, .int 0), (0, .ref p1), (1, .long p2)]) hx hb dJ7_fill_d0a16_4 hl (by decide) rfl (fun ls hl => ?_)
  have lp6 : ∀ (n6 : Nat) (H6 : Heap) (locs : List Loc) (ls : Array Slot) (j6_3 : Int32) (f1_6 : Nat → Int64), th_B G Γ Γ [] H0 H6 locs → lv_has ls 5 [(4, .int x1), (0, .ref p1), (1, .long p2), (3, .int j6_3)] → 0 ≤ j6_3.toInt → j6_3.toInt ≤ 1295 → th_MA G Γ H6 p1 1 1024 (fun i => .long (f1_6 i)) → th_FR [p1] H0 H6 → (2147483648 : Int) - j6_3.toInt ≤ (n6 : Int) → W p l e ({ frames := 0, cells := 0, slots := 0, locals := 0 } : Room) s m ([.ref p1, .long p2] : List Value).toArray below meth c H6 locs 0 0 (MQ below (th_Q (fun (v : Option Value) (H1 : Heap) => v = none ∧ th_I G Γ H1 ∧ th_F G Γ [] H0 H1 ∧ (∃ g : Nat → Int64, th_MA G Γ H1 p1 1 1024 (fun i => .long (g i))) ∧ (th_FR [p1] H0 H1)) G) ([.ref p1, .long p2] : List Value).toArray s 0 0 (fun q => G.2.2 ≤ q)) (F0 m 6 ls []) := by
    intro n6
    induction n6 with
    | zero => intro H6 locs ls j6_3 f1_6 hB hl g6_0 g6_1 g6_2 g6_3 hm6; exact absurd hm6 (by have := ti_hi j6_3; omega)
    | succ n6 ih6 =>
      intro H6 locs ls j6_3 f1_6 hB hl g6_0 g6_1 g6_2 g6_3 hm6
      have lj6_3 := ti_lo j6_3; have uj6_3 := ti_hi j6_3
      have hfr := g6_3
      have hm6 : (2147483648 : Int) - j6_3.toInt ≤ (n6 : Int) + 1 := by omega
      refine lv_iload_n hx hb dJ7_fill_d0a16_6 rfl (lv_at hl 3 rfl) ?_
      refine lv_iload hx hb dJ7_fill_d0a16_7 (lv_at hl 0 rfl) ?_
      refine tr_icmp_ge (tgt := 22) hx hb dJ7_fill_d0a16_9 (by decide) (Eq.refl _) (Eq.refl _) (fun c9 => ?_) (fun c9 => ?_)
      · exact th_vret hC hH hr hlocks hB.2.1 ⟨rfl, hB.1, hB.2.2, ⟨_, g6_2⟩, hfr⟩ dJ7_fill_d0a16_22
      · refine lv_aload_n hx hb dJ7_fill_d0a16_12 rfl (lv_at hl 1 rfl) ?_
        refine lv_iload_n hx hb dJ7_fill_d0a16_13 rfl (lv_at hl 3 rfl) ?_
        refine lv_lload_n hx hb dJ7_fill_d0a16_14 rfl (lv_at hl 2 rfl) ?_
        refine tm_last hC hB g6_2 (Eq.refl _) (by omega) (by omega) dJ7_fill_d0a16_15 (fun H15 locs hB ka2 oq15 => ?_)
        obtain ⟨fa3, ka2⟩ : ∃ g : Nat → Int64, th_MA G Γ H15 p1 1 1024 (fun i => .long (g i)) := ⟨_, ka2⟩
        have hfr := th_FR_st hfr oq15 (by simp)
        refine tr_iinc (fun x4 => [(3, .int x4), (4, .int x1), (0, .ref p1), (1, .long p2)]) hx hb dJ7_fill_d0a16_16 hl (k := 3) rfl (Eq.refl _) tk_1 (by omega) (by omega) (by decide) (fun _ => rfl) (fun x4 ls ex4 hl => ?_)
        refine lv_goto (tgt := 6) hx hb dJ7_fill_d0a16_19 (by decide) ?_
        exact ih6 H15 locs ls x4 fa3 hB (lv_sub hl [1, 2, 3, 0] rfl) (by omega) (by omega) ka2 hfr (by omega)
  exact lp6 ((2147483648 : Int) - (0)).toNat H0 [] ls 0 f1 hB (lv_sub hl [0, 2, 3, 1] rfl) (by decide) (by decide) k1 hfr (by have w0 := tk_0; omega)

set_option maxHeartbeats 4000000 in
set_option maxRecDepth 100000 in
theorem c_J7_fill_d0a16_m4096 (l : Launch) (G : th_G) (Γ : th_Ga) (H0 : Heap) (hI : th_I G Γ H0) (p1 : Nat) (f1 : Nat → Int64) (k1 : th_MA G Γ H0 p1 1 4096 (fun i => .long (f1 i))) (p2 : Int64) : Met l yJ7_fill_d0a16 (.code yJ7_fill_d0a16 cJ7_fill_d0a16 5 (none) :: th_tb) ({ frames := 0, cells := 0, slots := 0, locals := 0 } : Room) (th_P [.ref p1, .long p2] G H0) (th_Q (fun (v : Option Value) (H1 : Heap) => v = none ∧ th_I G Γ H1 ∧ th_F G Γ [] H0 H1 ∧ (∃ g : Nat → Int64, th_MA G Γ H1 p1 1 4096 (fun i => .long (g i))) ∧ (th_FR [p1] H0 H1)) G) 0 0 (fun q => G.2.2 ≤ q) := by
  refine th_met RJ7 (by decide) rfl (Nat.le_of_ble_eq_true rfl) ?_
  intro p e s m below meth c hC hH hr hlocks hnm ls hl
  have hx := hC.1
  have hb := hC.2.1
  have hB : th_B G Γ Γ [] H0 H0 [] := ⟨hI, va_S.rf, th_F_rf⟩
  have hl : lv_has ls 5 [(0, .ref p1), (1, .long p2)] := hl
  have hfr : th_FR [p1] H0 H0 := fun q _ => rfl
  refine lv_iconst (v := 0) hx hb dJ7_fill_d0a16_0 (by decide) ?_
  refine lv_istore_n (lv' := [(3, .int 0), (0, .ref p1), (1, .long p2)]) hx hb dJ7_fill_d0a16_1 rfl hl (by decide) rfl (fun ls hl => ?_)
  refine lv_aload_n hx hb dJ7_fill_d0a16_2 rfl (lv_at hl 1 rfl) ?_
  refine tm_alen hC k1 rfl (by decide) dJ7_fill_d0a16_3 (fun x1 ex1 => ?_)
  refine lv_istore (lv' := [(4, .int x1), (3, .int 0), (0, .ref p1), (1, .long p2)]) hx hb dJ7_fill_d0a16_4 hl (by decide) rfl (fun ls hl => ?_)
  have lp6 : ∀ (n6 : Nat) (H6 : Heap) (locs : List Loc) (ls : Array Slot) (j6_3 : Int32) (f1_6 : Nat → Int64), th_B G Γ Γ [] H0 H6 locs → lv_has ls 5 [(4, .int x1), (0, .ref p1), (1, .long p2), (3, .int j6_3)] → 0 ≤ j6_3.toInt → j6_3.toInt ≤ 8192 → th_MA G Γ H6 p1 1 4096 (fun i => .long (f1_6 i)) → th_FR [p1] H0 H6 → (2147483648 : Int) - j6_3.toInt ≤ (n6 : Int) → W p l e ({ frames := 0, cells := 0, slots := 0, locals := 0 } : Room) s m ([.ref p1, .long p2] : List Value).toArray below meth c H6 locs 0 0 (MQ below (th_Q (fun (v : Option Value) (H1 : Heap) => v = none ∧ th_I G Γ H1 ∧ th_F G Γ [] H0 H1 ∧ (∃ g : Nat → Int64, th_MA G Γ H1 p1 1 4096 (fun i => .long (g i))) ∧ (th_FR [p1] H0 H1)) G) ([.ref p1, .long p2] : List Value).toArray s 0 0 (fun q => G.2.2 ≤ q)) (F0 m 6 ls []) := by
    intro n6
    induction n6 with
    | zero => intro H6 locs ls j6_3 f1_6 hB hl g6_0 g6_1 g6_2 g6_3 hm6; exact absurd hm6 (by have := ti_hi j6_3; omega)
    | succ n6 ih6 =>
      intro H6 locs ls j6_3 f1_6 hB hl g6_0 g6_1 g6_2 g6_3 hm6
      have lj6_3 := ti_lo j6_3; have uj6_3 := ti_hi j6_3
      have hfr := g6_3
      have hm6 : (2147483648 : Int) - j6_3.toInt ≤ (n6 : Int) + 1 := by omega
      refine lv_iload_n hx hb dJ7_fill_d0a16_6 rfl (lv_at hl 3 rfl) ?_
      refine lv_iload hx hb dJ7_fill_d0a16_7 (lv_at hl 0 rfl) ?_
      refine tr_icmp_ge (tgt := 22) hx hb dJ7_fill_d0a16_9 (by decide) (Eq.refl _) (Eq.refl _) (fun c9 => ?_) (fun c9 => ?_)
      · exact th_vret hC hH hr hlocks hB.2.1 ⟨rfl, hB.1, hB.2.2, ⟨_, g6_2⟩, hfr⟩ dJ7_fill_d0a16_22
      · refine lv_aload_n hx hb dJ7_fill_d0a16_12 rfl (lv_at hl 1 rfl) ?_
        refine lv_iload_n hx hb dJ7_fill_d0a16_13 rfl (lv_at hl 3 rfl) ?_
        refine lv_lload_n hx hb dJ7_fill_d0a16_14 rfl (lv_at hl 2 rfl) ?_
        refine tm_last hC hB g6_2 (Eq.refl _) (by omega) (by omega) dJ7_fill_d0a16_15 (fun H15 locs hB ka2 oq15 => ?_)
        obtain ⟨fa3, ka2⟩ : ∃ g : Nat → Int64, th_MA G Γ H15 p1 1 4096 (fun i => .long (g i)) := ⟨_, ka2⟩
        have hfr := th_FR_st hfr oq15 (by simp)
        refine tr_iinc (fun x4 => [(3, .int x4), (4, .int x1), (0, .ref p1), (1, .long p2)]) hx hb dJ7_fill_d0a16_16 hl (k := 3) rfl (Eq.refl _) tk_1 (by omega) (by omega) (by decide) (fun _ => rfl) (fun x4 ls ex4 hl => ?_)
        refine lv_goto (tgt := 6) hx hb dJ7_fill_d0a16_19 (by decide) ?_
        exact ih6 H15 locs ls x4 fa3 hB (lv_sub hl [1, 2, 3, 0] rfl) (by omega) (by omega) ka2 hfr (by omega)
  exact lp6 ((2147483648 : Int) - (0)).toNat H0 [] ls 0 f1 hB (lv_sub hl [0, 2, 3, 1] rfl) (by decide) (by decide) k1 hfr (by have w0 := tk_0; omega)

set_option maxHeartbeats 4000000 in
set_option maxRecDepth 100000 in
theorem c_J7_fill_d0a16_m16384 (l : Launch) (G : th_G) (Γ : th_Ga) (H0 : Heap) (hI : th_I G Γ H0) (p1 : Nat) (f1 : Nat → Int64) (k1 : th_MA G Γ H0 p1 1 16384 (fun i => .long (f1 i))) (p2 : Int64) : Met l yJ7_fill_d0a16 (.code yJ7_fill_d0a16 cJ7_fill_d0a16 5 (none) :: th_tb) ({ frames := 0, cells := 0, slots := 0, locals := 0 } : Room) (th_P [.ref p1, .long p2] G H0) (th_Q (fun (v : Option Value) (H1 : Heap) => v = none ∧ th_I G Γ H1 ∧ th_F G Γ [] H0 H1 ∧ (∃ g : Nat → Int64, th_MA G Γ H1 p1 1 16384 (fun i => .long (g i))) ∧ (th_FR [p1] H0 H1)) G) 0 0 (fun q => G.2.2 ≤ q) := by
  refine th_met RJ7 (by decide) rfl (Nat.le_of_ble_eq_true rfl) ?_
  intro p e s m below meth c hC hH hr hlocks hnm ls hl
  have hx := hC.1
  have hb := hC.2.1
  have hB : th_B G Γ Γ [] H0 H0 [] := ⟨hI, va_S.rf, th_F_rf⟩
  have hl : lv_has ls 5 [(0, .ref p1), (1, .long p2)] := hl
  have hfr : th_FR [p1] H0 H0 := fun q _ => rfl
  refine lv_iconst (v := 0) hx hb dJ7_fill_d0a16_0 (by decide) ?_
  refine lv_istore_n (lv' := [(3, .int 0), (0, .ref p1), (1, .long p2)]) hx hb dJ7_fill_d0a16_1 rfl hl (by decide) rfl (fun ls hl => ?_)
  refine lv_aload_n hx hb dJ7_fill_d0a16_2 rfl (lv_at hl 1 rfl) ?_
  refine tm_alen hC k1 rfl (by decide) dJ7_fill_d0a16_3 (fun x1 ex1 => ?_)
  refine lv_istore (lv' := [(4, .int x1), (3, .int 0), (0, .ref p1), (1, .long p2)]) hx hb dJ7_fill_d0a16_4 hl (by decide) rfl (fun ls hl => ?_)
  have lp6 : ∀ (n6 : Nat) (H6 : Heap) (locs : List Loc) (ls : Array Slot) (j6_3 : Int32) (f1_6 : Nat → Int64), th_B G Γ Γ [] H0 H6 locs → lv_has ls 5 [(4, .int x1), (0, .ref p1), (1, .long p2), (3, .int j6_3)] → 0 ≤ j6_3.toInt → j6_3.toInt ≤ 16384 → th_MA G Γ H6 p1 1 16384 (fun i => .long (f1_6 i)) → th_FR [p1] H0 H6 → (2147483648 : Int) - j6_3.toInt ≤ (n6 : Int) → W p l e ({ frames := 0, cells := 0, slots := 0, locals := 0 } : Room) s m ([.ref p1, .long p2] : List Value).toArray below meth c H6 locs 0 0 (MQ below (th_Q (fun (v : Option Value) (H1 : Heap) => v = none ∧ th_I G Γ H1 ∧ th_F G Γ [] H0 H1 ∧ (∃ g : Nat → Int64, th_MA G Γ H1 p1 1 16384 (fun i => .long (g i))) ∧ (th_FR [p1] H0 H1)) G) ([.ref p1, .long p2] : List Value).toArray s 0 0 (fun q => G.2.2 ≤ q)) (F0 m 6 ls []) := by
    intro n6
    induction n6 with
    | zero => intro H6 locs ls j6_3 f1_6 hB hl g6_0 g6_1 g6_2 g6_3 hm6; exact absurd hm6 (by have := ti_hi j6_3; omega)
    | succ n6 ih6 =>
      intro H6 locs ls j6_3 f1_6 hB hl g6_0 g6_1 g6_2 g6_3 hm6
      have lj6_3 := ti_lo j6_3; have uj6_3 := ti_hi j6_3
      have hfr := g6_3
      have hm6 : (2147483648 : Int) - j6_3.toInt ≤ (n6 : Int) + 1 := by omega
      refine lv_iload_n hx hb dJ7_fill_d0a16_6 rfl (lv_at hl 3 rfl) ?_
      refine lv_iload hx hb dJ7_fill_d0a16_7 (lv_at hl 0 rfl) ?_
      refine tr_icmp_ge (tgt := 22) hx hb dJ7_fill_d0a16_9 (by decide) (Eq.refl _) (Eq.refl _) (fun c9 => ?_) (fun c9 => ?_)
      · exact th_vret hC hH hr hlocks hB.2.1 ⟨rfl, hB.1, hB.2.2, ⟨_, g6_2⟩, hfr⟩ dJ7_fill_d0a16_22
      · refine lv_aload_n hx hb dJ7_fill_d0a16_12 rfl (lv_at hl 1 rfl) ?_
        refine lv_iload_n hx hb dJ7_fill_d0a16_13 rfl (lv_at hl 3 rfl) ?_
        refine lv_lload_n hx hb dJ7_fill_d0a16_14 rfl (lv_at hl 2 rfl) ?_
        refine tm_last hC hB g6_2 (Eq.refl _) (by omega) (by omega) dJ7_fill_d0a16_15 (fun H15 locs hB ka2 oq15 => ?_)
        obtain ⟨fa3, ka2⟩ : ∃ g : Nat → Int64, th_MA G Γ H15 p1 1 16384 (fun i => .long (g i)) := ⟨_, ka2⟩
        have hfr := th_FR_st hfr oq15 (by simp)
        refine tr_iinc (fun x4 => [(3, .int x4), (4, .int x1), (0, .ref p1), (1, .long p2)]) hx hb dJ7_fill_d0a16_16 hl (k := 3) rfl (Eq.refl _) tk_1 (by omega) (by omega) (by decide) (fun _ => rfl) (fun x4 ls ex4 hl => ?_)
        refine lv_goto (tgt := 6) hx hb dJ7_fill_d0a16_19 (by decide) ?_
        exact ih6 H15 locs ls x4 fa3 hB (lv_sub hl [1, 2, 3, 0] rfl) (by omega) (by omega) ka2 hfr (by omega)
  exact lp6 ((2147483648 : Int) - (0)).toNat H0 [] ls 0 f1 hB (lv_sub hl [0, 2, 3, 1] rfl) (by decide) (by decide) k1 hfr (by have w0 := tk_0; omega)

set_option maxHeartbeats 4000000 in
set_option maxRecDepth 100000 in
theorem c_X3_slotFor_10 (l : Launch) (G : th_G) (Γ : th_Ga) (H0 : Heap) (hI : th_I G Γ H0) (a0 : Nat) (h0 : Γ a0 = (12, 0)) (p1 : Int64) (b1 b2 b3 b4 : Nat) (hme : th_ME G Γ H0 a0 10 b1 b2 b3 b4) : Met l yX3_slotFor (.code yX3_slotFor cX3_slotFor 5 (some FieldType.int) :: th_tb) ({ frames := 0, cells := 0, slots := 0, locals := 0 } : Room) (th_P [.ref a0, .long p1] G H0) (th_Q (fun (v : Option Value) (H1 : Heap) => ∃ r : Int32, v = some (.int r) ∧ 0 ≤ r.toInt ∧ r.toInt ≤ 1023 ∧ H0 = H1) G) 0 0 (fun q => G.2.2 ≤ q) := by
  refine th_met RX3 (by decide) rfl (Nat.le_of_ble_eq_true rfl) ?_
  intro p e s m below meth c hC hH hr hlocks hnm ls hl
  have hx := hC.1
  have hb := hC.2.1
  have hB : th_B G Γ Γ [] H0 H0 [] := ⟨hI, va_S.rf, th_F_rf⟩
  have hl : lv_has ls 5 [(0, .ref a0), (1, .long p1)] := hl
  obtain ⟨-, m0, m1, m2, m3, m4, ⟨d12, d13, d14, d23, d24, d34⟩, ⟨f1, k1⟩, ⟨f2, k2⟩, ⟨f3, k3⟩, ⟨f4, k4, r4⟩, u, mu, lu, uu⟩ := id hme
  have k1 : th_MA G Γ H0 b1 1 1024 (fun i => .long (f1 i)) := k1
  have k2 : th_MA G Γ H0 b2 0 1024 (fun i => .int (f2 i)) := k2
  have k3 : th_MA G Γ H0 b3 0 1024 (fun i => .int (f3 i)) := k3
  have k4 : th_MA G Γ H0 b4 0 512 (fun i => .int (f4 i)) := k4
  have r4 : ∀ i, 0 ≤ (f4 i).toInt ∧ (f4 i).toInt < 1024 := r4
  have uu : u.toInt ≤ 512 := uu
  skip
  refine lv_lload_n hx hb dX3_slotFor_0 rfl (lv_at hl 1 rfl) ?_
  refine lv_ldc2 (v := (-7046029254386353131)) hx hb hC.2.2.2.1 (hC.2.2.2.2.1 _ kw_937) dX3_slotFor_1 ?_
  refine lv_lmul hx hb dX3_slotFor_4 ?_
  refine lv_topl (fun y1 ey1 => ?_)
  refine lv_bipush (v := 64) hx hb dX3_slotFor_5 (by decide) ?_
  refine lv_aload_n hx hb dX3_slotFor_7 rfl (lv_at hl 0 rfl) ?_
  refine th_getK hC cf_X3 hB.1 h0 ro_12 rfl (j := 0) (by decide) m0 kf_X3_11 dX3_slotFor_8 ?_
  refine tr_isub hx hb dX3_slotFor_11 tk_64 tk_n10 (by omega) (by omega) (fun x2 ex2 => ?_)
  refine lv_lushr hx hb dX3_slotFor_12 rfl ?_
  refine lv_topl (fun y3 ey3 => ?_)
  refine lv_l2i hx hb dX3_slotFor_13 rfl ?_
  refine lv_topi (fun x4 ex4 => ?_)
  have lx4 := ti_lo x4; have ux4 := ti_hi x4
  have f13 := ti_hash 10 y1 (y := x2) (by omega) (by omega) (by omega)
  rw [← ey3, ← ex4] at f13
  refine lv_istore_n (lv' := [(3, .int x4), (0, .ref a0), (1, .long p1)]) hx hb dX3_slotFor_14 rfl hl (by decide) rfl (fun ls hl => ?_)
  refine lv_iconst (v := 0) hx hb dX3_slotFor_15 (by decide) ?_
  refine lv_istore (lv' := [(4, .int 0), (3, .int x4), (0, .ref a0), (1, .long p1)]) hx hb dX3_slotFor_16 hl (by decide) rfl (fun ls hl => ?_)
  have lp18 : ∀ (n18 : Nat) (locs : List Loc) (ls : Array Slot) (j18_3 : Int32) (j18_4 : Int32), th_B G Γ Γ [] H0 H0 locs → lv_has ls 5 [(0, .ref a0), (1, .long p1), (3, .int j18_3), (4, .int j18_4)] → 0 ≤ j18_3.toInt → j18_3.toInt ≤ 1023 → 0 ≤ j18_4.toInt → j18_4.toInt ≤ 1295 → (2147483648 : Int) - j18_4.toInt ≤ (n18 : Int) → W p l e ({ frames := 0, cells := 0, slots := 0, locals := 0 } : Room) s m ([.ref a0, .long p1] : List Value).toArray below meth c H0 locs 0 0 (MQ below (th_Q (fun (v : Option Value) (H1 : Heap) => ∃ r : Int32, v = some (.int r) ∧ 0 ≤ r.toInt ∧ r.toInt ≤ 1023 ∧ H0 = H1) G) ([.ref a0, .long p1] : List Value).toArray s 0 0 (fun q => G.2.2 ≤ q)) (F0 m 18 ls []) := by
    intro n18
    induction n18 with
    | zero => intro locs ls j18_3 j18_4 hB hl g18_0 g18_1 g18_2 g18_3 hm18; exact absurd hm18 (by have := ti_hi j18_4; omega)
    | succ n18 ih18 =>
      intro locs ls j18_3 j18_4 hB hl g18_0 g18_1 g18_2 g18_3 hm18
      have lj18_3 := ti_lo j18_3; have uj18_3 := ti_hi j18_3
      have lj18_4 := ti_lo j18_4; have uj18_4 := ti_hi j18_4
      have hm18 : (2147483648 : Int) - j18_4.toInt ≤ (n18 : Int) + 1 := by omega
      refine lv_iload hx hb dX3_slotFor_18 (lv_at hl 3 rfl) ?_
      refine lv_aload_n hx hb dX3_slotFor_20 rfl (lv_at hl 0 rfl) ?_
      refine th_getK hC cf_X3 hB.1 h0 ro_12 rfl (j := 1) (by decide) m1 kf_X3_15 dX3_slotFor_21 ?_
      refine tm_alen hC k1 rfl (by decide) dX3_slotFor_24 (fun x5 ex5 => ?_)
      refine tr_icmp_ge (tgt := 70) hx hb dX3_slotFor_25 (by decide) (Eq.refl _) (Eq.refl _) (fun c25 => ?_) (fun c25 => ?_)
      · refine lv_iload_n hx hb dX3_slotFor_70 rfl (lv_at hl 2 rfl) ?_
        exact th_iret hC hH hr hlocks rfl hB.2.1 ⟨_, rfl, by omega, by omega, rfl⟩ dX3_slotFor_71
      · refine lv_aload_n hx hb dX3_slotFor_28 rfl (lv_at hl 0 rfl) ?_
        refine th_getK hC cf_X3 hB.1 h0 ro_12 rfl (j := 1) (by decide) m1 kf_X3_15 dX3_slotFor_29 ?_
        refine lv_iload_n hx hb dX3_slotFor_32 rfl (lv_at hl 2 rfl) ?_
        refine tm_lald hC k1 (Eq.refl _) (by omega) (by omega) dX3_slotFor_33 (fun y6 ey6 => ?_)
        refine lv_ldc2 (v := (-1)) hx hb hC.2.2.2.1 (hC.2.2.2.2.1 _ kw_296) dX3_slotFor_34 ?_
        refine tr_lcmp hx hb dX3_slotFor_37 (fun x7 fx7 gx7 => ?_)
        refine tr_if_eq (tgt := 70) hx hb dX3_slotFor_38 (by decide) (Eq.refl _) (fun c38 => ?_) (fun c38 => ?_)
        · refine lv_iload_n hx hb dX3_slotFor_70 rfl (lv_at hl 2 rfl) ?_
          exact th_iret hC hH hr hlocks rfl hB.2.1 ⟨_, rfl, by omega, by omega, rfl⟩ dX3_slotFor_71
        · refine lv_aload_n hx hb dX3_slotFor_41 rfl (lv_at hl 0 rfl) ?_
          refine th_getK hC cf_X3 hB.1 h0 ro_12 rfl (j := 1) (by decide) m1 kf_X3_15 dX3_slotFor_42 ?_
          refine lv_iload_n hx hb dX3_slotFor_45 rfl (lv_at hl 2 rfl) ?_
          refine tm_lald hC k1 (Eq.refl _) (by omega) (by omega) dX3_slotFor_46 (fun y8 ey8 => ?_)
          refine lv_lload_n hx hb dX3_slotFor_47 rfl (lv_at hl 1 rfl) ?_
          refine tr_lcmp hx hb dX3_slotFor_48 (fun x9 fx9 gx9 => ?_)
          refine tr_if_eq (tgt := 70) hx hb dX3_slotFor_49 (by decide) (Eq.refl _) (fun c49 => ?_) (fun c49 => ?_)
          · refine lv_iload_n hx hb dX3_slotFor_70 rfl (lv_at hl 2 rfl) ?_
            exact th_iret hC hH hr hlocks rfl hB.2.1 ⟨_, rfl, by omega, by omega, rfl⟩ dX3_slotFor_71
          · refine lv_iload_n hx hb dX3_slotFor_52 rfl (lv_at hl 2 rfl) ?_
            refine lv_iconst (v := 1) hx hb dX3_slotFor_53 (by decide) ?_
            refine tr_iadd hx hb dX3_slotFor_54 (Eq.refl _) tk_1 (by omega) (by omega) (fun x10 ex10 => ?_)
            refine lv_aload_n hx hb dX3_slotFor_55 rfl (lv_at hl 0 rfl) ?_
            refine th_getK hC cf_X3 hB.1 h0 ro_12 rfl (j := 1) (by decide) m1 kf_X3_15 dX3_slotFor_56 ?_
            refine tm_alen hC k1 rfl (by decide) dX3_slotFor_59 (fun x11 ex11 => ?_)
            refine lv_iconst (v := 1) hx hb dX3_slotFor_60 (by decide) ?_
            refine tr_isub hx hb dX3_slotFor_61 (Eq.refl _) tk_1 (by omega) (by omega) (fun x12 ex12 => ?_)
            refine lv_iand hx hb dX3_slotFor_62 ?_
            refine lv_topi (fun x13 ex13 => ?_)
            have lx13 := ti_lo x13; have ux13 := ti_hi x13
            have hx13 : x12 = 1023 := Int32.toInt_inj.mp (by rw [show x12.toInt = 1023 by omega]; rfl)
            have fx13 := ti_and x10 10 (m := 1023) (by decide) (by decide)
            rw [← hx13, ← ex13] at fx13
            refine lv_istore_n (lv' := [(3, .int x13), (0, .ref a0), (1, .long p1), (4, .int j18_4)]) hx hb dX3_slotFor_63 rfl hl (by decide) rfl (fun ls hl => ?_)
            refine tr_iinc (fun x14 => [(4, .int x14), (3, .int x13), (0, .ref a0), (1, .long p1)]) hx hb dX3_slotFor_64 hl (k := 3) rfl (Eq.refl _) tk_1 (by omega) (by omega) (by decide) (fun _ => rfl) (fun x14 ls ex14 hl => ?_)
            refine lv_goto (tgt := 18) hx hb dX3_slotFor_67 (by decide) ?_
            exact ih18 locs ls x13 x14 hB (lv_sub hl [2, 3, 1, 0] rfl) (by omega) (by omega) (by omega) (by omega) (by omega)
  exact lp18 ((2147483648 : Int) - (0)).toNat [] ls x4 0 hB (lv_sub hl [2, 3, 1, 0] rfl) (by omega) (by omega) (by decide) (by decide) (by have w0 := tk_0; omega)

set_option maxHeartbeats 4000000 in
set_option maxRecDepth 100000 in
theorem c_X3_find_10 (l : Launch) (G : th_G) (Γ : th_Ga) (H0 : Heap) (hI : th_I G Γ H0) (a0 : Nat) (h0 : Γ a0 = (12, 0)) (p1 : Int64) (b1 b2 b3 b4 : Nat) (hme : th_ME G Γ H0 a0 10 b1 b2 b3 b4) : Met l yX3_find (.code yX3_find cX3_find 4 (some FieldType.int) :: th_tb) ({ frames := 1, cells := 0, slots := 0, locals := 24 } : Room) (th_P [.ref a0, .long p1] G H0) (th_Q (fun (v : Option Value) (H1 : Heap) => ∃ r : Int32, v = some (.int r) ∧ (-1) ≤ r.toInt ∧ r.toInt ≤ 16383 ∧ H0 = H1) G) 0 0 (fun q => G.2.2 ≤ q) := by
  refine th_met RX3 (by decide) rfl (Nat.le_of_ble_eq_true rfl) ?_
  intro p e s m below meth c hC hH hr hlocks hnm ls hl
  have hx := hC.1
  have hb := hC.2.1
  have hB : th_B G Γ Γ [] H0 H0 [] := ⟨hI, va_S.rf, th_F_rf⟩
  have hl : lv_has ls 4 [(0, .ref a0), (1, .long p1)] := hl
  obtain ⟨-, m0, m1, m2, m3, m4, ⟨d12, d13, d14, d23, d24, d34⟩, ⟨f1, k1⟩, ⟨f2, k2⟩, ⟨f3, k3⟩, ⟨f4, k4, r4⟩, u, mu, lu, uu⟩ := id hme
  have k1 : th_MA G Γ H0 b1 1 1024 (fun i => .long (f1 i)) := k1
  have k2 : th_MA G Γ H0 b2 0 1024 (fun i => .int (f2 i)) := k2
  have k3 : th_MA G Γ H0 b3 0 1024 (fun i => .int (f3 i)) := k3
  have k4 : th_MA G Γ H0 b4 0 512 (fun i => .int (f4 i)) := k4
  have r4 : ∀ i, 0 ≤ (f4 i).toInt ∧ (f4 i).toInt < 1024 := r4
  have uu : u.toInt ≤ 512 := uu
  skip
  refine lv_aload_n hx hb dX3_find_0 rfl (lv_at hl 0 rfl) ?_
  refine lv_lload_n hx hb dX3_find_1 rfl (lv_at hl 1 rfl) ?_
  refine th_call (th_runV (As := [.long p1]) (rest := []) hC mf_X3_slotFor km_X3_46 im_X3_slotFor se_X3_slotFor (c_X3_slotFor_10 l G Γ H0 hB.1 a0 h0 p1 b1 b2 b3 b4 (show th_ME G Γ H0 a0 10 b1 b2 b3 b4 from ⟨by decide, m0, m1, m2, m3, m4, ⟨d12, d13, d14, d23, d24, d34⟩, ⟨_, k1⟩, ⟨_, k2⟩, ⟨_, k3⟩, ⟨_, k4, r4⟩, _, mu, by omega, by omega⟩)) rfl rfl ⟨Nat.le_of_ble_eq_true rfl, Nat.le_of_ble_eq_true rfl⟩ hB.1 h0 ro_12 rfl rfl hl.1 rfl (Nat.le_of_ble_eq_true rfl) dX3_find_2 ⟨Nat.le_refl _, Nat.le_refl _⟩) hB.2.1 (fun v2 H2 locs hp hz hS => ?_)
  obtain ⟨x1, rfl, lx1, ux1, rfl⟩ := hp
  have hB := th_B_s hB hS
  refine W.eq (g2 := F0 m 5 ls [.int x1]) rfl ?_
  refine lv_istore_n (lv' := [(3, .int x1), (0, .ref a0), (1, .long p1)]) hx hb dX3_find_5 rfl hl (by decide) rfl (fun ls hl => ?_)
  refine lv_aload_n hx hb dX3_find_6 rfl (lv_at hl 1 rfl) ?_
  refine th_getK hC cf_X3 hB.1 h0 ro_12 rfl (j := 1) (by decide) m1 kf_X3_15 dX3_find_7 ?_
  refine lv_iload_n hx hb dX3_find_10 rfl (lv_at hl 0 rfl) ?_
  refine tm_lald hC k1 (Eq.refl _) (by omega) (by omega) dX3_find_11 (fun y2 ey2 => ?_)
  refine lv_lload_n hx hb dX3_find_12 rfl (lv_at hl 2 rfl) ?_
  refine tr_lcmp hx hb dX3_find_13 (fun x3 fx3 gx3 => ?_)
  refine tr_if_ne (tgt := 21) hx hb dX3_find_14 (by decide) (Eq.refl _) (fun c14 => ?_) (fun c14 => ?_)
  · refine lv_iconst (v := (-1)) hx hb dX3_find_21 (by decide) ?_
    exact th_iret hC hH hr hlocks rfl hB.2.1 ⟨_, rfl, by decide, by decide, rfl⟩ dX3_find_22
  · refine lv_iload_n hx hb dX3_find_17 rfl (lv_at hl 0 rfl) ?_
    refine lv_goto (tgt := 22) hx hb dX3_find_18 (by decide) ?_
    exact th_iret hC hH hr hlocks rfl hB.2.1 ⟨_, rfl, by omega, by omega, rfl⟩ dX3_find_22

set_option maxHeartbeats 4000000 in
set_option maxRecDepth 100000 in
theorem c_X3_slotOfNth_10 (l : Launch) (G : th_G) (Γ : th_Ga) (H0 : Heap) (hI : th_I G Γ H0) (a0 : Nat) (h0 : Γ a0 = (12, 0)) (p1 : Int32) (b1 b2 b3 b4 : Nat) (hme : th_ME G Γ H0 a0 10 b1 b2 b3 b4) : Met l yX3_slotOfNth (.code yX3_slotOfNth cX3_slotOfNth 2 (some FieldType.int) :: th_tb) ({ frames := 0, cells := 0, slots := 0, locals := 0 } : Room) (th_P [.ref a0, .int p1] G H0) (th_Q (fun (v : Option Value) (H1 : Heap) => ∃ r : Int32, v = some (.int r) ∧ H0 = H1) G) 0 0 (fun q => G.2.2 ≤ q) := by
  refine th_met RX3 (by decide) rfl (Nat.le_of_ble_eq_true rfl) ?_
  intro p e s m below meth c hC hH hr hlocks hnm ls hl
  have hx := hC.1
  have hb := hC.2.1
  have hB : th_B G Γ Γ [] H0 H0 [] := ⟨hI, va_S.rf, th_F_rf⟩
  have hl : lv_has ls 2 [(0, .ref a0), (1, .int p1)] := hl
  have lp1 := ti_lo p1; have up1 := ti_hi p1
  obtain ⟨-, m0, m1, m2, m3, m4, ⟨d12, d13, d14, d23, d24, d34⟩, ⟨f1, k1⟩, ⟨f2, k2⟩, ⟨f3, k3⟩, ⟨f4, k4, r4⟩, u, mu, lu, uu⟩ := id hme
  have k1 : th_MA G Γ H0 b1 1 1024 (fun i => .long (f1 i)) := k1
  have k2 : th_MA G Γ H0 b2 0 1024 (fun i => .int (f2 i)) := k2
  have k3 : th_MA G Γ H0 b3 0 1024 (fun i => .int (f3 i)) := k3
  have k4 : th_MA G Γ H0 b4 0 512 (fun i => .int (f4 i)) := k4
  have r4 : ∀ i, 0 ≤ (f4 i).toInt ∧ (f4 i).toInt < 1024 := r4
  have uu : u.toInt ≤ 512 := uu
  skip
  refine lv_iload_n hx hb dX3_slotOfNth_0 rfl (lv_at hl 1 rfl) ?_
  refine tr_if_lt (tgt := 21) hx hb dX3_slotOfNth_1 (by decide) (Eq.refl _) (fun c1 => ?_) (fun c1 => ?_)
  · refine lv_iconst (v := (-1)) hx hb dX3_slotOfNth_21 (by decide) ?_
    exact th_iret hC hH hr hlocks rfl hB.2.1 ⟨_, rfl, rfl⟩ dX3_slotOfNth_22
  · refine lv_iload_n hx hb dX3_slotOfNth_4 rfl (lv_at hl 1 rfl) ?_
    refine lv_aload_n hx hb dX3_slotOfNth_5 rfl (lv_at hl 0 rfl) ?_
    refine th_getK hC cf_X3 hB.1 h0 ro_12 rfl (j := 5) (by decide) mu kf_X3_29 dX3_slotOfNth_6 ?_
    refine tr_icmp_ge (tgt := 21) hx hb dX3_slotOfNth_9 (by decide) (Eq.refl _) (Eq.refl _) (fun c9 => ?_) (fun c9 => ?_)
    · refine lv_iconst (v := (-1)) hx hb dX3_slotOfNth_21 (by decide) ?_
      exact th_iret hC hH hr hlocks rfl hB.2.1 ⟨_, rfl, rfl⟩ dX3_slotOfNth_22
    · refine lv_aload_n hx hb dX3_slotOfNth_12 rfl (lv_at hl 0 rfl) ?_
      refine th_getK hC cf_X3 hB.1 h0 ro_12 rfl (j := 4) (by decide) m4 kf_X3_26 dX3_slotOfNth_13 ?_
      refine lv_iload_n hx hb dX3_slotOfNth_16 rfl (lv_at hl 1 rfl) ?_
      refine tm_iald hC k4 (Eq.refl _) (by omega) (by omega) dX3_slotOfNth_17 (fun x1 ex1 => ?_)
      have fx1 := r4 (p1.toInt).toNat
      rw [← ex1] at fx1
      refine lv_goto (tgt := 22) hx hb dX3_slotOfNth_18 (by decide) ?_
      exact th_iret hC hH hr hlocks rfl hB.2.1 ⟨_, rfl, rfl⟩ dX3_slotOfNth_22

set_option maxHeartbeats 4000000 in
set_option maxRecDepth 100000 in
theorem c_X3_valueIn_10 (l : Launch) (G : th_G) (Γ : th_Ga) (H0 : Heap) (hI : th_I G Γ H0) (a0 : Nat) (h0 : Γ a0 = (12, 0)) (p1 : Int32) (b1 b2 b3 b4 : Nat) (hme : th_ME G Γ H0 a0 10 b1 b2 b3 b4) : Met l yX3_valueIn (.code yX3_valueIn cX3_valueIn 2 (some FieldType.int) :: th_tb) ({ frames := 0, cells := 0, slots := 0, locals := 0 } : Room) (th_P [.ref a0, .int p1] G H0) (th_Q (fun (v : Option Value) (H1 : Heap) => ∃ r : Int32, v = some (.int r) ∧ H0 = H1) G) 0 0 (fun q => G.2.2 ≤ q) := by
  refine th_met RX3 (by decide) rfl (Nat.le_of_ble_eq_true rfl) ?_
  intro p e s m below meth c hC hH hr hlocks hnm ls hl
  have hx := hC.1
  have hb := hC.2.1
  have hB : th_B G Γ Γ [] H0 H0 [] := ⟨hI, va_S.rf, th_F_rf⟩
  have hl : lv_has ls 2 [(0, .ref a0), (1, .int p1)] := hl
  have lp1 := ti_lo p1; have up1 := ti_hi p1
  obtain ⟨-, m0, m1, m2, m3, m4, ⟨d12, d13, d14, d23, d24, d34⟩, ⟨f1, k1⟩, ⟨f2, k2⟩, ⟨f3, k3⟩, ⟨f4, k4, r4⟩, u, mu, lu, uu⟩ := id hme
  have k1 : th_MA G Γ H0 b1 1 1024 (fun i => .long (f1 i)) := k1
  have k2 : th_MA G Γ H0 b2 0 1024 (fun i => .int (f2 i)) := k2
  have k3 : th_MA G Γ H0 b3 0 1024 (fun i => .int (f3 i)) := k3
  have k4 : th_MA G Γ H0 b4 0 512 (fun i => .int (f4 i)) := k4
  have r4 : ∀ i, 0 ≤ (f4 i).toInt ∧ (f4 i).toInt < 1024 := r4
  have uu : u.toInt ≤ 512 := uu
  skip
  refine lv_iload_n hx hb dX3_valueIn_0 rfl (lv_at hl 1 rfl) ?_
  refine tr_if_lt (tgt := 22) hx hb dX3_valueIn_1 (by decide) (Eq.refl _) (fun c1 => ?_) (fun c1 => ?_)
  · refine lv_iconst (v := 0) hx hb dX3_valueIn_22 (by decide) ?_
    exact th_iret hC hH hr hlocks rfl hB.2.1 ⟨_, rfl, rfl⟩ dX3_valueIn_23
  · refine lv_iload_n hx hb dX3_valueIn_4 rfl (lv_at hl 1 rfl) ?_
    refine lv_aload_n hx hb dX3_valueIn_5 rfl (lv_at hl 0 rfl) ?_
    refine th_getK hC cf_X3 hB.1 h0 ro_12 rfl (j := 2) (by decide) m2 kf_X3_19 dX3_valueIn_6 ?_
    refine tm_alen hC k2 rfl (by decide) dX3_valueIn_9 (fun x1 ex1 => ?_)
    refine tr_icmp_ge (tgt := 22) hx hb dX3_valueIn_10 (by decide) (Eq.refl _) (Eq.refl _) (fun c10 => ?_) (fun c10 => ?_)
    · refine lv_iconst (v := 0) hx hb dX3_valueIn_22 (by decide) ?_
      exact th_iret hC hH hr hlocks rfl hB.2.1 ⟨_, rfl, rfl⟩ dX3_valueIn_23
    · refine lv_aload_n hx hb dX3_valueIn_13 rfl (lv_at hl 0 rfl) ?_
      refine th_getK hC cf_X3 hB.1 h0 ro_12 rfl (j := 2) (by decide) m2 kf_X3_19 dX3_valueIn_14 ?_
      refine lv_iload_n hx hb dX3_valueIn_17 rfl (lv_at hl 1 rfl) ?_
      refine tm_iald hC k2 (Eq.refl _) (by omega) (by omega) dX3_valueIn_18 (fun x2 ex2 => ?_)
      have lx2 := ti_lo x2; have ux2 := ti_hi x2
      refine lv_goto (tgt := 23) hx hb dX3_valueIn_19 (by decide) ?_
      exact th_iret hC hH hr hlocks rfl hB.2.1 ⟨_, rfl, rfl⟩ dX3_valueIn_23

set_option maxHeartbeats 4000000 in
set_option maxRecDepth 100000 in
theorem c_X3_flowIn_10 (l : Launch) (G : th_G) (Γ : th_Ga) (H0 : Heap) (hI : th_I G Γ H0) (a0 : Nat) (h0 : Γ a0 = (12, 0)) (p1 : Int32) (b1 b2 b3 b4 : Nat) (hme : th_ME G Γ H0 a0 10 b1 b2 b3 b4) : Met l yX3_flowIn (.code yX3_flowIn cX3_flowIn 2 (some FieldType.int) :: th_tb) ({ frames := 0, cells := 0, slots := 0, locals := 0 } : Room) (th_P [.ref a0, .int p1] G H0) (th_Q (fun (v : Option Value) (H1 : Heap) => ∃ r : Int32, v = some (.int r) ∧ H0 = H1) G) 0 0 (fun q => G.2.2 ≤ q) := by
  refine th_met RX3 (by decide) rfl (Nat.le_of_ble_eq_true rfl) ?_
  intro p e s m below meth c hC hH hr hlocks hnm ls hl
  have hx := hC.1
  have hb := hC.2.1
  have hB : th_B G Γ Γ [] H0 H0 [] := ⟨hI, va_S.rf, th_F_rf⟩
  have hl : lv_has ls 2 [(0, .ref a0), (1, .int p1)] := hl
  have lp1 := ti_lo p1; have up1 := ti_hi p1
  obtain ⟨-, m0, m1, m2, m3, m4, ⟨d12, d13, d14, d23, d24, d34⟩, ⟨f1, k1⟩, ⟨f2, k2⟩, ⟨f3, k3⟩, ⟨f4, k4, r4⟩, u, mu, lu, uu⟩ := id hme
  have k1 : th_MA G Γ H0 b1 1 1024 (fun i => .long (f1 i)) := k1
  have k2 : th_MA G Γ H0 b2 0 1024 (fun i => .int (f2 i)) := k2
  have k3 : th_MA G Γ H0 b3 0 1024 (fun i => .int (f3 i)) := k3
  have k4 : th_MA G Γ H0 b4 0 512 (fun i => .int (f4 i)) := k4
  have r4 : ∀ i, 0 ≤ (f4 i).toInt ∧ (f4 i).toInt < 1024 := r4
  have uu : u.toInt ≤ 512 := uu
  skip
  refine lv_iload_n hx hb dX3_flowIn_0 rfl (lv_at hl 1 rfl) ?_
  refine tr_if_lt (tgt := 22) hx hb dX3_flowIn_1 (by decide) (Eq.refl _) (fun c1 => ?_) (fun c1 => ?_)
  · refine lv_iconst (v := 0) hx hb dX3_flowIn_22 (by decide) ?_
    exact th_iret hC hH hr hlocks rfl hB.2.1 ⟨_, rfl, rfl⟩ dX3_flowIn_23
  · refine lv_iload_n hx hb dX3_flowIn_4 rfl (lv_at hl 1 rfl) ?_
    refine lv_aload_n hx hb dX3_flowIn_5 rfl (lv_at hl 0 rfl) ?_
    refine th_getK hC cf_X3 hB.1 h0 ro_12 rfl (j := 3) (by decide) m3 kf_X3_23 dX3_flowIn_6 ?_
    refine tm_alen hC k3 rfl (by decide) dX3_flowIn_9 (fun x1 ex1 => ?_)
    refine tr_icmp_ge (tgt := 22) hx hb dX3_flowIn_10 (by decide) (Eq.refl _) (Eq.refl _) (fun c10 => ?_) (fun c10 => ?_)
    · refine lv_iconst (v := 0) hx hb dX3_flowIn_22 (by decide) ?_
      exact th_iret hC hH hr hlocks rfl hB.2.1 ⟨_, rfl, rfl⟩ dX3_flowIn_23
    · refine lv_aload_n hx hb dX3_flowIn_13 rfl (lv_at hl 0 rfl) ?_
      refine th_getK hC cf_X3 hB.1 h0 ro_12 rfl (j := 3) (by decide) m3 kf_X3_23 dX3_flowIn_14 ?_
      refine lv_iload_n hx hb dX3_flowIn_17 rfl (lv_at hl 1 rfl) ?_
      refine tm_iald hC k3 (Eq.refl _) (by omega) (by omega) dX3_flowIn_18 (fun x2 ex2 => ?_)
      have lx2 := ti_lo x2; have ux2 := ti_hi x2
      refine lv_goto (tgt := 23) hx hb dX3_flowIn_19 (by decide) ?_
      exact th_iret hC hH hr hlocks rfl hB.2.1 ⟨_, rfl, rfl⟩ dX3_flowIn_23

set_option maxHeartbeats 4000000 in
set_option maxRecDepth 100000 in
theorem c_X3_keyIn_10 (l : Launch) (G : th_G) (Γ : th_Ga) (H0 : Heap) (hI : th_I G Γ H0) (a0 : Nat) (h0 : Γ a0 = (12, 0)) (p1 : Int32) (b1 b2 b3 b4 : Nat) (hme : th_ME G Γ H0 a0 10 b1 b2 b3 b4) : Met l yX3_keyIn (.code yX3_keyIn cX3_keyIn 2 (some FieldType.long) :: th_tb) ({ frames := 0, cells := 0, slots := 0, locals := 0 } : Room) (th_P [.ref a0, .int p1] G H0) (th_Q (fun (v : Option Value) (H1 : Heap) => ∃ r : Int64, v = some (.long r) ∧ H0 = H1) G) 0 0 (fun q => G.2.2 ≤ q) := by
  refine th_met RX3 (by decide) rfl (Nat.le_of_ble_eq_true rfl) ?_
  intro p e s m below meth c hC hH hr hlocks hnm ls hl
  have hx := hC.1
  have hb := hC.2.1
  have hB : th_B G Γ Γ [] H0 H0 [] := ⟨hI, va_S.rf, th_F_rf⟩
  have hl : lv_has ls 2 [(0, .ref a0), (1, .int p1)] := hl
  have lp1 := ti_lo p1; have up1 := ti_hi p1
  obtain ⟨-, m0, m1, m2, m3, m4, ⟨d12, d13, d14, d23, d24, d34⟩, ⟨f1, k1⟩, ⟨f2, k2⟩, ⟨f3, k3⟩, ⟨f4, k4, r4⟩, u, mu, lu, uu⟩ := id hme
  have k1 : th_MA G Γ H0 b1 1 1024 (fun i => .long (f1 i)) := k1
  have k2 : th_MA G Γ H0 b2 0 1024 (fun i => .int (f2 i)) := k2
  have k3 : th_MA G Γ H0 b3 0 1024 (fun i => .int (f3 i)) := k3
  have k4 : th_MA G Γ H0 b4 0 512 (fun i => .int (f4 i)) := k4
  have r4 : ∀ i, 0 ≤ (f4 i).toInt ∧ (f4 i).toInt < 1024 := r4
  have uu : u.toInt ≤ 512 := uu
  skip
  refine lv_iload_n hx hb dX3_keyIn_0 rfl (lv_at hl 1 rfl) ?_
  refine tr_if_lt (tgt := 22) hx hb dX3_keyIn_1 (by decide) (Eq.refl _) (fun c1 => ?_) (fun c1 => ?_)
  · refine lv_ldc2 (v := (-1)) hx hb hC.2.2.2.1 (hC.2.2.2.2.1 _ kw_296) dX3_keyIn_22 ?_
    exact th_lret hC hH hr hlocks hB.2.1 ⟨_, rfl, rfl⟩ dX3_keyIn_25
  · refine lv_iload_n hx hb dX3_keyIn_4 rfl (lv_at hl 1 rfl) ?_
    refine lv_aload_n hx hb dX3_keyIn_5 rfl (lv_at hl 0 rfl) ?_
    refine th_getK hC cf_X3 hB.1 h0 ro_12 rfl (j := 1) (by decide) m1 kf_X3_15 dX3_keyIn_6 ?_
    refine tm_alen hC k1 rfl (by decide) dX3_keyIn_9 (fun x1 ex1 => ?_)
    refine tr_icmp_ge (tgt := 22) hx hb dX3_keyIn_10 (by decide) (Eq.refl _) (Eq.refl _) (fun c10 => ?_) (fun c10 => ?_)
    · refine lv_ldc2 (v := (-1)) hx hb hC.2.2.2.1 (hC.2.2.2.2.1 _ kw_296) dX3_keyIn_22 ?_
      exact th_lret hC hH hr hlocks hB.2.1 ⟨_, rfl, rfl⟩ dX3_keyIn_25
    · refine lv_aload_n hx hb dX3_keyIn_13 rfl (lv_at hl 0 rfl) ?_
      refine th_getK hC cf_X3 hB.1 h0 ro_12 rfl (j := 1) (by decide) m1 kf_X3_15 dX3_keyIn_14 ?_
      refine lv_iload_n hx hb dX3_keyIn_17 rfl (lv_at hl 1 rfl) ?_
      refine tm_lald hC k1 (Eq.refl _) (by omega) (by omega) dX3_keyIn_18 (fun y2 ey2 => ?_)
      refine lv_goto (tgt := 25) hx hb dX3_keyIn_19 (by decide) ?_
      exact th_lret hC hH hr hlocks hB.2.1 ⟨_, rfl, rfl⟩ dX3_keyIn_25

set_option maxHeartbeats 4000000 in
set_option maxRecDepth 100000 in
theorem c_X3_addFlow_10 (l : Launch) (G : th_G) (Γ : th_Ga) (H0 : Heap) (hI : th_I G Γ H0) (hR : th_RC G Γ H0) (a0 : Nat) (h0 : Γ a0 = (12, 0)) (p1 : Int32) (p2 : Int32) (b1 b2 b3 b4 : Nat) (hme : th_ME G Γ H0 a0 10 b1 b2 b3 b4) : Met l yX3_addFlow (.code yX3_addFlow cX3_addFlow 3 (none) :: th_tb) ({ frames := 0, cells := 0, slots := 0, locals := 0 } : Room) (th_P [.ref a0, .int p1, .int p2] G H0) (th_Q (fun (v : Option Value) (H1 : Heap) => v = none ∧ th_I G Γ H1 ∧ th_F G Γ [] H0 H1 ∧ th_RC G Γ H1) G) 0 0 (fun q => G.2.2 ≤ q) := by
  refine th_met RX3 (by decide) rfl (Nat.le_of_ble_eq_true rfl) ?_
  intro p e s m below meth c hC hH hr hlocks hnm ls hl
  have hx := hC.1
  have hb := hC.2.1
  have hB : th_B G Γ Γ [] H0 H0 [] := ⟨hI, va_S.rf, th_F_rf⟩
  have hl : lv_has ls 3 [(0, .ref a0), (1, .int p1), (2, .int p2)] := hl
  have lp1 := ti_lo p1; have up1 := ti_hi p1
  have lp2 := ti_lo p2; have up2 := ti_hi p2
  obtain ⟨-, m0, m1, m2, m3, m4, ⟨d12, d13, d14, d23, d24, d34⟩, ⟨f1, k1⟩, ⟨f2, k2⟩, ⟨f3, k3⟩, ⟨f4, k4, r4⟩, u, mu, lu, uu⟩ := id hme
  have k1 : th_MA G Γ H0 b1 1 1024 (fun i => .long (f1 i)) := k1
  have k2 : th_MA G Γ H0 b2 0 1024 (fun i => .int (f2 i)) := k2
  have k3 : th_MA G Γ H0 b3 0 1024 (fun i => .int (f3 i)) := k3
  have k4 : th_MA G Γ H0 b4 0 512 (fun i => .int (f4 i)) := k4
  have r4 : ∀ i, 0 ≤ (f4 i).toInt ∧ (f4 i).toInt < 1024 := r4
  have uu : u.toInt ≤ 512 := uu
  have hR0 := hR
  refine lv_iload_n hx hb dX3_addFlow_0 rfl (lv_at hl 1 rfl) ?_
  refine tr_if_lt (tgt := 23) hx hb dX3_addFlow_1 (by decide) (Eq.refl _) (fun c1 => ?_) (fun c1 => ?_)
  · exact th_vret hC hH hr hlocks hB.2.1 ⟨rfl, hB.1, hB.2.2, hR⟩ dX3_addFlow_23
  · refine lv_iload_n hx hb dX3_addFlow_4 rfl (lv_at hl 1 rfl) ?_
    refine lv_aload_n hx hb dX3_addFlow_5 rfl (lv_at hl 0 rfl) ?_
    refine th_getK hC cf_X3 hB.1 h0 ro_12 rfl (j := 3) (by decide) m3 kf_X3_23 dX3_addFlow_6 ?_
    refine tm_alen hC k3 rfl (by decide) dX3_addFlow_9 (fun x1 ex1 => ?_)
    refine tr_icmp_ge (tgt := 23) hx hb dX3_addFlow_10 (by decide) (Eq.refl _) (Eq.refl _) (fun c10 => ?_) (fun c10 => ?_)
    · exact th_vret hC hH hr hlocks hB.2.1 ⟨rfl, hB.1, hB.2.2, hR⟩ dX3_addFlow_23
    · refine lv_aload_n hx hb dX3_addFlow_13 rfl (lv_at hl 0 rfl) ?_
      refine th_getK hC cf_X3 hB.1 h0 ro_12 rfl (j := 3) (by decide) m3 kf_X3_23 dX3_addFlow_14 ?_
      refine lv_iload_n hx hb dX3_addFlow_17 rfl (lv_at hl 1 rfl) ?_
      refine lv_dup2_11 hx hb dX3_addFlow_18 rfl rfl ?_
      refine tm_iald hC k3 (Eq.refl _) (by omega) (by omega) dX3_addFlow_19 (fun x2 ex2 => ?_)
      have lx2 := ti_lo x2; have ux2 := ti_hi x2
      refine lv_iload_n hx hb dX3_addFlow_20 rfl (lv_at hl 2 rfl) ?_
      refine lv_iadd hx hb dX3_addFlow_21 ?_
      refine lv_topi (fun x3 ex3 => ?_)
      have lx3 := ti_lo x3; have ux3 := ti_hi x3
      refine tm_iast hC hB k3 (Eq.refl _) (by omega) (by omega) dX3_addFlow_22 (fun H22 locs hB ka4 oq22 => ?_)
      obtain ⟨fa5, ka4⟩ : ∃ g : Nat → Int32, th_MA G Γ H22 b3 0 1024 (fun i => .int (g i)) := ⟨_, ka4⟩
      have ka6 := tm_MAo k1 oq22 (id d13)
      have ka7 := tm_MAo k2 oq22 (id d23)
      have ka8 := tm_MAo k4 oq22 (fun e => d34 e.symm)
      have mm9 := (tm_slo h0 ro_12 k3 oq22 _).trans m0
      have mm10 := (tm_slo h0 ro_12 k3 oq22 _).trans m1
      have mm11 := (tm_slo h0 ro_12 k3 oq22 _).trans m2
      have mm12 := (tm_slo h0 ro_12 k3 oq22 _).trans m3
      have mm13 := (tm_slo h0 ro_12 k3 oq22 _).trans m4
      have mm14 := (tm_slo h0 ro_12 k3 oq22 _).trans mu
      exact th_vret hC hH hr hlocks hB.2.1 ⟨rfl, hB.1, hB.2.2, th_RC_me hB.1 hR0 hB.2.2 (by decide) h0 ⟨_, _, _, _, _, (show th_ME G Γ H22 a0 10 b1 b2 b3 b4 from ⟨by decide, mm9, mm10, mm11, mm12, mm13, ⟨d12, d13, d14, d23, d24, d34⟩, ⟨_, ka6⟩, ⟨_, ka7⟩, ⟨_, ka4⟩, ⟨_, ka8, r4⟩, _, mm14, by omega, by omega⟩)⟩⟩ dX3_addFlow_23

set_option maxHeartbeats 4000000 in
set_option maxRecDepth 100000 in
theorem c_X3_clear_10 (l : Launch) (G : th_G) (Γ : th_Ga) (H0 : Heap) (hI : th_I G Γ H0) (hR : th_RC G Γ H0) (a0 : Nat) (h0 : Γ a0 = (12, 0)) (b1 b2 b3 b4 : Nat) (hme : th_ME G Γ H0 a0 10 b1 b2 b3 b4) : Met l yX3_clear (.code yX3_clear cX3_clear 2 (none) :: th_tb) ({ frames := 0, cells := 0, slots := 0, locals := 0 } : Room) (th_P [.ref a0] G H0) (th_Q (fun (v : Option Value) (H1 : Heap) => v = none ∧ th_I G Γ H1 ∧ th_F G Γ [(12, 5), (12, 6)] H0 H1 ∧ th_RC G Γ H1) G) 0 0 (fun q => G.2.2 ≤ q) := by
  refine th_met RX3 (by decide) rfl (Nat.le_of_ble_eq_true rfl) ?_
  intro p e s m below meth c hC hH hr hlocks hnm ls hl
  have hx := hC.1
  have hb := hC.2.1
  have hB : th_B G Γ Γ [(12, 5), (12, 6)] H0 H0 [] := ⟨hI, va_S.rf, th_F_rf⟩
  have hl : lv_has ls 2 [(0, .ref a0)] := hl
  obtain ⟨-, m0, m1, m2, m3, m4, ⟨d12, d13, d14, d23, d24, d34⟩, ⟨f1, k1⟩, ⟨f2, k2⟩, ⟨f3, k3⟩, ⟨f4, k4, r4⟩, u, mu, lu, uu⟩ := id hme
  have k1 : th_MA G Γ H0 b1 1 1024 (fun i => .long (f1 i)) := k1
  have k2 : th_MA G Γ H0 b2 0 1024 (fun i => .int (f2 i)) := k2
  have k3 : th_MA G Γ H0 b3 0 1024 (fun i => .int (f3 i)) := k3
  have k4 : th_MA G Γ H0 b4 0 512 (fun i => .int (f4 i)) := k4
  have r4 : ∀ i, 0 ≤ (f4 i).toInt ∧ (f4 i).toInt < 1024 := r4
  have uu : u.toInt ≤ 512 := uu
  have hR0 := hR
  refine lv_iconst (v := 0) hx hb dX3_clear_0 (by decide) ?_
  refine lv_istore_n (lv' := [(1, .int 0), (0, .ref a0)]) hx hb dX3_clear_1 rfl hl (by decide) rfl (fun ls hl => ?_)
  have lp2 : ∀ (n2 : Nat) (H2 : Heap) (locs : List Loc) (ls : Array Slot) (j2_1 : Int32) (f1_2 : Nat → Int64) (f2_2 : Nat → Int32) (f3_2 : Nat → Int32) (f4_2 : Nat → Int32), th_B G Γ Γ [(12, 5), (12, 6)] H0 H2 locs → lv_has ls 2 [(0, .ref a0), (1, .int j2_1)] → 0 ≤ j2_1.toInt → j2_1.toInt ≤ 999 → th_sl H2 a0 (G.1.2 3 0) = .int (nI 10) → th_sl H2 a0 (G.1.2 3 1) = .ref b1 → th_sl H2 a0 (G.1.2 3 2) = .ref b2 → th_sl H2 a0 (G.1.2 3 3) = .ref b3 → th_sl H2 a0 (G.1.2 3 4) = .ref b4 → th_sl H2 a0 (G.1.2 3 5) = .int u → th_MA G Γ H2 b1 1 1024 (fun i => .long (f1_2 i)) → th_MA G Γ H2 b2 0 1024 (fun i => .int (f2_2 i)) → th_MA G Γ H2 b3 0 1024 (fun i => .int (f3_2 i)) → th_MA G Γ H2 b4 0 512 (fun i => .int (f4_2 i)) → (∀ i, 0 ≤ (f4_2 i).toInt ∧ (f4_2 i).toInt < 1024) → (2147483648 : Int) - j2_1.toInt ≤ (n2 : Int) → W p l e ({ frames := 0, cells := 0, slots := 0, locals := 0 } : Room) s m ([.ref a0] : List Value).toArray below meth c H2 locs 0 0 (MQ below (th_Q (fun (v : Option Value) (H1 : Heap) => v = none ∧ th_I G Γ H1 ∧ th_F G Γ [(12, 5), (12, 6)] H0 H1 ∧ th_RC G Γ H1) G) ([.ref a0] : List Value).toArray s 0 0 (fun q => G.2.2 ≤ q)) (F0 m 2 ls []) := by
    intro n2
    induction n2 with
    | zero => intro H2 locs ls j2_1 f1_2 f2_2 f3_2 f4_2 hB hl g2_0 g2_1 g2_2 g2_3 g2_4 g2_5 g2_6 g2_7 g2_8 g2_9 g2_10 g2_11 g2_12 hm2; exact absurd hm2 (by have := ti_hi j2_1; omega)
    | succ n2 ih2 =>
      intro H2 locs ls j2_1 f1_2 f2_2 f3_2 f4_2 hB hl g2_0 g2_1 g2_2 g2_3 g2_4 g2_5 g2_6 g2_7 g2_8 g2_9 g2_10 g2_11 g2_12 hm2
      have lj2_1 := ti_lo j2_1; have uj2_1 := ti_hi j2_1
      have hm2 : (2147483648 : Int) - j2_1.toInt ≤ (n2 : Int) + 1 := by omega
      refine lv_iload_n hx hb dX3_clear_2 rfl (lv_at hl 1 rfl) ?_
      refine lv_aload_n hx hb dX3_clear_3 rfl (lv_at hl 0 rfl) ?_
      refine th_getK hC cf_X3 hB.1 h0 ro_12 rfl (j := 5) (by decide) g2_7 kf_X3_29 dX3_clear_4 ?_
      refine tr_icmp_ge (tgt := 30) hx hb dX3_clear_7 (by decide) (Eq.refl _) (Eq.refl _) (fun c7 => ?_) (fun c7 => ?_)
      · refine lv_aload_n hx hb dX3_clear_30 rfl (lv_at hl 0 rfl) ?_
        refine lv_iconst (v := 0) hx hb dX3_clear_31 (by decide) ?_
        refine th_put hC cf_X3 hB h0 (Or.inl h0) ro_12 rfl (j := 5) rfl (th_sI (by decide) (by decide)) (by decide) rfl rfl rfl kf_X3_29 dX3_clear_32 (fun H32 locs hB hf hst32 => ?_)
        have mm1 := (th_F_o hf h0 ro_12 (j := 0) (by decide) (by decide)).trans g2_2
        have mm2 := (th_F_o hf h0 ro_12 (j := 1) (by decide) (by decide)).trans g2_3
        have mm3 := (th_F_o hf h0 ro_12 (j := 2) (by decide) (by decide)).trans g2_4
        have mm4 := (th_F_o hf h0 ro_12 (j := 3) (by decide) (by decide)).trans g2_5
        have mm5 := (th_F_o hf h0 ro_12 (j := 4) (by decide) (by decide)).trans g2_6
        have ka6 := tm_MAt g2_8 (th_T_s h0 ro_12 hst32)
        have ka7 := tm_MAt g2_9 (th_T_s h0 ro_12 hst32)
        have ka8 := tm_MAt g2_10 (th_T_s h0 ro_12 hst32)
        have ka9 := tm_MAt g2_11 (th_T_s h0 ro_12 hst32)
        have mm10 := hst32.2.1
        refine lv_aload_n hx hb dX3_clear_35 rfl (lv_at hl 0 rfl) ?_
        refine lv_iconst (v := 0) hx hb dX3_clear_36 (by decide) ?_
        refine th_put hC cf_X3 hB h0 (Or.inl h0) ro_12 rfl (j := 6) rfl (th_sI (by decide) (by decide)) (by decide) rfl narrow_b0 rfl kf_X3_32 dX3_clear_37 (fun H37 locs hB hf hst37 => ?_)
        have mm11 := (th_F_o hf h0 ro_12 (j := 0) (by decide) (by decide)).trans mm1
        have mm12 := (th_F_o hf h0 ro_12 (j := 1) (by decide) (by decide)).trans mm2
        have mm13 := (th_F_o hf h0 ro_12 (j := 2) (by decide) (by decide)).trans mm3
        have mm14 := (th_F_o hf h0 ro_12 (j := 3) (by decide) (by decide)).trans mm4
        have mm15 := (th_F_o hf h0 ro_12 (j := 4) (by decide) (by decide)).trans mm5
        have mm16 := (th_F_o hf h0 ro_12 (j := 5) (by decide) (by decide)).trans mm10
        have ka17 := tm_MAt ka6 (th_T_s h0 ro_12 hst37)
        have ka18 := tm_MAt ka7 (th_T_s h0 ro_12 hst37)
        have ka19 := tm_MAt ka8 (th_T_s h0 ro_12 hst37)
        have ka20 := tm_MAt ka9 (th_T_s h0 ro_12 hst37)
        have mm21 := hst37.2.1
        exact th_vret hC hH hr hlocks hB.2.1 ⟨rfl, hB.1, hB.2.2, th_RC_me hB.1 hR0 hB.2.2 (by decide) h0 ⟨_, _, _, _, _, (show th_ME G Γ H37 a0 10 b1 b2 b3 b4 from ⟨by decide, mm11, mm12, mm13, mm14, mm15, ⟨d12, d13, d14, d23, d24, d34⟩, ⟨_, ka17⟩, ⟨_, ka18⟩, ⟨_, ka19⟩, ⟨_, ka20, g2_12⟩, _, mm16, by have w9 := tk_0; omega, by have w9 := tk_0; omega⟩)⟩⟩ dX3_clear_40
      · refine lv_aload_n hx hb dX3_clear_10 rfl (lv_at hl 0 rfl) ?_
        refine th_getK hC cf_X3 hB.1 h0 ro_12 rfl (j := 1) (by decide) g2_3 kf_X3_15 dX3_clear_11 ?_
        refine lv_aload_n hx hb dX3_clear_14 rfl (lv_at hl 0 rfl) ?_
        refine th_getK hC cf_X3 hB.1 h0 ro_12 rfl (j := 4) (by decide) g2_6 kf_X3_26 dX3_clear_15 ?_
        refine lv_iload_n hx hb dX3_clear_18 rfl (lv_at hl 1 rfl) ?_
        refine tm_iald hC g2_11 (Eq.refl _) (by omega) (by omega) dX3_clear_19 (fun x22 ex22 => ?_)
        have fx22 := g2_12 (j2_1.toInt).toNat
        rw [← ex22] at fx22
        refine lv_ldc2 (v := (-1)) hx hb hC.2.2.2.1 (hC.2.2.2.2.1 _ kw_296) dX3_clear_20 ?_
        refine tm_last hC hB g2_8 (Eq.refl _) (by omega) (by omega) dX3_clear_23 (fun H23 locs hB ka23 oq23 => ?_)
        obtain ⟨fa24, ka23⟩ : ∃ g : Nat → Int64, th_MA G Γ H23 b1 1 1024 (fun i => .long (g i)) := ⟨_, ka23⟩
        have ka25 := tm_MAo g2_9 oq23 (fun e => d12 e.symm)
        have ka26 := tm_MAo g2_10 oq23 (fun e => d13 e.symm)
        have ka27 := tm_MAo g2_11 oq23 (fun e => d14 e.symm)
        have mm28 := (tm_slo h0 ro_12 g2_8 oq23 _).trans g2_2
        have mm29 := (tm_slo h0 ro_12 g2_8 oq23 _).trans g2_3
        have mm30 := (tm_slo h0 ro_12 g2_8 oq23 _).trans g2_4
        have mm31 := (tm_slo h0 ro_12 g2_8 oq23 _).trans g2_5
        have mm32 := (tm_slo h0 ro_12 g2_8 oq23 _).trans g2_6
        have mm33 := (tm_slo h0 ro_12 g2_8 oq23 _).trans g2_7
        refine tr_iinc (fun x34 => [(1, .int x34), (0, .ref a0)]) hx hb dX3_clear_24 hl (k := 1) rfl (Eq.refl _) tk_1 (by omega) (by omega) (by decide) (fun _ => rfl) (fun x34 ls ex34 hl => ?_)
        refine lv_goto (tgt := 2) hx hb dX3_clear_27 (by decide) ?_
        exact ih2 H23 locs ls x34 fa24 f2_2 f3_2 f4_2 hB (lv_sub hl [1, 0] rfl) (by omega) (by omega) mm28 mm29 mm30 mm31 mm32 mm33 ka23 ka25 ka26 ka27 g2_12 (by omega)
  exact lp2 ((2147483648 : Int) - (0)).toNat H0 [] ls 0 f1 f2 f3 f4 hB (lv_sub hl [1, 0] rfl) (by decide) (by decide) m0 m1 m2 m3 m4 mu k1 k2 k3 k4 r4 (by have w0 := tk_0; omega)

set_option maxHeartbeats 4000000 in
set_option maxRecDepth 100000 in
theorem c_X3_put_10 (l : Launch) (G : th_G) (Γ : th_Ga) (H0 : Heap) (hI : th_I G Γ H0) (a0 : Nat) (h0 : Γ a0 = (12, 0)) (p1 : Int64) (p2 : Int32) (p3 : Int32) (f3 : 0 ≤ p3.toInt) (g3 : p3.toInt ≤ 511) (b1 b2 b3 b4 : Nat) (hme : th_ME G Γ H0 a0 10 b1 b2 b3 b4) : Met l yX3_put (.code yX3_put cX3_put 6 (none) :: th_tb) ({ frames := 1, cells := 0, slots := 0, locals := 24 } : Room) (th_P [.ref a0, .long p1, .int p2, .int p3] G H0) (th_Q (fun (v : Option Value) (H1 : Heap) => v = none ∧ th_I G Γ H1 ∧ th_F G Γ [] H0 H1 ∧ (th_ME G Γ H1 a0 10 b1 b2 b3 b4) ∧ (th_FR [b1, b2, b3, b4] H0 H1)) G) 0 0 (fun q => G.2.2 ≤ q) := by
  refine th_met RX3 (by decide) rfl (Nat.le_of_ble_eq_true rfl) ?_
  intro p e s m below meth c hC hH hr hlocks hnm ls hl
  have hx := hC.1
  have hb := hC.2.1
  have hB : th_B G Γ Γ [] H0 H0 [] := ⟨hI, va_S.rf, th_F_rf⟩
  have hl : lv_has ls 6 [(0, .ref a0), (1, .long p1), (3, .int p2), (4, .int p3)] := hl
  have lp2 := ti_lo p2; have up2 := ti_hi p2
  have lp3 := ti_lo p3; have up3 := ti_hi p3
  obtain ⟨-, m0, m1, m2, m3, m4, ⟨d12, d13, d14, d23, d24, d34⟩, ⟨f1, k1⟩, ⟨f2, k2⟩, ⟨f3, k3⟩, ⟨f4, k4, r4⟩, u, mu, lu, uu⟩ := id hme
  have k1 : th_MA G Γ H0 b1 1 1024 (fun i => .long (f1 i)) := k1
  have k2 : th_MA G Γ H0 b2 0 1024 (fun i => .int (f2 i)) := k2
  have k3 : th_MA G Γ H0 b3 0 1024 (fun i => .int (f3 i)) := k3
  have k4 : th_MA G Γ H0 b4 0 512 (fun i => .int (f4 i)) := k4
  have r4 : ∀ i, 0 ≤ (f4 i).toInt ∧ (f4 i).toInt < 1024 := r4
  have uu : u.toInt ≤ 512 := uu
  skip
  have hfr : th_FR [b1, b2, b3, b4] H0 H0 := fun q _ => rfl
  refine lv_aload_n hx hb dX3_put_0 rfl (lv_at hl 0 rfl) ?_
  refine lv_lload_n hx hb dX3_put_1 rfl (lv_at hl 1 rfl) ?_
  refine th_call (th_runV (As := [.long p1]) (rest := []) hC mf_X3_slotFor km_X3_46 im_X3_slotFor se_X3_slotFor (c_X3_slotFor_10 l G Γ H0 hB.1 a0 h0 p1 b1 b2 b3 b4 (show th_ME G Γ H0 a0 10 b1 b2 b3 b4 from ⟨by decide, m0, m1, m2, m3, m4, ⟨d12, d13, d14, d23, d24, d34⟩, ⟨_, k1⟩, ⟨_, k2⟩, ⟨_, k3⟩, ⟨_, k4, r4⟩, _, mu, by omega, by omega⟩)) rfl rfl ⟨Nat.le_of_ble_eq_true rfl, Nat.le_of_ble_eq_true rfl⟩ hB.1 h0 ro_12 rfl rfl hl.1 rfl (Nat.le_of_ble_eq_true rfl) dX3_put_2 ⟨Nat.le_refl _, Nat.le_refl _⟩) hB.2.1 (fun v2 H2 locs hp hz hS => ?_)
  obtain ⟨x1, rfl, lx1, ux1, rfl⟩ := hp
  have hB := th_B_s hB hS
  refine W.eq (g2 := F0 m 5 ls [.int x1]) rfl ?_
  refine lv_istore (lv' := [(5, .int x1), (0, .ref a0), (1, .long p1), (3, .int p2), (4, .int p3)]) hx hb dX3_put_5 hl (by decide) rfl (fun ls hl => ?_)
  refine lv_aload_n hx hb dX3_put_7 rfl (lv_at hl 1 rfl) ?_
  refine th_getK hC cf_X3 hB.1 h0 ro_12 rfl (j := 1) (by decide) m1 kf_X3_15 dX3_put_8 ?_
  refine lv_iload hx hb dX3_put_11 (lv_at hl 0 rfl) ?_
  refine lv_lload_n hx hb dX3_put_13 rfl (lv_at hl 2 rfl) ?_
  refine tm_last hC hB k1 (Eq.refl _) (by omega) (by omega) dX3_put_14 (fun H14 locs hB ka2 oq14 => ?_)
  obtain ⟨fa3, ka2⟩ : ∃ g : Nat → Int64, th_MA G Γ H14 b1 1 1024 (fun i => .long (g i)) := ⟨_, ka2⟩
  have hfr := th_FR_st hfr oq14 (by simp)
  have ka4 := tm_MAo k2 oq14 (fun e => d12 e.symm)
  have ka5 := tm_MAo k3 oq14 (fun e => d13 e.symm)
  have ka6 := tm_MAo k4 oq14 (fun e => d14 e.symm)
  have mm7 := (tm_slo h0 ro_12 k1 oq14 _).trans m0
  have mm8 := (tm_slo h0 ro_12 k1 oq14 _).trans m1
  have mm9 := (tm_slo h0 ro_12 k1 oq14 _).trans m2
  have mm10 := (tm_slo h0 ro_12 k1 oq14 _).trans m3
  have mm11 := (tm_slo h0 ro_12 k1 oq14 _).trans m4
  have mm12 := (tm_slo h0 ro_12 k1 oq14 _).trans mu
  refine lv_aload_n hx hb dX3_put_15 rfl (lv_at hl 1 rfl) ?_
  refine th_getK hC cf_X3 hB.1 h0 ro_12 rfl (j := 2) (by decide) mm9 kf_X3_19 dX3_put_16 ?_
  refine lv_iload hx hb dX3_put_19 (lv_at hl 0 rfl) ?_
  refine lv_iload_n hx hb dX3_put_21 rfl (lv_at hl 3 rfl) ?_
  refine tm_iast hC hB ka4 (Eq.refl _) (by omega) (by omega) dX3_put_22 (fun H22 locs hB ka13 oq22 => ?_)
  obtain ⟨fa14, ka13⟩ : ∃ g : Nat → Int32, th_MA G Γ H22 b2 0 1024 (fun i => .int (g i)) := ⟨_, ka13⟩
  have hfr := th_FR_st hfr oq22 (by simp)
  have ka15 := tm_MAo ka2 oq22 (id d12)
  have ka16 := tm_MAo ka5 oq22 (fun e => d23 e.symm)
  have ka17 := tm_MAo ka6 oq22 (fun e => d24 e.symm)
  have mm18 := (tm_slo h0 ro_12 ka4 oq22 _).trans mm7
  have mm19 := (tm_slo h0 ro_12 ka4 oq22 _).trans mm8
  have mm20 := (tm_slo h0 ro_12 ka4 oq22 _).trans mm9
  have mm21 := (tm_slo h0 ro_12 ka4 oq22 _).trans mm10
  have mm22 := (tm_slo h0 ro_12 ka4 oq22 _).trans mm11
  have mm23 := (tm_slo h0 ro_12 ka4 oq22 _).trans mm12
  refine lv_aload_n hx hb dX3_put_23 rfl (lv_at hl 1 rfl) ?_
  refine th_getK hC cf_X3 hB.1 h0 ro_12 rfl (j := 3) (by decide) mm21 kf_X3_23 dX3_put_24 ?_
  refine lv_iload hx hb dX3_put_27 (lv_at hl 0 rfl) ?_
  refine lv_iconst (v := 0) hx hb dX3_put_29 (by decide) ?_
  refine tm_iast hC hB ka16 (Eq.refl _) (by omega) (by omega) dX3_put_30 (fun H30 locs hB ka24 oq30 => ?_)
  obtain ⟨fa25, ka24⟩ : ∃ g : Nat → Int32, th_MA G Γ H30 b3 0 1024 (fun i => .int (g i)) := ⟨_, ka24⟩
  have hfr := th_FR_st hfr oq30 (by simp)
  have ka26 := tm_MAo ka15 oq30 (id d13)
  have ka27 := tm_MAo ka13 oq30 (id d23)
  have ka28 := tm_MAo ka17 oq30 (fun e => d34 e.symm)
  have mm29 := (tm_slo h0 ro_12 ka16 oq30 _).trans mm18
  have mm30 := (tm_slo h0 ro_12 ka16 oq30 _).trans mm19
  have mm31 := (tm_slo h0 ro_12 ka16 oq30 _).trans mm20
  have mm32 := (tm_slo h0 ro_12 ka16 oq30 _).trans mm21
  have mm33 := (tm_slo h0 ro_12 ka16 oq30 _).trans mm22
  have mm34 := (tm_slo h0 ro_12 ka16 oq30 _).trans mm23
  refine lv_aload_n hx hb dX3_put_31 rfl (lv_at hl 1 rfl) ?_
  refine th_getK hC cf_X3 hB.1 h0 ro_12 rfl (j := 4) (by decide) mm33 kf_X3_26 dX3_put_32 ?_
  refine lv_iload hx hb dX3_put_35 (lv_at hl 4 rfl) ?_
  refine lv_iload hx hb dX3_put_37 (lv_at hl 0 rfl) ?_
  refine tm_iast hC hB ka28 (Eq.refl _) (by omega) (by omega) dX3_put_39 (fun H39 locs hB ka35 oq39 => ?_)
  obtain ⟨fa36, ka35, ra37⟩ : ∃ g : Nat → Int32, th_MA G Γ H39 b4 0 512 (fun i => .int (g i)) ∧ ∀ i, 0 ≤ (g i).toInt ∧ (g i).toInt < 1024 := ⟨_, ka35, fun i => by (try dsimp only); split; exact ⟨by omega, by omega⟩; exact r4 i⟩
  have hfr := th_FR_st hfr oq39 (by simp)
  have ka38 := tm_MAo ka26 oq39 (id d14)
  have ka39 := tm_MAo ka27 oq39 (id d24)
  have ka40 := tm_MAo ka24 oq39 (id d34)
  have mm41 := (tm_slo h0 ro_12 ka28 oq39 _).trans mm29
  have mm42 := (tm_slo h0 ro_12 ka28 oq39 _).trans mm30
  have mm43 := (tm_slo h0 ro_12 ka28 oq39 _).trans mm31
  have mm44 := (tm_slo h0 ro_12 ka28 oq39 _).trans mm32
  have mm45 := (tm_slo h0 ro_12 ka28 oq39 _).trans mm33
  have mm46 := (tm_slo h0 ro_12 ka28 oq39 _).trans mm34
  exact th_vret hC hH hr hlocks hB.2.1 ⟨rfl, hB.1, hB.2.2, (show th_ME G Γ H39 a0 10 b1 b2 b3 b4 from ⟨by decide, mm41, mm42, mm43, mm44, mm45, ⟨d12, d13, d14, d23, d24, d34⟩, ⟨_, ka38⟩, ⟨_, ka39⟩, ⟨_, ka40⟩, ⟨_, ka35, ra37⟩, _, mm46, by omega, by omega⟩), hfr⟩ dX3_put_40

set_option maxHeartbeats 4000000 in
set_option maxRecDepth 100000 in
theorem c_X3_slotFor_12 (l : Launch) (G : th_G) (Γ : th_Ga) (H0 : Heap) (hI : th_I G Γ H0) (a0 : Nat) (h0 : Γ a0 = (12, 0)) (p1 : Int64) (b1 b2 b3 b4 : Nat) (hme : th_ME G Γ H0 a0 12 b1 b2 b3 b4) : Met l yX3_slotFor (.code yX3_slotFor cX3_slotFor 5 (some FieldType.int) :: th_tb) ({ frames := 0, cells := 0, slots := 0, locals := 0 } : Room) (th_P [.ref a0, .long p1] G H0) (th_Q (fun (v : Option Value) (H1 : Heap) => ∃ r : Int32, v = some (.int r) ∧ 0 ≤ r.toInt ∧ r.toInt ≤ 4095 ∧ H0 = H1) G) 0 0 (fun q => G.2.2 ≤ q) := by
  refine th_met RX3 (by decide) rfl (Nat.le_of_ble_eq_true rfl) ?_
  intro p e s m below meth c hC hH hr hlocks hnm ls hl
  have hx := hC.1
  have hb := hC.2.1
  have hB : th_B G Γ Γ [] H0 H0 [] := ⟨hI, va_S.rf, th_F_rf⟩
  have hl : lv_has ls 5 [(0, .ref a0), (1, .long p1)] := hl
  obtain ⟨-, m0, m1, m2, m3, m4, ⟨d12, d13, d14, d23, d24, d34⟩, ⟨f1, k1⟩, ⟨f2, k2⟩, ⟨f3, k3⟩, ⟨f4, k4, r4⟩, u, mu, lu, uu⟩ := id hme
  have k1 : th_MA G Γ H0 b1 1 4096 (fun i => .long (f1 i)) := k1
  have k2 : th_MA G Γ H0 b2 0 4096 (fun i => .int (f2 i)) := k2
  have k3 : th_MA G Γ H0 b3 0 4096 (fun i => .int (f3 i)) := k3
  have k4 : th_MA G Γ H0 b4 0 2048 (fun i => .int (f4 i)) := k4
  have r4 : ∀ i, 0 ≤ (f4 i).toInt ∧ (f4 i).toInt < 4096 := r4
  have uu : u.toInt ≤ 2048 := uu
  skip
  refine lv_lload_n hx hb dX3_slotFor_0 rfl (lv_at hl 1 rfl) ?_
  refine lv_ldc2 (v := (-7046029254386353131)) hx hb hC.2.2.2.1 (hC.2.2.2.2.1 _ kw_937) dX3_slotFor_1 ?_
  refine lv_lmul hx hb dX3_slotFor_4 ?_
  refine lv_topl (fun y1 ey1 => ?_)
  refine lv_bipush (v := 64) hx hb dX3_slotFor_5 (by decide) ?_
  refine lv_aload_n hx hb dX3_slotFor_7 rfl (lv_at hl 0 rfl) ?_
  refine th_getK hC cf_X3 hB.1 h0 ro_12 rfl (j := 0) (by decide) m0 kf_X3_11 dX3_slotFor_8 ?_
  refine tr_isub hx hb dX3_slotFor_11 tk_64 tk_n12 (by omega) (by omega) (fun x2 ex2 => ?_)
  refine lv_lushr hx hb dX3_slotFor_12 rfl ?_
  refine lv_topl (fun y3 ey3 => ?_)
  refine lv_l2i hx hb dX3_slotFor_13 rfl ?_
  refine lv_topi (fun x4 ex4 => ?_)
  have lx4 := ti_lo x4; have ux4 := ti_hi x4
  have f13 := ti_hash 12 y1 (y := x2) (by omega) (by omega) (by omega)
  rw [← ey3, ← ex4] at f13
  refine lv_istore_n (lv' := [(3, .int x4), (0, .ref a0), (1, .long p1)]) hx hb dX3_slotFor_14 rfl hl (by decide) rfl (fun ls hl => ?_)
  refine lv_iconst (v := 0) hx hb dX3_slotFor_15 (by decide) ?_
  refine lv_istore (lv' := [(4, .int 0), (3, .int x4), (0, .ref a0), (1, .long p1)]) hx hb dX3_slotFor_16 hl (by decide) rfl (fun ls hl => ?_)
  have lp18 : ∀ (n18 : Nat) (locs : List Loc) (ls : Array Slot) (j18_3 : Int32) (j18_4 : Int32), th_B G Γ Γ [] H0 H0 locs → lv_has ls 5 [(0, .ref a0), (1, .long p1), (3, .int j18_3), (4, .int j18_4)] → 0 ≤ j18_3.toInt → j18_3.toInt ≤ 4095 → 0 ≤ j18_4.toInt → j18_4.toInt ≤ 8192 → (2147483648 : Int) - j18_4.toInt ≤ (n18 : Int) → W p l e ({ frames := 0, cells := 0, slots := 0, locals := 0 } : Room) s m ([.ref a0, .long p1] : List Value).toArray below meth c H0 locs 0 0 (MQ below (th_Q (fun (v : Option Value) (H1 : Heap) => ∃ r : Int32, v = some (.int r) ∧ 0 ≤ r.toInt ∧ r.toInt ≤ 4095 ∧ H0 = H1) G) ([.ref a0, .long p1] : List Value).toArray s 0 0 (fun q => G.2.2 ≤ q)) (F0 m 18 ls []) := by
    intro n18
    induction n18 with
    | zero => intro locs ls j18_3 j18_4 hB hl g18_0 g18_1 g18_2 g18_3 hm18; exact absurd hm18 (by have := ti_hi j18_4; omega)
    | succ n18 ih18 =>
      intro locs ls j18_3 j18_4 hB hl g18_0 g18_1 g18_2 g18_3 hm18
      have lj18_3 := ti_lo j18_3; have uj18_3 := ti_hi j18_3
      have lj18_4 := ti_lo j18_4; have uj18_4 := ti_hi j18_4
      have hm18 : (2147483648 : Int) - j18_4.toInt ≤ (n18 : Int) + 1 := by omega
      refine lv_iload hx hb dX3_slotFor_18 (lv_at hl 3 rfl) ?_
      refine lv_aload_n hx hb dX3_slotFor_20 rfl (lv_at hl 0 rfl) ?_
      refine th_getK hC cf_X3 hB.1 h0 ro_12 rfl (j := 1) (by decide) m1 kf_X3_15 dX3_slotFor_21 ?_
      refine tm_alen hC k1 rfl (by decide) dX3_slotFor_24 (fun x5 ex5 => ?_)
      refine tr_icmp_ge (tgt := 70) hx hb dX3_slotFor_25 (by decide) (Eq.refl _) (Eq.refl _) (fun c25 => ?_) (fun c25 => ?_)
      · refine lv_iload_n hx hb dX3_slotFor_70 rfl (lv_at hl 2 rfl) ?_
        exact th_iret hC hH hr hlocks rfl hB.2.1 ⟨_, rfl, by omega, by omega, rfl⟩ dX3_slotFor_71
      · refine lv_aload_n hx hb dX3_slotFor_28 rfl (lv_at hl 0 rfl) ?_
        refine th_getK hC cf_X3 hB.1 h0 ro_12 rfl (j := 1) (by decide) m1 kf_X3_15 dX3_slotFor_29 ?_
        refine lv_iload_n hx hb dX3_slotFor_32 rfl (lv_at hl 2 rfl) ?_
        refine tm_lald hC k1 (Eq.refl _) (by omega) (by omega) dX3_slotFor_33 (fun y6 ey6 => ?_)
        refine lv_ldc2 (v := (-1)) hx hb hC.2.2.2.1 (hC.2.2.2.2.1 _ kw_296) dX3_slotFor_34 ?_
        refine tr_lcmp hx hb dX3_slotFor_37 (fun x7 fx7 gx7 => ?_)
        refine tr_if_eq (tgt := 70) hx hb dX3_slotFor_38 (by decide) (Eq.refl _) (fun c38 => ?_) (fun c38 => ?_)
        · refine lv_iload_n hx hb dX3_slotFor_70 rfl (lv_at hl 2 rfl) ?_
          exact th_iret hC hH hr hlocks rfl hB.2.1 ⟨_, rfl, by omega, by omega, rfl⟩ dX3_slotFor_71
        · refine lv_aload_n hx hb dX3_slotFor_41 rfl (lv_at hl 0 rfl) ?_
          refine th_getK hC cf_X3 hB.1 h0 ro_12 rfl (j := 1) (by decide) m1 kf_X3_15 dX3_slotFor_42 ?_
          refine lv_iload_n hx hb dX3_slotFor_45 rfl (lv_at hl 2 rfl) ?_
          refine tm_lald hC k1 (Eq.refl _) (by omega) (by omega) dX3_slotFor_46 (fun y8 ey8 => ?_)
          refine lv_lload_n hx hb dX3_slotFor_47 rfl (lv_at hl 1 rfl) ?_
          refine tr_lcmp hx hb dX3_slotFor_48 (fun x9 fx9 gx9 => ?_)
          refine tr_if_eq (tgt := 70) hx hb dX3_slotFor_49 (by decide) (Eq.refl _) (fun c49 => ?_) (fun c49 => ?_)
          · refine lv_iload_n hx hb dX3_slotFor_70 rfl (lv_at hl 2 rfl) ?_
            exact th_iret hC hH hr hlocks rfl hB.2.1 ⟨_, rfl, by omega, by omega, rfl⟩ dX3_slotFor_71
          · refine lv_iload_n hx hb dX3_slotFor_52 rfl (lv_at hl 2 rfl) ?_
            refine lv_iconst (v := 1) hx hb dX3_slotFor_53 (by decide) ?_
            refine tr_iadd hx hb dX3_slotFor_54 (Eq.refl _) tk_1 (by omega) (by omega) (fun x10 ex10 => ?_)
            refine lv_aload_n hx hb dX3_slotFor_55 rfl (lv_at hl 0 rfl) ?_
            refine th_getK hC cf_X3 hB.1 h0 ro_12 rfl (j := 1) (by decide) m1 kf_X3_15 dX3_slotFor_56 ?_
            refine tm_alen hC k1 rfl (by decide) dX3_slotFor_59 (fun x11 ex11 => ?_)
            refine lv_iconst (v := 1) hx hb dX3_slotFor_60 (by decide) ?_
            refine tr_isub hx hb dX3_slotFor_61 (Eq.refl _) tk_1 (by omega) (by omega) (fun x12 ex12 => ?_)
            refine lv_iand hx hb dX3_slotFor_62 ?_
            refine lv_topi (fun x13 ex13 => ?_)
            have lx13 := ti_lo x13; have ux13 := ti_hi x13
            have hx13 : x12 = 4095 := Int32.toInt_inj.mp (by rw [show x12.toInt = 4095 by omega]; rfl)
            have fx13 := ti_and x10 12 (m := 4095) (by decide) (by decide)
            rw [← hx13, ← ex13] at fx13
            refine lv_istore_n (lv' := [(3, .int x13), (0, .ref a0), (1, .long p1), (4, .int j18_4)]) hx hb dX3_slotFor_63 rfl hl (by decide) rfl (fun ls hl => ?_)
            refine tr_iinc (fun x14 => [(4, .int x14), (3, .int x13), (0, .ref a0), (1, .long p1)]) hx hb dX3_slotFor_64 hl (k := 3) rfl (Eq.refl _) tk_1 (by omega) (by omega) (by decide) (fun _ => rfl) (fun x14 ls ex14 hl => ?_)
            refine lv_goto (tgt := 18) hx hb dX3_slotFor_67 (by decide) ?_
            exact ih18 locs ls x13 x14 hB (lv_sub hl [2, 3, 1, 0] rfl) (by omega) (by omega) (by omega) (by omega) (by omega)
  exact lp18 ((2147483648 : Int) - (0)).toNat [] ls x4 0 hB (lv_sub hl [2, 3, 1, 0] rfl) (by omega) (by omega) (by decide) (by decide) (by have w0 := tk_0; omega)

set_option maxHeartbeats 4000000 in
set_option maxRecDepth 100000 in
theorem c_X3_find_12 (l : Launch) (G : th_G) (Γ : th_Ga) (H0 : Heap) (hI : th_I G Γ H0) (a0 : Nat) (h0 : Γ a0 = (12, 0)) (p1 : Int64) (b1 b2 b3 b4 : Nat) (hme : th_ME G Γ H0 a0 12 b1 b2 b3 b4) : Met l yX3_find (.code yX3_find cX3_find 4 (some FieldType.int) :: th_tb) ({ frames := 1, cells := 0, slots := 0, locals := 24 } : Room) (th_P [.ref a0, .long p1] G H0) (th_Q (fun (v : Option Value) (H1 : Heap) => ∃ r : Int32, v = some (.int r) ∧ (-1) ≤ r.toInt ∧ r.toInt ≤ 16383 ∧ H0 = H1) G) 0 0 (fun q => G.2.2 ≤ q) := by
  refine th_met RX3 (by decide) rfl (Nat.le_of_ble_eq_true rfl) ?_
  intro p e s m below meth c hC hH hr hlocks hnm ls hl
  have hx := hC.1
  have hb := hC.2.1
  have hB : th_B G Γ Γ [] H0 H0 [] := ⟨hI, va_S.rf, th_F_rf⟩
  have hl : lv_has ls 4 [(0, .ref a0), (1, .long p1)] := hl
  obtain ⟨-, m0, m1, m2, m3, m4, ⟨d12, d13, d14, d23, d24, d34⟩, ⟨f1, k1⟩, ⟨f2, k2⟩, ⟨f3, k3⟩, ⟨f4, k4, r4⟩, u, mu, lu, uu⟩ := id hme
  have k1 : th_MA G Γ H0 b1 1 4096 (fun i => .long (f1 i)) := k1
  have k2 : th_MA G Γ H0 b2 0 4096 (fun i => .int (f2 i)) := k2
  have k3 : th_MA G Γ H0 b3 0 4096 (fun i => .int (f3 i)) := k3
  have k4 : th_MA G Γ H0 b4 0 2048 (fun i => .int (f4 i)) := k4
  have r4 : ∀ i, 0 ≤ (f4 i).toInt ∧ (f4 i).toInt < 4096 := r4
  have uu : u.toInt ≤ 2048 := uu
  skip
  refine lv_aload_n hx hb dX3_find_0 rfl (lv_at hl 0 rfl) ?_
  refine lv_lload_n hx hb dX3_find_1 rfl (lv_at hl 1 rfl) ?_
  refine th_call (th_runV (As := [.long p1]) (rest := []) hC mf_X3_slotFor km_X3_46 im_X3_slotFor se_X3_slotFor (c_X3_slotFor_12 l G Γ H0 hB.1 a0 h0 p1 b1 b2 b3 b4 (show th_ME G Γ H0 a0 12 b1 b2 b3 b4 from ⟨by decide, m0, m1, m2, m3, m4, ⟨d12, d13, d14, d23, d24, d34⟩, ⟨_, k1⟩, ⟨_, k2⟩, ⟨_, k3⟩, ⟨_, k4, r4⟩, _, mu, by omega, by omega⟩)) rfl rfl ⟨Nat.le_of_ble_eq_true rfl, Nat.le_of_ble_eq_true rfl⟩ hB.1 h0 ro_12 rfl rfl hl.1 rfl (Nat.le_of_ble_eq_true rfl) dX3_find_2 ⟨Nat.le_refl _, Nat.le_refl _⟩) hB.2.1 (fun v2 H2 locs hp hz hS => ?_)
  obtain ⟨x1, rfl, lx1, ux1, rfl⟩ := hp
  have hB := th_B_s hB hS
  refine W.eq (g2 := F0 m 5 ls [.int x1]) rfl ?_
  refine lv_istore_n (lv' := [(3, .int x1), (0, .ref a0), (1, .long p1)]) hx hb dX3_find_5 rfl hl (by decide) rfl (fun ls hl => ?_)
  refine lv_aload_n hx hb dX3_find_6 rfl (lv_at hl 1 rfl) ?_
  refine th_getK hC cf_X3 hB.1 h0 ro_12 rfl (j := 1) (by decide) m1 kf_X3_15 dX3_find_7 ?_
  refine lv_iload_n hx hb dX3_find_10 rfl (lv_at hl 0 rfl) ?_
  refine tm_lald hC k1 (Eq.refl _) (by omega) (by omega) dX3_find_11 (fun y2 ey2 => ?_)
  refine lv_lload_n hx hb dX3_find_12 rfl (lv_at hl 2 rfl) ?_
  refine tr_lcmp hx hb dX3_find_13 (fun x3 fx3 gx3 => ?_)
  refine tr_if_ne (tgt := 21) hx hb dX3_find_14 (by decide) (Eq.refl _) (fun c14 => ?_) (fun c14 => ?_)
  · refine lv_iconst (v := (-1)) hx hb dX3_find_21 (by decide) ?_
    exact th_iret hC hH hr hlocks rfl hB.2.1 ⟨_, rfl, by decide, by decide, rfl⟩ dX3_find_22
  · refine lv_iload_n hx hb dX3_find_17 rfl (lv_at hl 0 rfl) ?_
    refine lv_goto (tgt := 22) hx hb dX3_find_18 (by decide) ?_
    exact th_iret hC hH hr hlocks rfl hB.2.1 ⟨_, rfl, by omega, by omega, rfl⟩ dX3_find_22

set_option maxHeartbeats 4000000 in
set_option maxRecDepth 100000 in
theorem c_X3_slotOfNth_12 (l : Launch) (G : th_G) (Γ : th_Ga) (H0 : Heap) (hI : th_I G Γ H0) (a0 : Nat) (h0 : Γ a0 = (12, 0)) (p1 : Int32) (b1 b2 b3 b4 : Nat) (hme : th_ME G Γ H0 a0 12 b1 b2 b3 b4) : Met l yX3_slotOfNth (.code yX3_slotOfNth cX3_slotOfNth 2 (some FieldType.int) :: th_tb) ({ frames := 0, cells := 0, slots := 0, locals := 0 } : Room) (th_P [.ref a0, .int p1] G H0) (th_Q (fun (v : Option Value) (H1 : Heap) => ∃ r : Int32, v = some (.int r) ∧ H0 = H1) G) 0 0 (fun q => G.2.2 ≤ q) := by
  refine th_met RX3 (by decide) rfl (Nat.le_of_ble_eq_true rfl) ?_
  intro p e s m below meth c hC hH hr hlocks hnm ls hl
  have hx := hC.1
  have hb := hC.2.1
  have hB : th_B G Γ Γ [] H0 H0 [] := ⟨hI, va_S.rf, th_F_rf⟩
  have hl : lv_has ls 2 [(0, .ref a0), (1, .int p1)] := hl
  have lp1 := ti_lo p1; have up1 := ti_hi p1
  obtain ⟨-, m0, m1, m2, m3, m4, ⟨d12, d13, d14, d23, d24, d34⟩, ⟨f1, k1⟩, ⟨f2, k2⟩, ⟨f3, k3⟩, ⟨f4, k4, r4⟩, u, mu, lu, uu⟩ := id hme
  have k1 : th_MA G Γ H0 b1 1 4096 (fun i => .long (f1 i)) := k1
  have k2 : th_MA G Γ H0 b2 0 4096 (fun i => .int (f2 i)) := k2
  have k3 : th_MA G Γ H0 b3 0 4096 (fun i => .int (f3 i)) := k3
  have k4 : th_MA G Γ H0 b4 0 2048 (fun i => .int (f4 i)) := k4
  have r4 : ∀ i, 0 ≤ (f4 i).toInt ∧ (f4 i).toInt < 4096 := r4
  have uu : u.toInt ≤ 2048 := uu
  skip
  refine lv_iload_n hx hb dX3_slotOfNth_0 rfl (lv_at hl 1 rfl) ?_
  refine tr_if_lt (tgt := 21) hx hb dX3_slotOfNth_1 (by decide) (Eq.refl _) (fun c1 => ?_) (fun c1 => ?_)
  · refine lv_iconst (v := (-1)) hx hb dX3_slotOfNth_21 (by decide) ?_
    exact th_iret hC hH hr hlocks rfl hB.2.1 ⟨_, rfl, rfl⟩ dX3_slotOfNth_22
  · refine lv_iload_n hx hb dX3_slotOfNth_4 rfl (lv_at hl 1 rfl) ?_
    refine lv_aload_n hx hb dX3_slotOfNth_5 rfl (lv_at hl 0 rfl) ?_
    refine th_getK hC cf_X3 hB.1 h0 ro_12 rfl (j := 5) (by decide) mu kf_X3_29 dX3_slotOfNth_6 ?_
    refine tr_icmp_ge (tgt := 21) hx hb dX3_slotOfNth_9 (by decide) (Eq.refl _) (Eq.refl _) (fun c9 => ?_) (fun c9 => ?_)
    · refine lv_iconst (v := (-1)) hx hb dX3_slotOfNth_21 (by decide) ?_
      exact th_iret hC hH hr hlocks rfl hB.2.1 ⟨_, rfl, rfl⟩ dX3_slotOfNth_22
    · refine lv_aload_n hx hb dX3_slotOfNth_12 rfl (lv_at hl 0 rfl) ?_
      refine th_getK hC cf_X3 hB.1 h0 ro_12 rfl (j := 4) (by decide) m4 kf_X3_26 dX3_slotOfNth_13 ?_
      refine lv_iload_n hx hb dX3_slotOfNth_16 rfl (lv_at hl 1 rfl) ?_
      refine tm_iald hC k4 (Eq.refl _) (by omega) (by omega) dX3_slotOfNth_17 (fun x1 ex1 => ?_)
      have fx1 := r4 (p1.toInt).toNat
      rw [← ex1] at fx1
      refine lv_goto (tgt := 22) hx hb dX3_slotOfNth_18 (by decide) ?_
      exact th_iret hC hH hr hlocks rfl hB.2.1 ⟨_, rfl, rfl⟩ dX3_slotOfNth_22

set_option maxHeartbeats 4000000 in
set_option maxRecDepth 100000 in
theorem c_X3_valueIn_12 (l : Launch) (G : th_G) (Γ : th_Ga) (H0 : Heap) (hI : th_I G Γ H0) (a0 : Nat) (h0 : Γ a0 = (12, 0)) (p1 : Int32) (b1 b2 b3 b4 : Nat) (hme : th_ME G Γ H0 a0 12 b1 b2 b3 b4) : Met l yX3_valueIn (.code yX3_valueIn cX3_valueIn 2 (some FieldType.int) :: th_tb) ({ frames := 0, cells := 0, slots := 0, locals := 0 } : Room) (th_P [.ref a0, .int p1] G H0) (th_Q (fun (v : Option Value) (H1 : Heap) => ∃ r : Int32, v = some (.int r) ∧ H0 = H1) G) 0 0 (fun q => G.2.2 ≤ q) := by
  refine th_met RX3 (by decide) rfl (Nat.le_of_ble_eq_true rfl) ?_
  intro p e s m below meth c hC hH hr hlocks hnm ls hl
  have hx := hC.1
  have hb := hC.2.1
  have hB : th_B G Γ Γ [] H0 H0 [] := ⟨hI, va_S.rf, th_F_rf⟩
  have hl : lv_has ls 2 [(0, .ref a0), (1, .int p1)] := hl
  have lp1 := ti_lo p1; have up1 := ti_hi p1
  obtain ⟨-, m0, m1, m2, m3, m4, ⟨d12, d13, d14, d23, d24, d34⟩, ⟨f1, k1⟩, ⟨f2, k2⟩, ⟨f3, k3⟩, ⟨f4, k4, r4⟩, u, mu, lu, uu⟩ := id hme
  have k1 : th_MA G Γ H0 b1 1 4096 (fun i => .long (f1 i)) := k1
  have k2 : th_MA G Γ H0 b2 0 4096 (fun i => .int (f2 i)) := k2
  have k3 : th_MA G Γ H0 b3 0 4096 (fun i => .int (f3 i)) := k3
  have k4 : th_MA G Γ H0 b4 0 2048 (fun i => .int (f4 i)) := k4
  have r4 : ∀ i, 0 ≤ (f4 i).toInt ∧ (f4 i).toInt < 4096 := r4
  have uu : u.toInt ≤ 2048 := uu
  skip
  refine lv_iload_n hx hb dX3_valueIn_0 rfl (lv_at hl 1 rfl) ?_
  refine tr_if_lt (tgt := 22) hx hb dX3_valueIn_1 (by decide) (Eq.refl _) (fun c1 => ?_) (fun c1 => ?_)
  · refine lv_iconst (v := 0) hx hb dX3_valueIn_22 (by decide) ?_
    exact th_iret hC hH hr hlocks rfl hB.2.1 ⟨_, rfl, rfl⟩ dX3_valueIn_23
  · refine lv_iload_n hx hb dX3_valueIn_4 rfl (lv_at hl 1 rfl) ?_
    refine lv_aload_n hx hb dX3_valueIn_5 rfl (lv_at hl 0 rfl) ?_
    refine th_getK hC cf_X3 hB.1 h0 ro_12 rfl (j := 2) (by decide) m2 kf_X3_19 dX3_valueIn_6 ?_
    refine tm_alen hC k2 rfl (by decide) dX3_valueIn_9 (fun x1 ex1 => ?_)
    refine tr_icmp_ge (tgt := 22) hx hb dX3_valueIn_10 (by decide) (Eq.refl _) (Eq.refl _) (fun c10 => ?_) (fun c10 => ?_)
    · refine lv_iconst (v := 0) hx hb dX3_valueIn_22 (by decide) ?_
      exact th_iret hC hH hr hlocks rfl hB.2.1 ⟨_, rfl, rfl⟩ dX3_valueIn_23
    · refine lv_aload_n hx hb dX3_valueIn_13 rfl (lv_at hl 0 rfl) ?_
      refine th_getK hC cf_X3 hB.1 h0 ro_12 rfl (j := 2) (by decide) m2 kf_X3_19 dX3_valueIn_14 ?_
      refine lv_iload_n hx hb dX3_valueIn_17 rfl (lv_at hl 1 rfl) ?_
      refine tm_iald hC k2 (Eq.refl _) (by omega) (by omega) dX3_valueIn_18 (fun x2 ex2 => ?_)
      have lx2 := ti_lo x2; have ux2 := ti_hi x2
      refine lv_goto (tgt := 23) hx hb dX3_valueIn_19 (by decide) ?_
      exact th_iret hC hH hr hlocks rfl hB.2.1 ⟨_, rfl, rfl⟩ dX3_valueIn_23

set_option maxHeartbeats 4000000 in
set_option maxRecDepth 100000 in
theorem c_X3_flowIn_12 (l : Launch) (G : th_G) (Γ : th_Ga) (H0 : Heap) (hI : th_I G Γ H0) (a0 : Nat) (h0 : Γ a0 = (12, 0)) (p1 : Int32) (b1 b2 b3 b4 : Nat) (hme : th_ME G Γ H0 a0 12 b1 b2 b3 b4) : Met l yX3_flowIn (.code yX3_flowIn cX3_flowIn 2 (some FieldType.int) :: th_tb) ({ frames := 0, cells := 0, slots := 0, locals := 0 } : Room) (th_P [.ref a0, .int p1] G H0) (th_Q (fun (v : Option Value) (H1 : Heap) => ∃ r : Int32, v = some (.int r) ∧ H0 = H1) G) 0 0 (fun q => G.2.2 ≤ q) := by
  refine th_met RX3 (by decide) rfl (Nat.le_of_ble_eq_true rfl) ?_
  intro p e s m below meth c hC hH hr hlocks hnm ls hl
  have hx := hC.1
  have hb := hC.2.1
  have hB : th_B G Γ Γ [] H0 H0 [] := ⟨hI, va_S.rf, th_F_rf⟩
  have hl : lv_has ls 2 [(0, .ref a0), (1, .int p1)] := hl
  have lp1 := ti_lo p1; have up1 := ti_hi p1
  obtain ⟨-, m0, m1, m2, m3, m4, ⟨d12, d13, d14, d23, d24, d34⟩, ⟨f1, k1⟩, ⟨f2, k2⟩, ⟨f3, k3⟩, ⟨f4, k4, r4⟩, u, mu, lu, uu⟩ := id hme
  have k1 : th_MA G Γ H0 b1 1 4096 (fun i => .long (f1 i)) := k1
  have k2 : th_MA G Γ H0 b2 0 4096 (fun i => .int (f2 i)) := k2
  have k3 : th_MA G Γ H0 b3 0 4096 (fun i => .int (f3 i)) := k3
  have k4 : th_MA G Γ H0 b4 0 2048 (fun i => .int (f4 i)) := k4
  have r4 : ∀ i, 0 ≤ (f4 i).toInt ∧ (f4 i).toInt < 4096 := r4
  have uu : u.toInt ≤ 2048 := uu
  skip
  refine lv_iload_n hx hb dX3_flowIn_0 rfl (lv_at hl 1 rfl) ?_
  refine tr_if_lt (tgt := 22) hx hb dX3_flowIn_1 (by decide) (Eq.refl _) (fun c1 => ?_) (fun c1 => ?_)
  · refine lv_iconst (v := 0) hx hb dX3_flowIn_22 (by decide) ?_
    exact th_iret hC hH hr hlocks rfl hB.2.1 ⟨_, rfl, rfl⟩ dX3_flowIn_23
  · refine lv_iload_n hx hb dX3_flowIn_4 rfl (lv_at hl 1 rfl) ?_
    refine lv_aload_n hx hb dX3_flowIn_5 rfl (lv_at hl 0 rfl) ?_
    refine th_getK hC cf_X3 hB.1 h0 ro_12 rfl (j := 3) (by decide) m3 kf_X3_23 dX3_flowIn_6 ?_
    refine tm_alen hC k3 rfl (by decide) dX3_flowIn_9 (fun x1 ex1 => ?_)
    refine tr_icmp_ge (tgt := 22) hx hb dX3_flowIn_10 (by decide) (Eq.refl _) (Eq.refl _) (fun c10 => ?_) (fun c10 => ?_)
    · refine lv_iconst (v := 0) hx hb dX3_flowIn_22 (by decide) ?_
      exact th_iret hC hH hr hlocks rfl hB.2.1 ⟨_, rfl, rfl⟩ dX3_flowIn_23
    · refine lv_aload_n hx hb dX3_flowIn_13 rfl (lv_at hl 0 rfl) ?_
      refine th_getK hC cf_X3 hB.1 h0 ro_12 rfl (j := 3) (by decide) m3 kf_X3_23 dX3_flowIn_14 ?_
      refine lv_iload_n hx hb dX3_flowIn_17 rfl (lv_at hl 1 rfl) ?_
      refine tm_iald hC k3 (Eq.refl _) (by omega) (by omega) dX3_flowIn_18 (fun x2 ex2 => ?_)
      have lx2 := ti_lo x2; have ux2 := ti_hi x2
      refine lv_goto (tgt := 23) hx hb dX3_flowIn_19 (by decide) ?_
      exact th_iret hC hH hr hlocks rfl hB.2.1 ⟨_, rfl, rfl⟩ dX3_flowIn_23

set_option maxHeartbeats 4000000 in
set_option maxRecDepth 100000 in
theorem c_X3_keyIn_12 (l : Launch) (G : th_G) (Γ : th_Ga) (H0 : Heap) (hI : th_I G Γ H0) (a0 : Nat) (h0 : Γ a0 = (12, 0)) (p1 : Int32) (b1 b2 b3 b4 : Nat) (hme : th_ME G Γ H0 a0 12 b1 b2 b3 b4) : Met l yX3_keyIn (.code yX3_keyIn cX3_keyIn 2 (some FieldType.long) :: th_tb) ({ frames := 0, cells := 0, slots := 0, locals := 0 } : Room) (th_P [.ref a0, .int p1] G H0) (th_Q (fun (v : Option Value) (H1 : Heap) => ∃ r : Int64, v = some (.long r) ∧ H0 = H1) G) 0 0 (fun q => G.2.2 ≤ q) := by
  refine th_met RX3 (by decide) rfl (Nat.le_of_ble_eq_true rfl) ?_
  intro p e s m below meth c hC hH hr hlocks hnm ls hl
  have hx := hC.1
  have hb := hC.2.1
  have hB : th_B G Γ Γ [] H0 H0 [] := ⟨hI, va_S.rf, th_F_rf⟩
  have hl : lv_has ls 2 [(0, .ref a0), (1, .int p1)] := hl
  have lp1 := ti_lo p1; have up1 := ti_hi p1
  obtain ⟨-, m0, m1, m2, m3, m4, ⟨d12, d13, d14, d23, d24, d34⟩, ⟨f1, k1⟩, ⟨f2, k2⟩, ⟨f3, k3⟩, ⟨f4, k4, r4⟩, u, mu, lu, uu⟩ := id hme
  have k1 : th_MA G Γ H0 b1 1 4096 (fun i => .long (f1 i)) := k1
  have k2 : th_MA G Γ H0 b2 0 4096 (fun i => .int (f2 i)) := k2
  have k3 : th_MA G Γ H0 b3 0 4096 (fun i => .int (f3 i)) := k3
  have k4 : th_MA G Γ H0 b4 0 2048 (fun i => .int (f4 i)) := k4
  have r4 : ∀ i, 0 ≤ (f4 i).toInt ∧ (f4 i).toInt < 4096 := r4
  have uu : u.toInt ≤ 2048 := uu
  skip
  refine lv_iload_n hx hb dX3_keyIn_0 rfl (lv_at hl 1 rfl) ?_
  refine tr_if_lt (tgt := 22) hx hb dX3_keyIn_1 (by decide) (Eq.refl _) (fun c1 => ?_) (fun c1 => ?_)
  · refine lv_ldc2 (v := (-1)) hx hb hC.2.2.2.1 (hC.2.2.2.2.1 _ kw_296) dX3_keyIn_22 ?_
    exact th_lret hC hH hr hlocks hB.2.1 ⟨_, rfl, rfl⟩ dX3_keyIn_25
  · refine lv_iload_n hx hb dX3_keyIn_4 rfl (lv_at hl 1 rfl) ?_
    refine lv_aload_n hx hb dX3_keyIn_5 rfl (lv_at hl 0 rfl) ?_
    refine th_getK hC cf_X3 hB.1 h0 ro_12 rfl (j := 1) (by decide) m1 kf_X3_15 dX3_keyIn_6 ?_
    refine tm_alen hC k1 rfl (by decide) dX3_keyIn_9 (fun x1 ex1 => ?_)
    refine tr_icmp_ge (tgt := 22) hx hb dX3_keyIn_10 (by decide) (Eq.refl _) (Eq.refl _) (fun c10 => ?_) (fun c10 => ?_)
    · refine lv_ldc2 (v := (-1)) hx hb hC.2.2.2.1 (hC.2.2.2.2.1 _ kw_296) dX3_keyIn_22 ?_
      exact th_lret hC hH hr hlocks hB.2.1 ⟨_, rfl, rfl⟩ dX3_keyIn_25
    · refine lv_aload_n hx hb dX3_keyIn_13 rfl (lv_at hl 0 rfl) ?_
      refine th_getK hC cf_X3 hB.1 h0 ro_12 rfl (j := 1) (by decide) m1 kf_X3_15 dX3_keyIn_14 ?_
      refine lv_iload_n hx hb dX3_keyIn_17 rfl (lv_at hl 1 rfl) ?_
      refine tm_lald hC k1 (Eq.refl _) (by omega) (by omega) dX3_keyIn_18 (fun y2 ey2 => ?_)
      refine lv_goto (tgt := 25) hx hb dX3_keyIn_19 (by decide) ?_
      exact th_lret hC hH hr hlocks hB.2.1 ⟨_, rfl, rfl⟩ dX3_keyIn_25

set_option maxHeartbeats 4000000 in
set_option maxRecDepth 100000 in
theorem c_X3_addFlow_12 (l : Launch) (G : th_G) (Γ : th_Ga) (H0 : Heap) (hI : th_I G Γ H0) (hR : th_RC G Γ H0) (a0 : Nat) (h0 : Γ a0 = (12, 0)) (p1 : Int32) (p2 : Int32) (b1 b2 b3 b4 : Nat) (hme : th_ME G Γ H0 a0 12 b1 b2 b3 b4) : Met l yX3_addFlow (.code yX3_addFlow cX3_addFlow 3 (none) :: th_tb) ({ frames := 0, cells := 0, slots := 0, locals := 0 } : Room) (th_P [.ref a0, .int p1, .int p2] G H0) (th_Q (fun (v : Option Value) (H1 : Heap) => v = none ∧ th_I G Γ H1 ∧ th_F G Γ [] H0 H1 ∧ th_RC G Γ H1) G) 0 0 (fun q => G.2.2 ≤ q) := by
  refine th_met RX3 (by decide) rfl (Nat.le_of_ble_eq_true rfl) ?_
  intro p e s m below meth c hC hH hr hlocks hnm ls hl
  have hx := hC.1
  have hb := hC.2.1
  have hB : th_B G Γ Γ [] H0 H0 [] := ⟨hI, va_S.rf, th_F_rf⟩
  have hl : lv_has ls 3 [(0, .ref a0), (1, .int p1), (2, .int p2)] := hl
  have lp1 := ti_lo p1; have up1 := ti_hi p1
  have lp2 := ti_lo p2; have up2 := ti_hi p2
  obtain ⟨-, m0, m1, m2, m3, m4, ⟨d12, d13, d14, d23, d24, d34⟩, ⟨f1, k1⟩, ⟨f2, k2⟩, ⟨f3, k3⟩, ⟨f4, k4, r4⟩, u, mu, lu, uu⟩ := id hme
  have k1 : th_MA G Γ H0 b1 1 4096 (fun i => .long (f1 i)) := k1
  have k2 : th_MA G Γ H0 b2 0 4096 (fun i => .int (f2 i)) := k2
  have k3 : th_MA G Γ H0 b3 0 4096 (fun i => .int (f3 i)) := k3
  have k4 : th_MA G Γ H0 b4 0 2048 (fun i => .int (f4 i)) := k4
  have r4 : ∀ i, 0 ≤ (f4 i).toInt ∧ (f4 i).toInt < 4096 := r4
  have uu : u.toInt ≤ 2048 := uu
  have hR0 := hR
  refine lv_iload_n hx hb dX3_addFlow_0 rfl (lv_at hl 1 rfl) ?_
  refine tr_if_lt (tgt := 23) hx hb dX3_addFlow_1 (by decide) (Eq.refl _) (fun c1 => ?_) (fun c1 => ?_)
  · exact th_vret hC hH hr hlocks hB.2.1 ⟨rfl, hB.1, hB.2.2, hR⟩ dX3_addFlow_23
  · refine lv_iload_n hx hb dX3_addFlow_4 rfl (lv_at hl 1 rfl) ?_
    refine lv_aload_n hx hb dX3_addFlow_5 rfl (lv_at hl 0 rfl) ?_
    refine th_getK hC cf_X3 hB.1 h0 ro_12 rfl (j := 3) (by decide) m3 kf_X3_23 dX3_addFlow_6 ?_
    refine tm_alen hC k3 rfl (by decide) dX3_addFlow_9 (fun x1 ex1 => ?_)
    refine tr_icmp_ge (tgt := 23) hx hb dX3_addFlow_10 (by decide) (Eq.refl _) (Eq.refl _) (fun c10 => ?_) (fun c10 => ?_)
    · exact th_vret hC hH hr hlocks hB.2.1 ⟨rfl, hB.1, hB.2.2, hR⟩ dX3_addFlow_23
    · refine lv_aload_n hx hb dX3_addFlow_13 rfl (lv_at hl 0 rfl) ?_
      refine th_getK hC cf_X3 hB.1 h0 ro_12 rfl (j := 3) (by decide) m3 kf_X3_23 dX3_addFlow_14 ?_
      refine lv_iload_n hx hb dX3_addFlow_17 rfl (lv_at hl 1 rfl) ?_
      refine lv_dup2_11 hx hb dX3_addFlow_18 rfl rfl ?_
      refine tm_iald hC k3 (Eq.refl _) (by omega) (by omega) dX3_addFlow_19 (fun x2 ex2 => ?_)
      have lx2 := ti_lo x2; have ux2 := ti_hi x2
      refine lv_iload_n hx hb dX3_addFlow_20 rfl (lv_at hl 2 rfl) ?_
      refine lv_iadd hx hb dX3_addFlow_21 ?_
      refine lv_topi (fun x3 ex3 => ?_)
      have lx3 := ti_lo x3; have ux3 := ti_hi x3
      refine tm_iast hC hB k3 (Eq.refl _) (by omega) (by omega) dX3_addFlow_22 (fun H22 locs hB ka4 oq22 => ?_)
      obtain ⟨fa5, ka4⟩ : ∃ g : Nat → Int32, th_MA G Γ H22 b3 0 4096 (fun i => .int (g i)) := ⟨_, ka4⟩
      have ka6 := tm_MAo k1 oq22 (id d13)
      have ka7 := tm_MAo k2 oq22 (id d23)
      have ka8 := tm_MAo k4 oq22 (fun e => d34 e.symm)
      have mm9 := (tm_slo h0 ro_12 k3 oq22 _).trans m0
      have mm10 := (tm_slo h0 ro_12 k3 oq22 _).trans m1
      have mm11 := (tm_slo h0 ro_12 k3 oq22 _).trans m2
      have mm12 := (tm_slo h0 ro_12 k3 oq22 _).trans m3
      have mm13 := (tm_slo h0 ro_12 k3 oq22 _).trans m4
      have mm14 := (tm_slo h0 ro_12 k3 oq22 _).trans mu
      exact th_vret hC hH hr hlocks hB.2.1 ⟨rfl, hB.1, hB.2.2, th_RC_me hB.1 hR0 hB.2.2 (by decide) h0 ⟨_, _, _, _, _, (show th_ME G Γ H22 a0 12 b1 b2 b3 b4 from ⟨by decide, mm9, mm10, mm11, mm12, mm13, ⟨d12, d13, d14, d23, d24, d34⟩, ⟨_, ka6⟩, ⟨_, ka7⟩, ⟨_, ka4⟩, ⟨_, ka8, r4⟩, _, mm14, by omega, by omega⟩)⟩⟩ dX3_addFlow_23

set_option maxHeartbeats 4000000 in
set_option maxRecDepth 100000 in
theorem c_X3_clear_12 (l : Launch) (G : th_G) (Γ : th_Ga) (H0 : Heap) (hI : th_I G Γ H0) (hR : th_RC G Γ H0) (a0 : Nat) (h0 : Γ a0 = (12, 0)) (b1 b2 b3 b4 : Nat) (hme : th_ME G Γ H0 a0 12 b1 b2 b3 b4) : Met l yX3_clear (.code yX3_clear cX3_clear 2 (none) :: th_tb) ({ frames := 0, cells := 0, slots := 0, locals := 0 } : Room) (th_P [.ref a0] G H0) (th_Q (fun (v : Option Value) (H1 : Heap) => v = none ∧ th_I G Γ H1 ∧ th_F G Γ [(12, 5), (12, 6)] H0 H1 ∧ th_RC G Γ H1) G) 0 0 (fun q => G.2.2 ≤ q) := by
  refine th_met RX3 (by decide) rfl (Nat.le_of_ble_eq_true rfl) ?_
  intro p e s m below meth c hC hH hr hlocks hnm ls hl
  have hx := hC.1
  have hb := hC.2.1
  have hB : th_B G Γ Γ [(12, 5), (12, 6)] H0 H0 [] := ⟨hI, va_S.rf, th_F_rf⟩
  have hl : lv_has ls 2 [(0, .ref a0)] := hl
  obtain ⟨-, m0, m1, m2, m3, m4, ⟨d12, d13, d14, d23, d24, d34⟩, ⟨f1, k1⟩, ⟨f2, k2⟩, ⟨f3, k3⟩, ⟨f4, k4, r4⟩, u, mu, lu, uu⟩ := id hme
  have k1 : th_MA G Γ H0 b1 1 4096 (fun i => .long (f1 i)) := k1
  have k2 : th_MA G Γ H0 b2 0 4096 (fun i => .int (f2 i)) := k2
  have k3 : th_MA G Γ H0 b3 0 4096 (fun i => .int (f3 i)) := k3
  have k4 : th_MA G Γ H0 b4 0 2048 (fun i => .int (f4 i)) := k4
  have r4 : ∀ i, 0 ≤ (f4 i).toInt ∧ (f4 i).toInt < 4096 := r4
  have uu : u.toInt ≤ 2048 := uu
  have hR0 := hR
  refine lv_iconst (v := 0) hx hb dX3_clear_0 (by decide) ?_
  refine lv_istore_n (lv' := [(1, .int 0), (0, .ref a0)]) hx hb dX3_clear_1 rfl hl (by decide) rfl (fun ls hl => ?_)
  have lp2 : ∀ (n2 : Nat) (H2 : Heap) (locs : List Loc) (ls : Array Slot) (j2_1 : Int32) (f1_2 : Nat → Int64) (f2_2 : Nat → Int32) (f3_2 : Nat → Int32) (f4_2 : Nat → Int32), th_B G Γ Γ [(12, 5), (12, 6)] H0 H2 locs → lv_has ls 2 [(0, .ref a0), (1, .int j2_1)] → 0 ≤ j2_1.toInt → j2_1.toInt ≤ 8192 → th_sl H2 a0 (G.1.2 3 0) = .int (nI 12) → th_sl H2 a0 (G.1.2 3 1) = .ref b1 → th_sl H2 a0 (G.1.2 3 2) = .ref b2 → th_sl H2 a0 (G.1.2 3 3) = .ref b3 → th_sl H2 a0 (G.1.2 3 4) = .ref b4 → th_sl H2 a0 (G.1.2 3 5) = .int u → th_MA G Γ H2 b1 1 4096 (fun i => .long (f1_2 i)) → th_MA G Γ H2 b2 0 4096 (fun i => .int (f2_2 i)) → th_MA G Γ H2 b3 0 4096 (fun i => .int (f3_2 i)) → th_MA G Γ H2 b4 0 2048 (fun i => .int (f4_2 i)) → (∀ i, 0 ≤ (f4_2 i).toInt ∧ (f4_2 i).toInt < 4096) → (2147483648 : Int) - j2_1.toInt ≤ (n2 : Int) → W p l e ({ frames := 0, cells := 0, slots := 0, locals := 0 } : Room) s m ([.ref a0] : List Value).toArray below meth c H2 locs 0 0 (MQ below (th_Q (fun (v : Option Value) (H1 : Heap) => v = none ∧ th_I G Γ H1 ∧ th_F G Γ [(12, 5), (12, 6)] H0 H1 ∧ th_RC G Γ H1) G) ([.ref a0] : List Value).toArray s 0 0 (fun q => G.2.2 ≤ q)) (F0 m 2 ls []) := by
    intro n2
    induction n2 with
    | zero => intro H2 locs ls j2_1 f1_2 f2_2 f3_2 f4_2 hB hl g2_0 g2_1 g2_2 g2_3 g2_4 g2_5 g2_6 g2_7 g2_8 g2_9 g2_10 g2_11 g2_12 hm2; exact absurd hm2 (by have := ti_hi j2_1; omega)
    | succ n2 ih2 =>
      intro H2 locs ls j2_1 f1_2 f2_2 f3_2 f4_2 hB hl g2_0 g2_1 g2_2 g2_3 g2_4 g2_5 g2_6 g2_7 g2_8 g2_9 g2_10 g2_11 g2_12 hm2
      have lj2_1 := ti_lo j2_1; have uj2_1 := ti_hi j2_1
      have hm2 : (2147483648 : Int) - j2_1.toInt ≤ (n2 : Int) + 1 := by omega
      refine lv_iload_n hx hb dX3_clear_2 rfl (lv_at hl 1 rfl) ?_
      refine lv_aload_n hx hb dX3_clear_3 rfl (lv_at hl 0 rfl) ?_
      refine th_getK hC cf_X3 hB.1 h0 ro_12 rfl (j := 5) (by decide) g2_7 kf_X3_29 dX3_clear_4 ?_
      refine tr_icmp_ge (tgt := 30) hx hb dX3_clear_7 (by decide) (Eq.refl _) (Eq.refl _) (fun c7 => ?_) (fun c7 => ?_)
      · refine lv_aload_n hx hb dX3_clear_30 rfl (lv_at hl 0 rfl) ?_
        refine lv_iconst (v := 0) hx hb dX3_clear_31 (by decide) ?_
        refine th_put hC cf_X3 hB h0 (Or.inl h0) ro_12 rfl (j := 5) rfl (th_sI (by decide) (by decide)) (by decide) rfl rfl rfl kf_X3_29 dX3_clear_32 (fun H32 locs hB hf hst32 => ?_)
        have mm1 := (th_F_o hf h0 ro_12 (j := 0) (by decide) (by decide)).trans g2_2
        have mm2 := (th_F_o hf h0 ro_12 (j := 1) (by decide) (by decide)).trans g2_3
        have mm3 := (th_F_o hf h0 ro_12 (j := 2) (by decide) (by decide)).trans g2_4
        have mm4 := (th_F_o hf h0 ro_12 (j := 3) (by decide) (by decide)).trans g2_5
        have mm5 := (th_F_o hf h0 ro_12 (j := 4) (by decide) (by decide)).trans g2_6
        have ka6 := tm_MAt g2_8 (th_T_s h0 ro_12 hst32)
        have ka7 := tm_MAt g2_9 (th_T_s h0 ro_12 hst32)
        have ka8 := tm_MAt g2_10 (th_T_s h0 ro_12 hst32)
        have ka9 := tm_MAt g2_11 (th_T_s h0 ro_12 hst32)
        have mm10 := hst32.2.1
        refine lv_aload_n hx hb dX3_clear_35 rfl (lv_at hl 0 rfl) ?_
        refine lv_iconst (v := 0) hx hb dX3_clear_36 (by decide) ?_
        refine th_put hC cf_X3 hB h0 (Or.inl h0) ro_12 rfl (j := 6) rfl (th_sI (by decide) (by decide)) (by decide) rfl narrow_b0 rfl kf_X3_32 dX3_clear_37 (fun H37 locs hB hf hst37 => ?_)
        have mm11 := (th_F_o hf h0 ro_12 (j := 0) (by decide) (by decide)).trans mm1
        have mm12 := (th_F_o hf h0 ro_12 (j := 1) (by decide) (by decide)).trans mm2
        have mm13 := (th_F_o hf h0 ro_12 (j := 2) (by decide) (by decide)).trans mm3
        have mm14 := (th_F_o hf h0 ro_12 (j := 3) (by decide) (by decide)).trans mm4
        have mm15 := (th_F_o hf h0 ro_12 (j := 4) (by decide) (by decide)).trans mm5
        have mm16 := (th_F_o hf h0 ro_12 (j := 5) (by decide) (by decide)).trans mm10
        have ka17 := tm_MAt ka6 (th_T_s h0 ro_12 hst37)
        have ka18 := tm_MAt ka7 (th_T_s h0 ro_12 hst37)
        have ka19 := tm_MAt ka8 (th_T_s h0 ro_12 hst37)
        have ka20 := tm_MAt ka9 (th_T_s h0 ro_12 hst37)
        have mm21 := hst37.2.1
        exact th_vret hC hH hr hlocks hB.2.1 ⟨rfl, hB.1, hB.2.2, th_RC_me hB.1 hR0 hB.2.2 (by decide) h0 ⟨_, _, _, _, _, (show th_ME G Γ H37 a0 12 b1 b2 b3 b4 from ⟨by decide, mm11, mm12, mm13, mm14, mm15, ⟨d12, d13, d14, d23, d24, d34⟩, ⟨_, ka17⟩, ⟨_, ka18⟩, ⟨_, ka19⟩, ⟨_, ka20, g2_12⟩, _, mm16, by have w9 := tk_0; omega, by have w9 := tk_0; omega⟩)⟩⟩ dX3_clear_40
      · refine lv_aload_n hx hb dX3_clear_10 rfl (lv_at hl 0 rfl) ?_
        refine th_getK hC cf_X3 hB.1 h0 ro_12 rfl (j := 1) (by decide) g2_3 kf_X3_15 dX3_clear_11 ?_
        refine lv_aload_n hx hb dX3_clear_14 rfl (lv_at hl 0 rfl) ?_
        refine th_getK hC cf_X3 hB.1 h0 ro_12 rfl (j := 4) (by decide) g2_6 kf_X3_26 dX3_clear_15 ?_
        refine lv_iload_n hx hb dX3_clear_18 rfl (lv_at hl 1 rfl) ?_
        refine tm_iald hC g2_11 (Eq.refl _) (by omega) (by omega) dX3_clear_19 (fun x22 ex22 => ?_)
        have fx22 := g2_12 (j2_1.toInt).toNat
        rw [← ex22] at fx22
        refine lv_ldc2 (v := (-1)) hx hb hC.2.2.2.1 (hC.2.2.2.2.1 _ kw_296) dX3_clear_20 ?_
        refine tm_last hC hB g2_8 (Eq.refl _) (by omega) (by omega) dX3_clear_23 (fun H23 locs hB ka23 oq23 => ?_)
        obtain ⟨fa24, ka23⟩ : ∃ g : Nat → Int64, th_MA G Γ H23 b1 1 4096 (fun i => .long (g i)) := ⟨_, ka23⟩
        have ka25 := tm_MAo g2_9 oq23 (fun e => d12 e.symm)
        have ka26 := tm_MAo g2_10 oq23 (fun e => d13 e.symm)
        have ka27 := tm_MAo g2_11 oq23 (fun e => d14 e.symm)
        have mm28 := (tm_slo h0 ro_12 g2_8 oq23 _).trans g2_2
        have mm29 := (tm_slo h0 ro_12 g2_8 oq23 _).trans g2_3
        have mm30 := (tm_slo h0 ro_12 g2_8 oq23 _).trans g2_4
        have mm31 := (tm_slo h0 ro_12 g2_8 oq23 _).trans g2_5
        have mm32 := (tm_slo h0 ro_12 g2_8 oq23 _).trans g2_6
        have mm33 := (tm_slo h0 ro_12 g2_8 oq23 _).trans g2_7
        refine tr_iinc (fun x34 => [(1, .int x34), (0, .ref a0)]) hx hb dX3_clear_24 hl (k := 1) rfl (Eq.refl _) tk_1 (by omega) (by omega) (by decide) (fun _ => rfl) (fun x34 ls ex34 hl => ?_)
        refine lv_goto (tgt := 2) hx hb dX3_clear_27 (by decide) ?_
        exact ih2 H23 locs ls x34 fa24 f2_2 f3_2 f4_2 hB (lv_sub hl [1, 0] rfl) (by omega) (by omega) mm28 mm29 mm30 mm31 mm32 mm33 ka23 ka25 ka26 ka27 g2_12 (by omega)
  exact lp2 ((2147483648 : Int) - (0)).toNat H0 [] ls 0 f1 f2 f3 f4 hB (lv_sub hl [1, 0] rfl) (by decide) (by decide) m0 m1 m2 m3 m4 mu k1 k2 k3 k4 r4 (by have w0 := tk_0; omega)

set_option maxHeartbeats 4000000 in
set_option maxRecDepth 100000 in
theorem c_X3_put_12 (l : Launch) (G : th_G) (Γ : th_Ga) (H0 : Heap) (hI : th_I G Γ H0) (a0 : Nat) (h0 : Γ a0 = (12, 0)) (p1 : Int64) (p2 : Int32) (p3 : Int32) (f3 : 0 ≤ p3.toInt) (g3 : p3.toInt ≤ 2047) (b1 b2 b3 b4 : Nat) (hme : th_ME G Γ H0 a0 12 b1 b2 b3 b4) : Met l yX3_put (.code yX3_put cX3_put 6 (none) :: th_tb) ({ frames := 1, cells := 0, slots := 0, locals := 24 } : Room) (th_P [.ref a0, .long p1, .int p2, .int p3] G H0) (th_Q (fun (v : Option Value) (H1 : Heap) => v = none ∧ th_I G Γ H1 ∧ th_F G Γ [] H0 H1 ∧ (th_ME G Γ H1 a0 12 b1 b2 b3 b4) ∧ (th_FR [b1, b2, b3, b4] H0 H1)) G) 0 0 (fun q => G.2.2 ≤ q) := by
  refine th_met RX3 (by decide) rfl (Nat.le_of_ble_eq_true rfl) ?_
  intro p e s m below meth c hC hH hr hlocks hnm ls hl
  have hx := hC.1
  have hb := hC.2.1
  have hB : th_B G Γ Γ [] H0 H0 [] := ⟨hI, va_S.rf, th_F_rf⟩
  have hl : lv_has ls 6 [(0, .ref a0), (1, .long p1), (3, .int p2), (4, .int p3)] := hl
  have lp2 := ti_lo p2; have up2 := ti_hi p2
  have lp3 := ti_lo p3; have up3 := ti_hi p3
  obtain ⟨-, m0, m1, m2, m3, m4, ⟨d12, d13, d14, d23, d24, d34⟩, ⟨f1, k1⟩, ⟨f2, k2⟩, ⟨f3, k3⟩, ⟨f4, k4, r4⟩, u, mu, lu, uu⟩ := id hme
  have k1 : th_MA G Γ H0 b1 1 4096 (fun i => .long (f1 i)) := k1
  have k2 : th_MA G Γ H0 b2 0 4096 (fun i => .int (f2 i)) := k2
  have k3 : th_MA G Γ H0 b3 0 4096 (fun i => .int (f3 i)) := k3
  have k4 : th_MA G Γ H0 b4 0 2048 (fun i => .int (f4 i)) := k4
  have r4 : ∀ i, 0 ≤ (f4 i).toInt ∧ (f4 i).toInt < 4096 := r4
  have uu : u.toInt ≤ 2048 := uu
  skip
  have hfr : th_FR [b1, b2, b3, b4] H0 H0 := fun q _ => rfl
  refine lv_aload_n hx hb dX3_put_0 rfl (lv_at hl 0 rfl) ?_
  refine lv_lload_n hx hb dX3_put_1 rfl (lv_at hl 1 rfl) ?_
  refine th_call (th_runV (As := [.long p1]) (rest := []) hC mf_X3_slotFor km_X3_46 im_X3_slotFor se_X3_slotFor (c_X3_slotFor_12 l G Γ H0 hB.1 a0 h0 p1 b1 b2 b3 b4 (show th_ME G Γ H0 a0 12 b1 b2 b3 b4 from ⟨by decide, m0, m1, m2, m3, m4, ⟨d12, d13, d14, d23, d24, d34⟩, ⟨_, k1⟩, ⟨_, k2⟩, ⟨_, k3⟩, ⟨_, k4, r4⟩, _, mu, by omega, by omega⟩)) rfl rfl ⟨Nat.le_of_ble_eq_true rfl, Nat.le_of_ble_eq_true rfl⟩ hB.1 h0 ro_12 rfl rfl hl.1 rfl (Nat.le_of_ble_eq_true rfl) dX3_put_2 ⟨Nat.le_refl _, Nat.le_refl _⟩) hB.2.1 (fun v2 H2 locs hp hz hS => ?_)
  obtain ⟨x1, rfl, lx1, ux1, rfl⟩ := hp
  have hB := th_B_s hB hS
  refine W.eq (g2 := F0 m 5 ls [.int x1]) rfl ?_
  refine lv_istore (lv' := [(5, .int x1), (0, .ref a0), (1, .long p1), (3, .int p2), (4, .int p3)]) hx hb dX3_put_5 hl (by decide) rfl (fun ls hl => ?_)
  refine lv_aload_n hx hb dX3_put_7 rfl (lv_at hl 1 rfl) ?_
  refine th_getK hC cf_X3 hB.1 h0 ro_12 rfl (j := 1) (by decide) m1 kf_X3_15 dX3_put_8 ?_
  refine lv_iload hx hb dX3_put_11 (lv_at hl 0 rfl) ?_
  refine lv_lload_n hx hb dX3_put_13 rfl (lv_at hl 2 rfl) ?_
  refine tm_last hC hB k1 (Eq.refl _) (by omega) (by omega) dX3_put_14 (fun H14 locs hB ka2 oq14 => ?_)
  obtain ⟨fa3, ka2⟩ : ∃ g : Nat → Int64, th_MA G Γ H14 b1 1 4096 (fun i => .long (g i)) := ⟨_, ka2⟩
  have hfr := th_FR_st hfr oq14 (by simp)
  have ka4 := tm_MAo k2 oq14 (fun e => d12 e.symm)
  have ka5 := tm_MAo k3 oq14 (fun e => d13 e.symm)
  have ka6 := tm_MAo k4 oq14 (fun e => d14 e.symm)
  have mm7 := (tm_slo h0 ro_12 k1 oq14 _).trans m0
  have mm8 := (tm_slo h0 ro_12 k1 oq14 _).trans m1
  have mm9 := (tm_slo h0 ro_12 k1 oq14 _).trans m2
  have mm10 := (tm_slo h0 ro_12 k1 oq14 _).trans m3
  have mm11 := (tm_slo h0 ro_12 k1 oq14 _).trans m4
  have mm12 := (tm_slo h0 ro_12 k1 oq14 _).trans mu
  refine lv_aload_n hx hb dX3_put_15 rfl (lv_at hl 1 rfl) ?_
  refine th_getK hC cf_X3 hB.1 h0 ro_12 rfl (j := 2) (by decide) mm9 kf_X3_19 dX3_put_16 ?_
  refine lv_iload hx hb dX3_put_19 (lv_at hl 0 rfl) ?_
  refine lv_iload_n hx hb dX3_put_21 rfl (lv_at hl 3 rfl) ?_
  refine tm_iast hC hB ka4 (Eq.refl _) (by omega) (by omega) dX3_put_22 (fun H22 locs hB ka13 oq22 => ?_)
  obtain ⟨fa14, ka13⟩ : ∃ g : Nat → Int32, th_MA G Γ H22 b2 0 4096 (fun i => .int (g i)) := ⟨_, ka13⟩
  have hfr := th_FR_st hfr oq22 (by simp)
  have ka15 := tm_MAo ka2 oq22 (id d12)
  have ka16 := tm_MAo ka5 oq22 (fun e => d23 e.symm)
  have ka17 := tm_MAo ka6 oq22 (fun e => d24 e.symm)
  have mm18 := (tm_slo h0 ro_12 ka4 oq22 _).trans mm7
  have mm19 := (tm_slo h0 ro_12 ka4 oq22 _).trans mm8
  have mm20 := (tm_slo h0 ro_12 ka4 oq22 _).trans mm9
  have mm21 := (tm_slo h0 ro_12 ka4 oq22 _).trans mm10
  have mm22 := (tm_slo h0 ro_12 ka4 oq22 _).trans mm11
  have mm23 := (tm_slo h0 ro_12 ka4 oq22 _).trans mm12
  refine lv_aload_n hx hb dX3_put_23 rfl (lv_at hl 1 rfl) ?_
  refine th_getK hC cf_X3 hB.1 h0 ro_12 rfl (j := 3) (by decide) mm21 kf_X3_23 dX3_put_24 ?_
  refine lv_iload hx hb dX3_put_27 (lv_at hl 0 rfl) ?_
  refine lv_iconst (v := 0) hx hb dX3_put_29 (by decide) ?_
  refine tm_iast hC hB ka16 (Eq.refl _) (by omega) (by omega) dX3_put_30 (fun H30 locs hB ka24 oq30 => ?_)
  obtain ⟨fa25, ka24⟩ : ∃ g : Nat → Int32, th_MA G Γ H30 b3 0 4096 (fun i => .int (g i)) := ⟨_, ka24⟩
  have hfr := th_FR_st hfr oq30 (by simp)
  have ka26 := tm_MAo ka15 oq30 (id d13)
  have ka27 := tm_MAo ka13 oq30 (id d23)
  have ka28 := tm_MAo ka17 oq30 (fun e => d34 e.symm)
  have mm29 := (tm_slo h0 ro_12 ka16 oq30 _).trans mm18
  have mm30 := (tm_slo h0 ro_12 ka16 oq30 _).trans mm19
  have mm31 := (tm_slo h0 ro_12 ka16 oq30 _).trans mm20
  have mm32 := (tm_slo h0 ro_12 ka16 oq30 _).trans mm21
  have mm33 := (tm_slo h0 ro_12 ka16 oq30 _).trans mm22
  have mm34 := (tm_slo h0 ro_12 ka16 oq30 _).trans mm23
  refine lv_aload_n hx hb dX3_put_31 rfl (lv_at hl 1 rfl) ?_
  refine th_getK hC cf_X3 hB.1 h0 ro_12 rfl (j := 4) (by decide) mm33 kf_X3_26 dX3_put_32 ?_
  refine lv_iload hx hb dX3_put_35 (lv_at hl 4 rfl) ?_
  refine lv_iload hx hb dX3_put_37 (lv_at hl 0 rfl) ?_
  refine tm_iast hC hB ka28 (Eq.refl _) (by omega) (by omega) dX3_put_39 (fun H39 locs hB ka35 oq39 => ?_)
  obtain ⟨fa36, ka35, ra37⟩ : ∃ g : Nat → Int32, th_MA G Γ H39 b4 0 2048 (fun i => .int (g i)) ∧ ∀ i, 0 ≤ (g i).toInt ∧ (g i).toInt < 4096 := ⟨_, ka35, fun i => by (try dsimp only); split; exact ⟨by omega, by omega⟩; exact r4 i⟩
  have hfr := th_FR_st hfr oq39 (by simp)
  have ka38 := tm_MAo ka26 oq39 (id d14)
  have ka39 := tm_MAo ka27 oq39 (id d24)
  have ka40 := tm_MAo ka24 oq39 (id d34)
  have mm41 := (tm_slo h0 ro_12 ka28 oq39 _).trans mm29
  have mm42 := (tm_slo h0 ro_12 ka28 oq39 _).trans mm30
  have mm43 := (tm_slo h0 ro_12 ka28 oq39 _).trans mm31
  have mm44 := (tm_slo h0 ro_12 ka28 oq39 _).trans mm32
  have mm45 := (tm_slo h0 ro_12 ka28 oq39 _).trans mm33
  have mm46 := (tm_slo h0 ro_12 ka28 oq39 _).trans mm34
  exact th_vret hC hH hr hlocks hB.2.1 ⟨rfl, hB.1, hB.2.2, (show th_ME G Γ H39 a0 12 b1 b2 b3 b4 from ⟨by decide, mm41, mm42, mm43, mm44, mm45, ⟨d12, d13, d14, d23, d24, d34⟩, ⟨_, ka38⟩, ⟨_, ka39⟩, ⟨_, ka40⟩, ⟨_, ka35, ra37⟩, _, mm46, by omega, by omega⟩), hfr⟩ dX3_put_40

set_option maxHeartbeats 4000000 in
set_option maxRecDepth 100000 in
theorem c_X3_slotFor_14 (l : Launch) (G : th_G) (Γ : th_Ga) (H0 : Heap) (hI : th_I G Γ H0) (a0 : Nat) (h0 : Γ a0 = (12, 0)) (p1 : Int64) (b1 b2 b3 b4 : Nat) (hme : th_ME G Γ H0 a0 14 b1 b2 b3 b4) : Met l yX3_slotFor (.code yX3_slotFor cX3_slotFor 5 (some FieldType.int) :: th_tb) ({ frames := 0, cells := 0, slots := 0, locals := 0 } : Room) (th_P [.ref a0, .long p1] G H0) (th_Q (fun (v : Option Value) (H1 : Heap) => ∃ r : Int32, v = some (.int r) ∧ 0 ≤ r.toInt ∧ r.toInt ≤ 16383 ∧ H0 = H1) G) 0 0 (fun q => G.2.2 ≤ q) := by
  refine th_met RX3 (by decide) rfl (Nat.le_of_ble_eq_true rfl) ?_
  intro p e s m below meth c hC hH hr hlocks hnm ls hl
  have hx := hC.1
  have hb := hC.2.1
  have hB : th_B G Γ Γ [] H0 H0 [] := ⟨hI, va_S.rf, th_F_rf⟩
  have hl : lv_has ls 5 [(0, .ref a0), (1, .long p1)] := hl
  obtain ⟨-, m0, m1, m2, m3, m4, ⟨d12, d13, d14, d23, d24, d34⟩, ⟨f1, k1⟩, ⟨f2, k2⟩, ⟨f3, k3⟩, ⟨f4, k4, r4⟩, u, mu, lu, uu⟩ := id hme
  have k1 : th_MA G Γ H0 b1 1 16384 (fun i => .long (f1 i)) := k1
  have k2 : th_MA G Γ H0 b2 0 16384 (fun i => .int (f2 i)) := k2
  have k3 : th_MA G Γ H0 b3 0 16384 (fun i => .int (f3 i)) := k3
  have k4 : th_MA G Γ H0 b4 0 8192 (fun i => .int (f4 i)) := k4
  have r4 : ∀ i, 0 ≤ (f4 i).toInt ∧ (f4 i).toInt < 16384 := r4
  have uu : u.toInt ≤ 8192 := uu
  skip
  refine lv_lload_n hx hb dX3_slotFor_0 rfl (lv_at hl 1 rfl) ?_
  refine lv_ldc2 (v := (-7046029254386353131)) hx hb hC.2.2.2.1 (hC.2.2.2.2.1 _ kw_937) dX3_slotFor_1 ?_
  refine lv_lmul hx hb dX3_slotFor_4 ?_
  refine lv_topl (fun y1 ey1 => ?_)
  refine lv_bipush (v := 64) hx hb dX3_slotFor_5 (by decide) ?_
  refine lv_aload_n hx hb dX3_slotFor_7 rfl (lv_at hl 0 rfl) ?_
  refine th_getK hC cf_X3 hB.1 h0 ro_12 rfl (j := 0) (by decide) m0 kf_X3_11 dX3_slotFor_8 ?_
  refine tr_isub hx hb dX3_slotFor_11 tk_64 tk_n14 (by omega) (by omega) (fun x2 ex2 => ?_)
  refine lv_lushr hx hb dX3_slotFor_12 rfl ?_
  refine lv_topl (fun y3 ey3 => ?_)
  refine lv_l2i hx hb dX3_slotFor_13 rfl ?_
  refine lv_topi (fun x4 ex4 => ?_)
  have lx4 := ti_lo x4; have ux4 := ti_hi x4
  have f13 := ti_hash 14 y1 (y := x2) (by omega) (by omega) (by omega)
  rw [← ey3, ← ex4] at f13
  refine lv_istore_n (lv' := [(3, .int x4), (0, .ref a0), (1, .long p1)]) hx hb dX3_slotFor_14 rfl hl (by decide) rfl (fun ls hl => ?_)
  refine lv_iconst (v := 0) hx hb dX3_slotFor_15 (by decide) ?_
  refine lv_istore (lv' := [(4, .int 0), (3, .int x4), (0, .ref a0), (1, .long p1)]) hx hb dX3_slotFor_16 hl (by decide) rfl (fun ls hl => ?_)
  have lp18 : ∀ (n18 : Nat) (locs : List Loc) (ls : Array Slot) (j18_3 : Int32) (j18_4 : Int32), th_B G Γ Γ [] H0 H0 locs → lv_has ls 5 [(0, .ref a0), (1, .long p1), (3, .int j18_3), (4, .int j18_4)] → 0 ≤ j18_3.toInt → j18_3.toInt ≤ 16383 → 0 ≤ j18_4.toInt → j18_4.toInt ≤ 16384 → (2147483648 : Int) - j18_4.toInt ≤ (n18 : Int) → W p l e ({ frames := 0, cells := 0, slots := 0, locals := 0 } : Room) s m ([.ref a0, .long p1] : List Value).toArray below meth c H0 locs 0 0 (MQ below (th_Q (fun (v : Option Value) (H1 : Heap) => ∃ r : Int32, v = some (.int r) ∧ 0 ≤ r.toInt ∧ r.toInt ≤ 16383 ∧ H0 = H1) G) ([.ref a0, .long p1] : List Value).toArray s 0 0 (fun q => G.2.2 ≤ q)) (F0 m 18 ls []) := by
    intro n18
    induction n18 with
    | zero => intro locs ls j18_3 j18_4 hB hl g18_0 g18_1 g18_2 g18_3 hm18; exact absurd hm18 (by have := ti_hi j18_4; omega)
    | succ n18 ih18 =>
      intro locs ls j18_3 j18_4 hB hl g18_0 g18_1 g18_2 g18_3 hm18
      have lj18_3 := ti_lo j18_3; have uj18_3 := ti_hi j18_3
      have lj18_4 := ti_lo j18_4; have uj18_4 := ti_hi j18_4
      have hm18 : (2147483648 : Int) - j18_4.toInt ≤ (n18 : Int) + 1 := by omega
      refine lv_iload hx hb dX3_slotFor_18 (lv_at hl 3 rfl) ?_
      refine lv_aload_n hx hb dX3_slotFor_20 rfl (lv_at hl 0 rfl) ?_
      refine th_getK hC cf_X3 hB.1 h0 ro_12 rfl (j := 1) (by decide) m1 kf_X3_15 dX3_slotFor_21 ?_
      refine tm_alen hC k1 rfl (by decide) dX3_slotFor_24 (fun x5 ex5 => ?_)
      refine tr_icmp_ge (tgt := 70) hx hb dX3_slotFor_25 (by decide) (Eq.refl _) (Eq.refl _) (fun c25 => ?_) (fun c25 => ?_)
      · refine lv_iload_n hx hb dX3_slotFor_70 rfl (lv_at hl 2 rfl) ?_
        exact th_iret hC hH hr hlocks rfl hB.2.1 ⟨_, rfl, by omega, by omega, rfl⟩ dX3_slotFor_71
      · refine lv_aload_n hx hb dX3_slotFor_28 rfl (lv_at hl 0 rfl) ?_
        refine th_getK hC cf_X3 hB.1 h0 ro_12 rfl (j := 1) (by decide) m1 kf_X3_15 dX3_slotFor_29 ?_
        refine lv_iload_n hx hb dX3_slotFor_32 rfl (lv_at hl 2 rfl) ?_
        refine tm_lald hC k1 (Eq.refl _) (by omega) (by omega) dX3_slotFor_33 (fun y6 ey6 => ?_)
        refine lv_ldc2 (v := (-1)) hx hb hC.2.2.2.1 (hC.2.2.2.2.1 _ kw_296) dX3_slotFor_34 ?_
        refine tr_lcmp hx hb dX3_slotFor_37 (fun x7 fx7 gx7 => ?_)
        refine tr_if_eq (tgt := 70) hx hb dX3_slotFor_38 (by decide) (Eq.refl _) (fun c38 => ?_) (fun c38 => ?_)
        · refine lv_iload_n hx hb dX3_slotFor_70 rfl (lv_at hl 2 rfl) ?_
          exact th_iret hC hH hr hlocks rfl hB.2.1 ⟨_, rfl, by omega, by omega, rfl⟩ dX3_slotFor_71
        · refine lv_aload_n hx hb dX3_slotFor_41 rfl (lv_at hl 0 rfl) ?_
          refine th_getK hC cf_X3 hB.1 h0 ro_12 rfl (j := 1) (by decide) m1 kf_X3_15 dX3_slotFor_42 ?_
          refine lv_iload_n hx hb dX3_slotFor_45 rfl (lv_at hl 2 rfl) ?_
          refine tm_lald hC k1 (Eq.refl _) (by omega) (by omega) dX3_slotFor_46 (fun y8 ey8 => ?_)
          refine lv_lload_n hx hb dX3_slotFor_47 rfl (lv_at hl 1 rfl) ?_
          refine tr_lcmp hx hb dX3_slotFor_48 (fun x9 fx9 gx9 => ?_)
          refine tr_if_eq (tgt := 70) hx hb dX3_slotFor_49 (by decide) (Eq.refl _) (fun c49 => ?_) (fun c49 => ?_)
          · refine lv_iload_n hx hb dX3_slotFor_70 rfl (lv_at hl 2 rfl) ?_
            exact th_iret hC hH hr hlocks rfl hB.2.1 ⟨_, rfl, by omega, by omega, rfl⟩ dX3_slotFor_71
          · refine lv_iload_n hx hb dX3_slotFor_52 rfl (lv_at hl 2 rfl) ?_
            refine lv_iconst (v := 1) hx hb dX3_slotFor_53 (by decide) ?_
            refine tr_iadd hx hb dX3_slotFor_54 (Eq.refl _) tk_1 (by omega) (by omega) (fun x10 ex10 => ?_)
            refine lv_aload_n hx hb dX3_slotFor_55 rfl (lv_at hl 0 rfl) ?_
            refine th_getK hC cf_X3 hB.1 h0 ro_12 rfl (j := 1) (by decide) m1 kf_X3_15 dX3_slotFor_56 ?_
            refine tm_alen hC k1 rfl (by decide) dX3_slotFor_59 (fun x11 ex11 => ?_)
            refine lv_iconst (v := 1) hx hb dX3_slotFor_60 (by decide) ?_
            refine tr_isub hx hb dX3_slotFor_61 (Eq.refl _) tk_1 (by omega) (by omega) (fun x12 ex12 => ?_)
            refine lv_iand hx hb dX3_slotFor_62 ?_
            refine lv_topi (fun x13 ex13 => ?_)
            have lx13 := ti_lo x13; have ux13 := ti_hi x13
            have hx13 : x12 = 16383 := Int32.toInt_inj.mp (by rw [show x12.toInt = 16383 by omega]; rfl)
            have fx13 := ti_and x10 14 (m := 16383) (by decide) (by decide)
            rw [← hx13, ← ex13] at fx13
            refine lv_istore_n (lv' := [(3, .int x13), (0, .ref a0), (1, .long p1), (4, .int j18_4)]) hx hb dX3_slotFor_63 rfl hl (by decide) rfl (fun ls hl => ?_)
            refine tr_iinc (fun x14 => [(4, .int x14), (3, .int x13), (0, .ref a0), (1, .long p1)]) hx hb dX3_slotFor_64 hl (k := 3) rfl (Eq.refl _) tk_1 (by omega) (by omega) (by decide) (fun _ => rfl) (fun x14 ls ex14 hl => ?_)
            refine lv_goto (tgt := 18) hx hb dX3_slotFor_67 (by decide) ?_
            exact ih18 locs ls x13 x14 hB (lv_sub hl [2, 3, 1, 0] rfl) (by omega) (by omega) (by omega) (by omega) (by omega)
  exact lp18 ((2147483648 : Int) - (0)).toNat [] ls x4 0 hB (lv_sub hl [2, 3, 1, 0] rfl) (by omega) (by omega) (by decide) (by decide) (by have w0 := tk_0; omega)

set_option maxHeartbeats 4000000 in
set_option maxRecDepth 100000 in
theorem c_X3_find_14 (l : Launch) (G : th_G) (Γ : th_Ga) (H0 : Heap) (hI : th_I G Γ H0) (a0 : Nat) (h0 : Γ a0 = (12, 0)) (p1 : Int64) (b1 b2 b3 b4 : Nat) (hme : th_ME G Γ H0 a0 14 b1 b2 b3 b4) : Met l yX3_find (.code yX3_find cX3_find 4 (some FieldType.int) :: th_tb) ({ frames := 1, cells := 0, slots := 0, locals := 24 } : Room) (th_P [.ref a0, .long p1] G H0) (th_Q (fun (v : Option Value) (H1 : Heap) => ∃ r : Int32, v = some (.int r) ∧ (-1) ≤ r.toInt ∧ r.toInt ≤ 16383 ∧ H0 = H1) G) 0 0 (fun q => G.2.2 ≤ q) := by
  refine th_met RX3 (by decide) rfl (Nat.le_of_ble_eq_true rfl) ?_
  intro p e s m below meth c hC hH hr hlocks hnm ls hl
  have hx := hC.1
  have hb := hC.2.1
  have hB : th_B G Γ Γ [] H0 H0 [] := ⟨hI, va_S.rf, th_F_rf⟩
  have hl : lv_has ls 4 [(0, .ref a0), (1, .long p1)] := hl
  obtain ⟨-, m0, m1, m2, m3, m4, ⟨d12, d13, d14, d23, d24, d34⟩, ⟨f1, k1⟩, ⟨f2, k2⟩, ⟨f3, k3⟩, ⟨f4, k4, r4⟩, u, mu, lu, uu⟩ := id hme
  have k1 : th_MA G Γ H0 b1 1 16384 (fun i => .long (f1 i)) := k1
  have k2 : th_MA G Γ H0 b2 0 16384 (fun i => .int (f2 i)) := k2
  have k3 : th_MA G Γ H0 b3 0 16384 (fun i => .int (f3 i)) := k3
  have k4 : th_MA G Γ H0 b4 0 8192 (fun i => .int (f4 i)) := k4
  have r4 : ∀ i, 0 ≤ (f4 i).toInt ∧ (f4 i).toInt < 16384 := r4
  have uu : u.toInt ≤ 8192 := uu
  skip
  refine lv_aload_n hx hb dX3_find_0 rfl (lv_at hl 0 rfl) ?_
  refine lv_lload_n hx hb dX3_find_1 rfl (lv_at hl 1 rfl) ?_
  refine th_call (th_runV (As := [.long p1]) (rest := []) hC mf_X3_slotFor km_X3_46 im_X3_slotFor se_X3_slotFor (c_X3_slotFor_14 l G Γ H0 hB.1 a0 h0 p1 b1 b2 b3 b4 (show th_ME G Γ H0 a0 14 b1 b2 b3 b4 from ⟨by decide, m0, m1, m2, m3, m4, ⟨d12, d13, d14, d23, d24, d34⟩, ⟨_, k1⟩, ⟨_, k2⟩, ⟨_, k3⟩, ⟨_, k4, r4⟩, _, mu, by omega, by omega⟩)) rfl rfl ⟨Nat.le_of_ble_eq_true rfl, Nat.le_of_ble_eq_true rfl⟩ hB.1 h0 ro_12 rfl rfl hl.1 rfl (Nat.le_of_ble_eq_true rfl) dX3_find_2 ⟨Nat.le_refl _, Nat.le_refl _⟩) hB.2.1 (fun v2 H2 locs hp hz hS => ?_)
  obtain ⟨x1, rfl, lx1, ux1, rfl⟩ := hp
  have hB := th_B_s hB hS
  refine W.eq (g2 := F0 m 5 ls [.int x1]) rfl ?_
  refine lv_istore_n (lv' := [(3, .int x1), (0, .ref a0), (1, .long p1)]) hx hb dX3_find_5 rfl hl (by decide) rfl (fun ls hl => ?_)
  refine lv_aload_n hx hb dX3_find_6 rfl (lv_at hl 1 rfl) ?_
  refine th_getK hC cf_X3 hB.1 h0 ro_12 rfl (j := 1) (by decide) m1 kf_X3_15 dX3_find_7 ?_
  refine lv_iload_n hx hb dX3_find_10 rfl (lv_at hl 0 rfl) ?_
  refine tm_lald hC k1 (Eq.refl _) (by omega) (by omega) dX3_find_11 (fun y2 ey2 => ?_)
  refine lv_lload_n hx hb dX3_find_12 rfl (lv_at hl 2 rfl) ?_
  refine tr_lcmp hx hb dX3_find_13 (fun x3 fx3 gx3 => ?_)
  refine tr_if_ne (tgt := 21) hx hb dX3_find_14 (by decide) (Eq.refl _) (fun c14 => ?_) (fun c14 => ?_)
  · refine lv_iconst (v := (-1)) hx hb dX3_find_21 (by decide) ?_
    exact th_iret hC hH hr hlocks rfl hB.2.1 ⟨_, rfl, by decide, by decide, rfl⟩ dX3_find_22
  · refine lv_iload_n hx hb dX3_find_17 rfl (lv_at hl 0 rfl) ?_
    refine lv_goto (tgt := 22) hx hb dX3_find_18 (by decide) ?_
    exact th_iret hC hH hr hlocks rfl hB.2.1 ⟨_, rfl, by omega, by omega, rfl⟩ dX3_find_22

set_option maxHeartbeats 4000000 in
set_option maxRecDepth 100000 in
theorem c_X3_slotOfNth_14 (l : Launch) (G : th_G) (Γ : th_Ga) (H0 : Heap) (hI : th_I G Γ H0) (a0 : Nat) (h0 : Γ a0 = (12, 0)) (p1 : Int32) (b1 b2 b3 b4 : Nat) (hme : th_ME G Γ H0 a0 14 b1 b2 b3 b4) : Met l yX3_slotOfNth (.code yX3_slotOfNth cX3_slotOfNth 2 (some FieldType.int) :: th_tb) ({ frames := 0, cells := 0, slots := 0, locals := 0 } : Room) (th_P [.ref a0, .int p1] G H0) (th_Q (fun (v : Option Value) (H1 : Heap) => ∃ r : Int32, v = some (.int r) ∧ H0 = H1) G) 0 0 (fun q => G.2.2 ≤ q) := by
  refine th_met RX3 (by decide) rfl (Nat.le_of_ble_eq_true rfl) ?_
  intro p e s m below meth c hC hH hr hlocks hnm ls hl
  have hx := hC.1
  have hb := hC.2.1
  have hB : th_B G Γ Γ [] H0 H0 [] := ⟨hI, va_S.rf, th_F_rf⟩
  have hl : lv_has ls 2 [(0, .ref a0), (1, .int p1)] := hl
  have lp1 := ti_lo p1; have up1 := ti_hi p1
  obtain ⟨-, m0, m1, m2, m3, m4, ⟨d12, d13, d14, d23, d24, d34⟩, ⟨f1, k1⟩, ⟨f2, k2⟩, ⟨f3, k3⟩, ⟨f4, k4, r4⟩, u, mu, lu, uu⟩ := id hme
  have k1 : th_MA G Γ H0 b1 1 16384 (fun i => .long (f1 i)) := k1
  have k2 : th_MA G Γ H0 b2 0 16384 (fun i => .int (f2 i)) := k2
  have k3 : th_MA G Γ H0 b3 0 16384 (fun i => .int (f3 i)) := k3
  have k4 : th_MA G Γ H0 b4 0 8192 (fun i => .int (f4 i)) := k4
  have r4 : ∀ i, 0 ≤ (f4 i).toInt ∧ (f4 i).toInt < 16384 := r4
  have uu : u.toInt ≤ 8192 := uu
  skip
  refine lv_iload_n hx hb dX3_slotOfNth_0 rfl (lv_at hl 1 rfl) ?_
  refine tr_if_lt (tgt := 21) hx hb dX3_slotOfNth_1 (by decide) (Eq.refl _) (fun c1 => ?_) (fun c1 => ?_)
  · refine lv_iconst (v := (-1)) hx hb dX3_slotOfNth_21 (by decide) ?_
    exact th_iret hC hH hr hlocks rfl hB.2.1 ⟨_, rfl, rfl⟩ dX3_slotOfNth_22
  · refine lv_iload_n hx hb dX3_slotOfNth_4 rfl (lv_at hl 1 rfl) ?_
    refine lv_aload_n hx hb dX3_slotOfNth_5 rfl (lv_at hl 0 rfl) ?_
    refine th_getK hC cf_X3 hB.1 h0 ro_12 rfl (j := 5) (by decide) mu kf_X3_29 dX3_slotOfNth_6 ?_
    refine tr_icmp_ge (tgt := 21) hx hb dX3_slotOfNth_9 (by decide) (Eq.refl _) (Eq.refl _) (fun c9 => ?_) (fun c9 => ?_)
    · refine lv_iconst (v := (-1)) hx hb dX3_slotOfNth_21 (by decide) ?_
      exact th_iret hC hH hr hlocks rfl hB.2.1 ⟨_, rfl, rfl⟩ dX3_slotOfNth_22
    · refine lv_aload_n hx hb dX3_slotOfNth_12 rfl (lv_at hl 0 rfl) ?_
      refine th_getK hC cf_X3 hB.1 h0 ro_12 rfl (j := 4) (by decide) m4 kf_X3_26 dX3_slotOfNth_13 ?_
      refine lv_iload_n hx hb dX3_slotOfNth_16 rfl (lv_at hl 1 rfl) ?_
      refine tm_iald hC k4 (Eq.refl _) (by omega) (by omega) dX3_slotOfNth_17 (fun x1 ex1 => ?_)
      have fx1 := r4 (p1.toInt).toNat
      rw [← ex1] at fx1
      refine lv_goto (tgt := 22) hx hb dX3_slotOfNth_18 (by decide) ?_
      exact th_iret hC hH hr hlocks rfl hB.2.1 ⟨_, rfl, rfl⟩ dX3_slotOfNth_22

set_option maxHeartbeats 4000000 in
set_option maxRecDepth 100000 in
theorem c_X3_valueIn_14 (l : Launch) (G : th_G) (Γ : th_Ga) (H0 : Heap) (hI : th_I G Γ H0) (a0 : Nat) (h0 : Γ a0 = (12, 0)) (p1 : Int32) (b1 b2 b3 b4 : Nat) (hme : th_ME G Γ H0 a0 14 b1 b2 b3 b4) : Met l yX3_valueIn (.code yX3_valueIn cX3_valueIn 2 (some FieldType.int) :: th_tb) ({ frames := 0, cells := 0, slots := 0, locals := 0 } : Room) (th_P [.ref a0, .int p1] G H0) (th_Q (fun (v : Option Value) (H1 : Heap) => ∃ r : Int32, v = some (.int r) ∧ H0 = H1) G) 0 0 (fun q => G.2.2 ≤ q) := by
  refine th_met RX3 (by decide) rfl (Nat.le_of_ble_eq_true rfl) ?_
  intro p e s m below meth c hC hH hr hlocks hnm ls hl
  have hx := hC.1
  have hb := hC.2.1
  have hB : th_B G Γ Γ [] H0 H0 [] := ⟨hI, va_S.rf, th_F_rf⟩
  have hl : lv_has ls 2 [(0, .ref a0), (1, .int p1)] := hl
  have lp1 := ti_lo p1; have up1 := ti_hi p1
  obtain ⟨-, m0, m1, m2, m3, m4, ⟨d12, d13, d14, d23, d24, d34⟩, ⟨f1, k1⟩, ⟨f2, k2⟩, ⟨f3, k3⟩, ⟨f4, k4, r4⟩, u, mu, lu, uu⟩ := id hme
  have k1 : th_MA G Γ H0 b1 1 16384 (fun i => .long (f1 i)) := k1
  have k2 : th_MA G Γ H0 b2 0 16384 (fun i => .int (f2 i)) := k2
  have k3 : th_MA G Γ H0 b3 0 16384 (fun i => .int (f3 i)) := k3
  have k4 : th_MA G Γ H0 b4 0 8192 (fun i => .int (f4 i)) := k4
  have r4 : ∀ i, 0 ≤ (f4 i).toInt ∧ (f4 i).toInt < 16384 := r4
  have uu : u.toInt ≤ 8192 := uu
  skip
  refine lv_iload_n hx hb dX3_valueIn_0 rfl (lv_at hl 1 rfl) ?_
  refine tr_if_lt (tgt := 22) hx hb dX3_valueIn_1 (by decide) (Eq.refl _) (fun c1 => ?_) (fun c1 => ?_)
  · refine lv_iconst (v := 0) hx hb dX3_valueIn_22 (by decide) ?_
    exact th_iret hC hH hr hlocks rfl hB.2.1 ⟨_, rfl, rfl⟩ dX3_valueIn_23
  · refine lv_iload_n hx hb dX3_valueIn_4 rfl (lv_at hl 1 rfl) ?_
    refine lv_aload_n hx hb dX3_valueIn_5 rfl (lv_at hl 0 rfl) ?_
    refine th_getK hC cf_X3 hB.1 h0 ro_12 rfl (j := 2) (by decide) m2 kf_X3_19 dX3_valueIn_6 ?_
    refine tm_alen hC k2 rfl (by decide) dX3_valueIn_9 (fun x1 ex1 => ?_)
    refine tr_icmp_ge (tgt := 22) hx hb dX3_valueIn_10 (by decide) (Eq.refl _) (Eq.refl _) (fun c10 => ?_) (fun c10 => ?_)
    · refine lv_iconst (v := 0) hx hb dX3_valueIn_22 (by decide) ?_
      exact th_iret hC hH hr hlocks rfl hB.2.1 ⟨_, rfl, rfl⟩ dX3_valueIn_23
    · refine lv_aload_n hx hb dX3_valueIn_13 rfl (lv_at hl 0 rfl) ?_
      refine th_getK hC cf_X3 hB.1 h0 ro_12 rfl (j := 2) (by decide) m2 kf_X3_19 dX3_valueIn_14 ?_
      refine lv_iload_n hx hb dX3_valueIn_17 rfl (lv_at hl 1 rfl) ?_
      refine tm_iald hC k2 (Eq.refl _) (by omega) (by omega) dX3_valueIn_18 (fun x2 ex2 => ?_)
      have lx2 := ti_lo x2; have ux2 := ti_hi x2
      refine lv_goto (tgt := 23) hx hb dX3_valueIn_19 (by decide) ?_
      exact th_iret hC hH hr hlocks rfl hB.2.1 ⟨_, rfl, rfl⟩ dX3_valueIn_23

set_option maxHeartbeats 4000000 in
set_option maxRecDepth 100000 in
theorem c_X3_flowIn_14 (l : Launch) (G : th_G) (Γ : th_Ga) (H0 : Heap) (hI : th_I G Γ H0) (a0 : Nat) (h0 : Γ a0 = (12, 0)) (p1 : Int32) (b1 b2 b3 b4 : Nat) (hme : th_ME G Γ H0 a0 14 b1 b2 b3 b4) : Met l yX3_flowIn (.code yX3_flowIn cX3_flowIn 2 (some FieldType.int) :: th_tb) ({ frames := 0, cells := 0, slots := 0, locals := 0 } : Room) (th_P [.ref a0, .int p1] G H0) (th_Q (fun (v : Option Value) (H1 : Heap) => ∃ r : Int32, v = some (.int r) ∧ H0 = H1) G) 0 0 (fun q => G.2.2 ≤ q) := by
  refine th_met RX3 (by decide) rfl (Nat.le_of_ble_eq_true rfl) ?_
  intro p e s m below meth c hC hH hr hlocks hnm ls hl
  have hx := hC.1
  have hb := hC.2.1
  have hB : th_B G Γ Γ [] H0 H0 [] := ⟨hI, va_S.rf, th_F_rf⟩
  have hl : lv_has ls 2 [(0, .ref a0), (1, .int p1)] := hl
  have lp1 := ti_lo p1; have up1 := ti_hi p1
  obtain ⟨-, m0, m1, m2, m3, m4, ⟨d12, d13, d14, d23, d24, d34⟩, ⟨f1, k1⟩, ⟨f2, k2⟩, ⟨f3, k3⟩, ⟨f4, k4, r4⟩, u, mu, lu, uu⟩ := id hme
  have k1 : th_MA G Γ H0 b1 1 16384 (fun i => .long (f1 i)) := k1
  have k2 : th_MA G Γ H0 b2 0 16384 (fun i => .int (f2 i)) := k2
  have k3 : th_MA G Γ H0 b3 0 16384 (fun i => .int (f3 i)) := k3
  have k4 : th_MA G Γ H0 b4 0 8192 (fun i => .int (f4 i)) := k4
  have r4 : ∀ i, 0 ≤ (f4 i).toInt ∧ (f4 i).toInt < 16384 := r4
  have uu : u.toInt ≤ 8192 := uu
  skip
  refine lv_iload_n hx hb dX3_flowIn_0 rfl (lv_at hl 1 rfl) ?_
  refine tr_if_lt (tgt := 22) hx hb dX3_flowIn_1 (by decide) (Eq.refl _) (fun c1 => ?_) (fun c1 => ?_)
  · refine lv_iconst (v := 0) hx hb dX3_flowIn_22 (by decide) ?_
    exact th_iret hC hH hr hlocks rfl hB.2.1 ⟨_, rfl, rfl⟩ dX3_flowIn_23
  · refine lv_iload_n hx hb dX3_flowIn_4 rfl (lv_at hl 1 rfl) ?_
    refine lv_aload_n hx hb dX3_flowIn_5 rfl (lv_at hl 0 rfl) ?_
    refine th_getK hC cf_X3 hB.1 h0 ro_12 rfl (j := 3) (by decide) m3 kf_X3_23 dX3_flowIn_6 ?_
    refine tm_alen hC k3 rfl (by decide) dX3_flowIn_9 (fun x1 ex1 => ?_)
    refine tr_icmp_ge (tgt := 22) hx hb dX3_flowIn_10 (by decide) (Eq.refl _) (Eq.refl _) (fun c10 => ?_) (fun c10 => ?_)
    · refine lv_iconst (v := 0) hx hb dX3_flowIn_22 (by decide) ?_
      exact th_iret hC hH hr hlocks rfl hB.2.1 ⟨_, rfl, rfl⟩ dX3_flowIn_23
    · refine lv_aload_n hx hb dX3_flowIn_13 rfl (lv_at hl 0 rfl) ?_
      refine th_getK hC cf_X3 hB.1 h0 ro_12 rfl (j := 3) (by decide) m3 kf_X3_23 dX3_flowIn_14 ?_
      refine lv_iload_n hx hb dX3_flowIn_17 rfl (lv_at hl 1 rfl) ?_
      refine tm_iald hC k3 (Eq.refl _) (by omega) (by omega) dX3_flowIn_18 (fun x2 ex2 => ?_)
      have lx2 := ti_lo x2; have ux2 := ti_hi x2
      refine lv_goto (tgt := 23) hx hb dX3_flowIn_19 (by decide) ?_
      exact th_iret hC hH hr hlocks rfl hB.2.1 ⟨_, rfl, rfl⟩ dX3_flowIn_23

set_option maxHeartbeats 4000000 in
set_option maxRecDepth 100000 in
theorem c_X3_keyIn_14 (l : Launch) (G : th_G) (Γ : th_Ga) (H0 : Heap) (hI : th_I G Γ H0) (a0 : Nat) (h0 : Γ a0 = (12, 0)) (p1 : Int32) (b1 b2 b3 b4 : Nat) (hme : th_ME G Γ H0 a0 14 b1 b2 b3 b4) : Met l yX3_keyIn (.code yX3_keyIn cX3_keyIn 2 (some FieldType.long) :: th_tb) ({ frames := 0, cells := 0, slots := 0, locals := 0 } : Room) (th_P [.ref a0, .int p1] G H0) (th_Q (fun (v : Option Value) (H1 : Heap) => ∃ r : Int64, v = some (.long r) ∧ H0 = H1) G) 0 0 (fun q => G.2.2 ≤ q) := by
  refine th_met RX3 (by decide) rfl (Nat.le_of_ble_eq_true rfl) ?_
  intro p e s m below meth c hC hH hr hlocks hnm ls hl
  have hx := hC.1
  have hb := hC.2.1
  have hB : th_B G Γ Γ [] H0 H0 [] := ⟨hI, va_S.rf, th_F_rf⟩
  have hl : lv_has ls 2 [(0, .ref a0), (1, .int p1)] := hl
  have lp1 := ti_lo p1; have up1 := ti_hi p1
  obtain ⟨-, m0, m1, m2, m3, m4, ⟨d12, d13, d14, d23, d24, d34⟩, ⟨f1, k1⟩, ⟨f2, k2⟩, ⟨f3, k3⟩, ⟨f4, k4, r4⟩, u, mu, lu, uu⟩ := id hme
  have k1 : th_MA G Γ H0 b1 1 16384 (fun i => .long (f1 i)) := k1
  have k2 : th_MA G Γ H0 b2 0 16384 (fun i => .int (f2 i)) := k2
  have k3 : th_MA G Γ H0 b3 0 16384 (fun i => .int (f3 i)) := k3
  have k4 : th_MA G Γ H0 b4 0 8192 (fun i => .int (f4 i)) := k4
  have r4 : ∀ i, 0 ≤ (f4 i).toInt ∧ (f4 i).toInt < 16384 := r4
  have uu : u.toInt ≤ 8192 := uu
  skip
  refine lv_iload_n hx hb dX3_keyIn_0 rfl (lv_at hl 1 rfl) ?_
  refine tr_if_lt (tgt := 22) hx hb dX3_keyIn_1 (by decide) (Eq.refl _) (fun c1 => ?_) (fun c1 => ?_)
  · refine lv_ldc2 (v := (-1)) hx hb hC.2.2.2.1 (hC.2.2.2.2.1 _ kw_296) dX3_keyIn_22 ?_
    exact th_lret hC hH hr hlocks hB.2.1 ⟨_, rfl, rfl⟩ dX3_keyIn_25
  · refine lv_iload_n hx hb dX3_keyIn_4 rfl (lv_at hl 1 rfl) ?_
    refine lv_aload_n hx hb dX3_keyIn_5 rfl (lv_at hl 0 rfl) ?_
    refine th_getK hC cf_X3 hB.1 h0 ro_12 rfl (j := 1) (by decide) m1 kf_X3_15 dX3_keyIn_6 ?_
    refine tm_alen hC k1 rfl (by decide) dX3_keyIn_9 (fun x1 ex1 => ?_)
    refine tr_icmp_ge (tgt := 22) hx hb dX3_keyIn_10 (by decide) (Eq.refl _) (Eq.refl _) (fun c10 => ?_) (fun c10 => ?_)
    · refine lv_ldc2 (v := (-1)) hx hb hC.2.2.2.1 (hC.2.2.2.2.1 _ kw_296) dX3_keyIn_22 ?_
      exact th_lret hC hH hr hlocks hB.2.1 ⟨_, rfl, rfl⟩ dX3_keyIn_25
    · refine lv_aload_n hx hb dX3_keyIn_13 rfl (lv_at hl 0 rfl) ?_
      refine th_getK hC cf_X3 hB.1 h0 ro_12 rfl (j := 1) (by decide) m1 kf_X3_15 dX3_keyIn_14 ?_
      refine lv_iload_n hx hb dX3_keyIn_17 rfl (lv_at hl 1 rfl) ?_
      refine tm_lald hC k1 (Eq.refl _) (by omega) (by omega) dX3_keyIn_18 (fun y2 ey2 => ?_)
      refine lv_goto (tgt := 25) hx hb dX3_keyIn_19 (by decide) ?_
      exact th_lret hC hH hr hlocks hB.2.1 ⟨_, rfl, rfl⟩ dX3_keyIn_25

set_option maxHeartbeats 4000000 in
set_option maxRecDepth 100000 in
theorem c_X3_addFlow_14 (l : Launch) (G : th_G) (Γ : th_Ga) (H0 : Heap) (hI : th_I G Γ H0) (hR : th_RC G Γ H0) (a0 : Nat) (h0 : Γ a0 = (12, 0)) (p1 : Int32) (p2 : Int32) (b1 b2 b3 b4 : Nat) (hme : th_ME G Γ H0 a0 14 b1 b2 b3 b4) : Met l yX3_addFlow (.code yX3_addFlow cX3_addFlow 3 (none) :: th_tb) ({ frames := 0, cells := 0, slots := 0, locals := 0 } : Room) (th_P [.ref a0, .int p1, .int p2] G H0) (th_Q (fun (v : Option Value) (H1 : Heap) => v = none ∧ th_I G Γ H1 ∧ th_F G Γ [] H0 H1 ∧ th_RC G Γ H1) G) 0 0 (fun q => G.2.2 ≤ q) := by
  refine th_met RX3 (by decide) rfl (Nat.le_of_ble_eq_true rfl) ?_
  intro p e s m below meth c hC hH hr hlocks hnm ls hl
  have hx := hC.1
  have hb := hC.2.1
  have hB : th_B G Γ Γ [] H0 H0 [] := ⟨hI, va_S.rf, th_F_rf⟩
  have hl : lv_has ls 3 [(0, .ref a0), (1, .int p1), (2, .int p2)] := hl
  have lp1 := ti_lo p1; have up1 := ti_hi p1
  have lp2 := ti_lo p2; have up2 := ti_hi p2
  obtain ⟨-, m0, m1, m2, m3, m4, ⟨d12, d13, d14, d23, d24, d34⟩, ⟨f1, k1⟩, ⟨f2, k2⟩, ⟨f3, k3⟩, ⟨f4, k4, r4⟩, u, mu, lu, uu⟩ := id hme
  have k1 : th_MA G Γ H0 b1 1 16384 (fun i => .long (f1 i)) := k1
  have k2 : th_MA G Γ H0 b2 0 16384 (fun i => .int (f2 i)) := k2
  have k3 : th_MA G Γ H0 b3 0 16384 (fun i => .int (f3 i)) := k3
  have k4 : th_MA G Γ H0 b4 0 8192 (fun i => .int (f4 i)) := k4
  have r4 : ∀ i, 0 ≤ (f4 i).toInt ∧ (f4 i).toInt < 16384 := r4
  have uu : u.toInt ≤ 8192 := uu
  have hR0 := hR
  refine lv_iload_n hx hb dX3_addFlow_0 rfl (lv_at hl 1 rfl) ?_
  refine tr_if_lt (tgt := 23) hx hb dX3_addFlow_1 (by decide) (Eq.refl _) (fun c1 => ?_) (fun c1 => ?_)
  · exact th_vret hC hH hr hlocks hB.2.1 ⟨rfl, hB.1, hB.2.2, hR⟩ dX3_addFlow_23
  · refine lv_iload_n hx hb dX3_addFlow_4 rfl (lv_at hl 1 rfl) ?_
    refine lv_aload_n hx hb dX3_addFlow_5 rfl (lv_at hl 0 rfl) ?_
    refine th_getK hC cf_X3 hB.1 h0 ro_12 rfl (j := 3) (by decide) m3 kf_X3_23 dX3_addFlow_6 ?_
    refine tm_alen hC k3 rfl (by decide) dX3_addFlow_9 (fun x1 ex1 => ?_)
    refine tr_icmp_ge (tgt := 23) hx hb dX3_addFlow_10 (by decide) (Eq.refl _) (Eq.refl _) (fun c10 => ?_) (fun c10 => ?_)
    · exact th_vret hC hH hr hlocks hB.2.1 ⟨rfl, hB.1, hB.2.2, hR⟩ dX3_addFlow_23
    · refine lv_aload_n hx hb dX3_addFlow_13 rfl (lv_at hl 0 rfl) ?_
      refine th_getK hC cf_X3 hB.1 h0 ro_12 rfl (j := 3) (by decide) m3 kf_X3_23 dX3_addFlow_14 ?_
      refine lv_iload_n hx hb dX3_addFlow_17 rfl (lv_at hl 1 rfl) ?_
      refine lv_dup2_11 hx hb dX3_addFlow_18 rfl rfl ?_
      refine tm_iald hC k3 (Eq.refl _) (by omega) (by omega) dX3_addFlow_19 (fun x2 ex2 => ?_)
      have lx2 := ti_lo x2; have ux2 := ti_hi x2
      refine lv_iload_n hx hb dX3_addFlow_20 rfl (lv_at hl 2 rfl) ?_
      refine lv_iadd hx hb dX3_addFlow_21 ?_
      refine lv_topi (fun x3 ex3 => ?_)
      have lx3 := ti_lo x3; have ux3 := ti_hi x3
      refine tm_iast hC hB k3 (Eq.refl _) (by omega) (by omega) dX3_addFlow_22 (fun H22 locs hB ka4 oq22 => ?_)
      obtain ⟨fa5, ka4⟩ : ∃ g : Nat → Int32, th_MA G Γ H22 b3 0 16384 (fun i => .int (g i)) := ⟨_, ka4⟩
      have ka6 := tm_MAo k1 oq22 (id d13)
      have ka7 := tm_MAo k2 oq22 (id d23)
      have ka8 := tm_MAo k4 oq22 (fun e => d34 e.symm)
      have mm9 := (tm_slo h0 ro_12 k3 oq22 _).trans m0
      have mm10 := (tm_slo h0 ro_12 k3 oq22 _).trans m1
      have mm11 := (tm_slo h0 ro_12 k3 oq22 _).trans m2
      have mm12 := (tm_slo h0 ro_12 k3 oq22 _).trans m3
      have mm13 := (tm_slo h0 ro_12 k3 oq22 _).trans m4
      have mm14 := (tm_slo h0 ro_12 k3 oq22 _).trans mu
      exact th_vret hC hH hr hlocks hB.2.1 ⟨rfl, hB.1, hB.2.2, th_RC_me hB.1 hR0 hB.2.2 (by decide) h0 ⟨_, _, _, _, _, (show th_ME G Γ H22 a0 14 b1 b2 b3 b4 from ⟨by decide, mm9, mm10, mm11, mm12, mm13, ⟨d12, d13, d14, d23, d24, d34⟩, ⟨_, ka6⟩, ⟨_, ka7⟩, ⟨_, ka4⟩, ⟨_, ka8, r4⟩, _, mm14, by omega, by omega⟩)⟩⟩ dX3_addFlow_23

set_option maxHeartbeats 4000000 in
set_option maxRecDepth 100000 in
theorem c_X3_clear_14 (l : Launch) (G : th_G) (Γ : th_Ga) (H0 : Heap) (hI : th_I G Γ H0) (hR : th_RC G Γ H0) (a0 : Nat) (h0 : Γ a0 = (12, 0)) (b1 b2 b3 b4 : Nat) (hme : th_ME G Γ H0 a0 14 b1 b2 b3 b4) : Met l yX3_clear (.code yX3_clear cX3_clear 2 (none) :: th_tb) ({ frames := 0, cells := 0, slots := 0, locals := 0 } : Room) (th_P [.ref a0] G H0) (th_Q (fun (v : Option Value) (H1 : Heap) => v = none ∧ th_I G Γ H1 ∧ th_F G Γ [(12, 5), (12, 6)] H0 H1 ∧ th_RC G Γ H1) G) 0 0 (fun q => G.2.2 ≤ q) := by
  refine th_met RX3 (by decide) rfl (Nat.le_of_ble_eq_true rfl) ?_
  intro p e s m below meth c hC hH hr hlocks hnm ls hl
  have hx := hC.1
  have hb := hC.2.1
  have hB : th_B G Γ Γ [(12, 5), (12, 6)] H0 H0 [] := ⟨hI, va_S.rf, th_F_rf⟩
  have hl : lv_has ls 2 [(0, .ref a0)] := hl
  obtain ⟨-, m0, m1, m2, m3, m4, ⟨d12, d13, d14, d23, d24, d34⟩, ⟨f1, k1⟩, ⟨f2, k2⟩, ⟨f3, k3⟩, ⟨f4, k4, r4⟩, u, mu, lu, uu⟩ := id hme
  have k1 : th_MA G Γ H0 b1 1 16384 (fun i => .long (f1 i)) := k1
  have k2 : th_MA G Γ H0 b2 0 16384 (fun i => .int (f2 i)) := k2
  have k3 : th_MA G Γ H0 b3 0 16384 (fun i => .int (f3 i)) := k3
  have k4 : th_MA G Γ H0 b4 0 8192 (fun i => .int (f4 i)) := k4
  have r4 : ∀ i, 0 ≤ (f4 i).toInt ∧ (f4 i).toInt < 16384 := r4
  have uu : u.toInt ≤ 8192 := uu
  have hR0 := hR
  refine lv_iconst (v := 0) hx hb dX3_clear_0 (by decide) ?_
  refine lv_istore_n (lv' := [(1, .int 0), (0, .ref a0)]) hx hb dX3_clear_1 rfl hl (by decide) rfl (fun ls hl => ?_)
  have lp2 : ∀ (n2 : Nat) (H2 : Heap) (locs : List Loc) (ls : Array Slot) (j2_1 : Int32) (f1_2 : Nat → Int64) (f2_2 : Nat → Int32) (f3_2 : Nat → Int32) (f4_2 : Nat → Int32), th_B G Γ Γ [(12, 5), (12, 6)] H0 H2 locs → lv_has ls 2 [(0, .ref a0), (1, .int j2_1)] → 0 ≤ j2_1.toInt → j2_1.toInt ≤ 8192 → th_sl H2 a0 (G.1.2 3 0) = .int (nI 14) → th_sl H2 a0 (G.1.2 3 1) = .ref b1 → th_sl H2 a0 (G.1.2 3 2) = .ref b2 → th_sl H2 a0 (G.1.2 3 3) = .ref b3 → th_sl H2 a0 (G.1.2 3 4) = .ref b4 → th_sl H2 a0 (G.1.2 3 5) = .int u → th_MA G Γ H2 b1 1 16384 (fun i => .long (f1_2 i)) → th_MA G Γ H2 b2 0 16384 (fun i => .int (f2_2 i)) → th_MA G Γ H2 b3 0 16384 (fun i => .int (f3_2 i)) → th_MA G Γ H2 b4 0 8192 (fun i => .int (f4_2 i)) → (∀ i, 0 ≤ (f4_2 i).toInt ∧ (f4_2 i).toInt < 16384) → (2147483648 : Int) - j2_1.toInt ≤ (n2 : Int) → W p l e ({ frames := 0, cells := 0, slots := 0, locals := 0 } : Room) s m ([.ref a0] : List Value).toArray below meth c H2 locs 0 0 (MQ below (th_Q (fun (v : Option Value) (H1 : Heap) => v = none ∧ th_I G Γ H1 ∧ th_F G Γ [(12, 5), (12, 6)] H0 H1 ∧ th_RC G Γ H1) G) ([.ref a0] : List Value).toArray s 0 0 (fun q => G.2.2 ≤ q)) (F0 m 2 ls []) := by
    intro n2
    induction n2 with
    | zero => intro H2 locs ls j2_1 f1_2 f2_2 f3_2 f4_2 hB hl g2_0 g2_1 g2_2 g2_3 g2_4 g2_5 g2_6 g2_7 g2_8 g2_9 g2_10 g2_11 g2_12 hm2; exact absurd hm2 (by have := ti_hi j2_1; omega)
    | succ n2 ih2 =>
      intro H2 locs ls j2_1 f1_2 f2_2 f3_2 f4_2 hB hl g2_0 g2_1 g2_2 g2_3 g2_4 g2_5 g2_6 g2_7 g2_8 g2_9 g2_10 g2_11 g2_12 hm2
      have lj2_1 := ti_lo j2_1; have uj2_1 := ti_hi j2_1
      have hm2 : (2147483648 : Int) - j2_1.toInt ≤ (n2 : Int) + 1 := by omega
      refine lv_iload_n hx hb dX3_clear_2 rfl (lv_at hl 1 rfl) ?_
      refine lv_aload_n hx hb dX3_clear_3 rfl (lv_at hl 0 rfl) ?_
      refine th_getK hC cf_X3 hB.1 h0 ro_12 rfl (j := 5) (by decide) g2_7 kf_X3_29 dX3_clear_4 ?_
      refine tr_icmp_ge (tgt := 30) hx hb dX3_clear_7 (by decide) (Eq.refl _) (Eq.refl _) (fun c7 => ?_) (fun c7 => ?_)
      · refine lv_aload_n hx hb dX3_clear_30 rfl (lv_at hl 0 rfl) ?_
        refine lv_iconst (v := 0) hx hb dX3_clear_31 (by decide) ?_
        refine th_put hC cf_X3 hB h0 (Or.inl h0) ro_12 rfl (j := 5) rfl (th_sI (by decide) (by decide)) (by decide) rfl rfl rfl kf_X3_29 dX3_clear_32 (fun H32 locs hB hf hst32 => ?_)
        have mm1 := (th_F_o hf h0 ro_12 (j := 0) (by decide) (by decide)).trans g2_2
        have mm2 := (th_F_o hf h0 ro_12 (j := 1) (by decide) (by decide)).trans g2_3
        have mm3 := (th_F_o hf h0 ro_12 (j := 2) (by decide) (by decide)).trans g2_4
        have mm4 := (th_F_o hf h0 ro_12 (j := 3) (by decide) (by decide)).trans g2_5
        have mm5 := (th_F_o hf h0 ro_12 (j := 4) (by decide) (by decide)).trans g2_6
        have ka6 := tm_MAt g2_8 (th_T_s h0 ro_12 hst32)
        have ka7 := tm_MAt g2_9 (th_T_s h0 ro_12 hst32)
        have ka8 := tm_MAt g2_10 (th_T_s h0 ro_12 hst32)
        have ka9 := tm_MAt g2_11 (th_T_s h0 ro_12 hst32)
        have mm10 := hst32.2.1
        refine lv_aload_n hx hb dX3_clear_35 rfl (lv_at hl 0 rfl) ?_
        refine lv_iconst (v := 0) hx hb dX3_clear_36 (by decide) ?_
        refine th_put hC cf_X3 hB h0 (Or.inl h0) ro_12 rfl (j := 6) rfl (th_sI (by decide) (by decide)) (by decide) rfl narrow_b0 rfl kf_X3_32 dX3_clear_37 (fun H37 locs hB hf hst37 => ?_)
        have mm11 := (th_F_o hf h0 ro_12 (j := 0) (by decide) (by decide)).trans mm1
        have mm12 := (th_F_o hf h0 ro_12 (j := 1) (by decide) (by decide)).trans mm2
        have mm13 := (th_F_o hf h0 ro_12 (j := 2) (by decide) (by decide)).trans mm3
        have mm14 := (th_F_o hf h0 ro_12 (j := 3) (by decide) (by decide)).trans mm4
        have mm15 := (th_F_o hf h0 ro_12 (j := 4) (by decide) (by decide)).trans mm5
        have mm16 := (th_F_o hf h0 ro_12 (j := 5) (by decide) (by decide)).trans mm10
        have ka17 := tm_MAt ka6 (th_T_s h0 ro_12 hst37)
        have ka18 := tm_MAt ka7 (th_T_s h0 ro_12 hst37)
        have ka19 := tm_MAt ka8 (th_T_s h0 ro_12 hst37)
        have ka20 := tm_MAt ka9 (th_T_s h0 ro_12 hst37)
        have mm21 := hst37.2.1
        exact th_vret hC hH hr hlocks hB.2.1 ⟨rfl, hB.1, hB.2.2, th_RC_me hB.1 hR0 hB.2.2 (by decide) h0 ⟨_, _, _, _, _, (show th_ME G Γ H37 a0 14 b1 b2 b3 b4 from ⟨by decide, mm11, mm12, mm13, mm14, mm15, ⟨d12, d13, d14, d23, d24, d34⟩, ⟨_, ka17⟩, ⟨_, ka18⟩, ⟨_, ka19⟩, ⟨_, ka20, g2_12⟩, _, mm16, by have w9 := tk_0; omega, by have w9 := tk_0; omega⟩)⟩⟩ dX3_clear_40
      · refine lv_aload_n hx hb dX3_clear_10 rfl (lv_at hl 0 rfl) ?_
        refine th_getK hC cf_X3 hB.1 h0 ro_12 rfl (j := 1) (by decide) g2_3 kf_X3_15 dX3_clear_11 ?_
        refine lv_aload_n hx hb dX3_clear_14 rfl (lv_at hl 0 rfl) ?_
        refine th_getK hC cf_X3 hB.1 h0 ro_12 rfl (j := 4) (by decide) g2_6 kf_X3_26 dX3_clear_15 ?_
        refine lv_iload_n hx hb dX3_clear_18 rfl (lv_at hl 1 rfl) ?_
        refine tm_iald hC g2_11 (Eq.refl _) (by omega) (by omega) dX3_clear_19 (fun x22 ex22 => ?_)
        have fx22 := g2_12 (j2_1.toInt).toNat
        rw [← ex22] at fx22
        refine lv_ldc2 (v := (-1)) hx hb hC.2.2.2.1 (hC.2.2.2.2.1 _ kw_296) dX3_clear_20 ?_
        refine tm_last hC hB g2_8 (Eq.refl _) (by omega) (by omega) dX3_clear_23 (fun H23 locs hB ka23 oq23 => ?_)
        obtain ⟨fa24, ka23⟩ : ∃ g : Nat → Int64, th_MA G Γ H23 b1 1 16384 (fun i => .long (g i)) := ⟨_, ka23⟩
        have ka25 := tm_MAo g2_9 oq23 (fun e => d12 e.symm)
        have ka26 := tm_MAo g2_10 oq23 (fun e => d13 e.symm)
        have ka27 := tm_MAo g2_11 oq23 (fun e => d14 e.symm)
        have mm28 := (tm_slo h0 ro_12 g2_8 oq23 _).trans g2_2
        have mm29 := (tm_slo h0 ro_12 g2_8 oq23 _).trans g2_3
        have mm30 := (tm_slo h0 ro_12 g2_8 oq23 _).trans g2_4
        have mm31 := (tm_slo h0 ro_12 g2_8 oq23 _).trans g2_5
        have mm32 := (tm_slo h0 ro_12 g2_8 oq23 _).trans g2_6
        have mm33 := (tm_slo h0 ro_12 g2_8 oq23 _).trans g2_7
        refine tr_iinc (fun x34 => [(1, .int x34), (0, .ref a0)]) hx hb dX3_clear_24 hl (k := 1) rfl (Eq.refl _) tk_1 (by omega) (by omega) (by decide) (fun _ => rfl) (fun x34 ls ex34 hl => ?_)
        refine lv_goto (tgt := 2) hx hb dX3_clear_27 (by decide) ?_
        exact ih2 H23 locs ls x34 fa24 f2_2 f3_2 f4_2 hB (lv_sub hl [1, 0] rfl) (by omega) (by omega) mm28 mm29 mm30 mm31 mm32 mm33 ka23 ka25 ka26 ka27 g2_12 (by omega)
  exact lp2 ((2147483648 : Int) - (0)).toNat H0 [] ls 0 f1 f2 f3 f4 hB (lv_sub hl [1, 0] rfl) (by decide) (by decide) m0 m1 m2 m3 m4 mu k1 k2 k3 k4 r4 (by have w0 := tk_0; omega)

set_option maxHeartbeats 4000000 in
set_option maxRecDepth 100000 in
theorem c_X3_put_14 (l : Launch) (G : th_G) (Γ : th_Ga) (H0 : Heap) (hI : th_I G Γ H0) (a0 : Nat) (h0 : Γ a0 = (12, 0)) (p1 : Int64) (p2 : Int32) (p3 : Int32) (f3 : 0 ≤ p3.toInt) (g3 : p3.toInt ≤ 8191) (b1 b2 b3 b4 : Nat) (hme : th_ME G Γ H0 a0 14 b1 b2 b3 b4) : Met l yX3_put (.code yX3_put cX3_put 6 (none) :: th_tb) ({ frames := 1, cells := 0, slots := 0, locals := 24 } : Room) (th_P [.ref a0, .long p1, .int p2, .int p3] G H0) (th_Q (fun (v : Option Value) (H1 : Heap) => v = none ∧ th_I G Γ H1 ∧ th_F G Γ [] H0 H1 ∧ (th_ME G Γ H1 a0 14 b1 b2 b3 b4) ∧ (th_FR [b1, b2, b3, b4] H0 H1)) G) 0 0 (fun q => G.2.2 ≤ q) := by
  refine th_met RX3 (by decide) rfl (Nat.le_of_ble_eq_true rfl) ?_
  intro p e s m below meth c hC hH hr hlocks hnm ls hl
  have hx := hC.1
  have hb := hC.2.1
  have hB : th_B G Γ Γ [] H0 H0 [] := ⟨hI, va_S.rf, th_F_rf⟩
  have hl : lv_has ls 6 [(0, .ref a0), (1, .long p1), (3, .int p2), (4, .int p3)] := hl
  have lp2 := ti_lo p2; have up2 := ti_hi p2
  have lp3 := ti_lo p3; have up3 := ti_hi p3
  obtain ⟨-, m0, m1, m2, m3, m4, ⟨d12, d13, d14, d23, d24, d34⟩, ⟨f1, k1⟩, ⟨f2, k2⟩, ⟨f3, k3⟩, ⟨f4, k4, r4⟩, u, mu, lu, uu⟩ := id hme
  have k1 : th_MA G Γ H0 b1 1 16384 (fun i => .long (f1 i)) := k1
  have k2 : th_MA G Γ H0 b2 0 16384 (fun i => .int (f2 i)) := k2
  have k3 : th_MA G Γ H0 b3 0 16384 (fun i => .int (f3 i)) := k3
  have k4 : th_MA G Γ H0 b4 0 8192 (fun i => .int (f4 i)) := k4
  have r4 : ∀ i, 0 ≤ (f4 i).toInt ∧ (f4 i).toInt < 16384 := r4
  have uu : u.toInt ≤ 8192 := uu
  skip
  have hfr : th_FR [b1, b2, b3, b4] H0 H0 := fun q _ => rfl
  refine lv_aload_n hx hb dX3_put_0 rfl (lv_at hl 0 rfl) ?_
  refine lv_lload_n hx hb dX3_put_1 rfl (lv_at hl 1 rfl) ?_
  refine th_call (th_runV (As := [.long p1]) (rest := []) hC mf_X3_slotFor km_X3_46 im_X3_slotFor se_X3_slotFor (c_X3_slotFor_14 l G Γ H0 hB.1 a0 h0 p1 b1 b2 b3 b4 (show th_ME G Γ H0 a0 14 b1 b2 b3 b4 from ⟨by decide, m0, m1, m2, m3, m4, ⟨d12, d13, d14, d23, d24, d34⟩, ⟨_, k1⟩, ⟨_, k2⟩, ⟨_, k3⟩, ⟨_, k4, r4⟩, _, mu, by omega, by omega⟩)) rfl rfl ⟨Nat.le_of_ble_eq_true rfl, Nat.le_of_ble_eq_true rfl⟩ hB.1 h0 ro_12 rfl rfl hl.1 rfl (Nat.le_of_ble_eq_true rfl) dX3_put_2 ⟨Nat.le_refl _, Nat.le_refl _⟩) hB.2.1 (fun v2 H2 locs hp hz hS => ?_)
  obtain ⟨x1, rfl, lx1, ux1, rfl⟩ := hp
  have hB := th_B_s hB hS
  refine W.eq (g2 := F0 m 5 ls [.int x1]) rfl ?_
  refine lv_istore (lv' := [(5, .int x1), (0, .ref a0), (1, .long p1), (3, .int p2), (4, .int p3)]) hx hb dX3_put_5 hl (by decide) rfl (fun ls hl => ?_)
  refine lv_aload_n hx hb dX3_put_7 rfl (lv_at hl 1 rfl) ?_
  refine th_getK hC cf_X3 hB.1 h0 ro_12 rfl (j := 1) (by decide) m1 kf_X3_15 dX3_put_8 ?_
  refine lv_iload hx hb dX3_put_11 (lv_at hl 0 rfl) ?_
  refine lv_lload_n hx hb dX3_put_13 rfl (lv_at hl 2 rfl) ?_
  refine tm_last hC hB k1 (Eq.refl _) (by omega) (by omega) dX3_put_14 (fun H14 locs hB ka2 oq14 => ?_)
  obtain ⟨fa3, ka2⟩ : ∃ g : Nat → Int64, th_MA G Γ H14 b1 1 16384 (fun i => .long (g i)) := ⟨_, ka2⟩
  have hfr := th_FR_st hfr oq14 (by simp)
  have ka4 := tm_MAo k2 oq14 (fun e => d12 e.symm)
  have ka5 := tm_MAo k3 oq14 (fun e => d13 e.symm)
  have ka6 := tm_MAo k4 oq14 (fun e => d14 e.symm)
  have mm7 := (tm_slo h0 ro_12 k1 oq14 _).trans m0
  have mm8 := (tm_slo h0 ro_12 k1 oq14 _).trans m1
  have mm9 := (tm_slo h0 ro_12 k1 oq14 _).trans m2
  have mm10 := (tm_slo h0 ro_12 k1 oq14 _).trans m3
  have mm11 := (tm_slo h0 ro_12 k1 oq14 _).trans m4
  have mm12 := (tm_slo h0 ro_12 k1 oq14 _).trans mu
  refine lv_aload_n hx hb dX3_put_15 rfl (lv_at hl 1 rfl) ?_
  refine th_getK hC cf_X3 hB.1 h0 ro_12 rfl (j := 2) (by decide) mm9 kf_X3_19 dX3_put_16 ?_
  refine lv_iload hx hb dX3_put_19 (lv_at hl 0 rfl) ?_
  refine lv_iload_n hx hb dX3_put_21 rfl (lv_at hl 3 rfl) ?_
  refine tm_iast hC hB ka4 (Eq.refl _) (by omega) (by omega) dX3_put_22 (fun H22 locs hB ka13 oq22 => ?_)
  obtain ⟨fa14, ka13⟩ : ∃ g : Nat → Int32, th_MA G Γ H22 b2 0 16384 (fun i => .int (g i)) := ⟨_, ka13⟩
  have hfr := th_FR_st hfr oq22 (by simp)
  have ka15 := tm_MAo ka2 oq22 (id d12)
  have ka16 := tm_MAo ka5 oq22 (fun e => d23 e.symm)
  have ka17 := tm_MAo ka6 oq22 (fun e => d24 e.symm)
  have mm18 := (tm_slo h0 ro_12 ka4 oq22 _).trans mm7
  have mm19 := (tm_slo h0 ro_12 ka4 oq22 _).trans mm8
  have mm20 := (tm_slo h0 ro_12 ka4 oq22 _).trans mm9
  have mm21 := (tm_slo h0 ro_12 ka4 oq22 _).trans mm10
  have mm22 := (tm_slo h0 ro_12 ka4 oq22 _).trans mm11
  have mm23 := (tm_slo h0 ro_12 ka4 oq22 _).trans mm12
  refine lv_aload_n hx hb dX3_put_23 rfl (lv_at hl 1 rfl) ?_
  refine th_getK hC cf_X3 hB.1 h0 ro_12 rfl (j := 3) (by decide) mm21 kf_X3_23 dX3_put_24 ?_
  refine lv_iload hx hb dX3_put_27 (lv_at hl 0 rfl) ?_
  refine lv_iconst (v := 0) hx hb dX3_put_29 (by decide) ?_
  refine tm_iast hC hB ka16 (Eq.refl _) (by omega) (by omega) dX3_put_30 (fun H30 locs hB ka24 oq30 => ?_)
  obtain ⟨fa25, ka24⟩ : ∃ g : Nat → Int32, th_MA G Γ H30 b3 0 16384 (fun i => .int (g i)) := ⟨_, ka24⟩
  have hfr := th_FR_st hfr oq30 (by simp)
  have ka26 := tm_MAo ka15 oq30 (id d13)
  have ka27 := tm_MAo ka13 oq30 (id d23)
  have ka28 := tm_MAo ka17 oq30 (fun e => d34 e.symm)
  have mm29 := (tm_slo h0 ro_12 ka16 oq30 _).trans mm18
  have mm30 := (tm_slo h0 ro_12 ka16 oq30 _).trans mm19
  have mm31 := (tm_slo h0 ro_12 ka16 oq30 _).trans mm20
  have mm32 := (tm_slo h0 ro_12 ka16 oq30 _).trans mm21
  have mm33 := (tm_slo h0 ro_12 ka16 oq30 _).trans mm22
  have mm34 := (tm_slo h0 ro_12 ka16 oq30 _).trans mm23
  refine lv_aload_n hx hb dX3_put_31 rfl (lv_at hl 1 rfl) ?_
  refine th_getK hC cf_X3 hB.1 h0 ro_12 rfl (j := 4) (by decide) mm33 kf_X3_26 dX3_put_32 ?_
  refine lv_iload hx hb dX3_put_35 (lv_at hl 4 rfl) ?_
  refine lv_iload hx hb dX3_put_37 (lv_at hl 0 rfl) ?_
  refine tm_iast hC hB ka28 (Eq.refl _) (by omega) (by omega) dX3_put_39 (fun H39 locs hB ka35 oq39 => ?_)
  obtain ⟨fa36, ka35, ra37⟩ : ∃ g : Nat → Int32, th_MA G Γ H39 b4 0 8192 (fun i => .int (g i)) ∧ ∀ i, 0 ≤ (g i).toInt ∧ (g i).toInt < 16384 := ⟨_, ka35, fun i => by (try dsimp only); split; exact ⟨by omega, by omega⟩; exact r4 i⟩
  have hfr := th_FR_st hfr oq39 (by simp)
  have ka38 := tm_MAo ka26 oq39 (id d14)
  have ka39 := tm_MAo ka27 oq39 (id d24)
  have ka40 := tm_MAo ka24 oq39 (id d34)
  have mm41 := (tm_slo h0 ro_12 ka28 oq39 _).trans mm29
  have mm42 := (tm_slo h0 ro_12 ka28 oq39 _).trans mm30
  have mm43 := (tm_slo h0 ro_12 ka28 oq39 _).trans mm31
  have mm44 := (tm_slo h0 ro_12 ka28 oq39 _).trans mm32
  have mm45 := (tm_slo h0 ro_12 ka28 oq39 _).trans mm33
  have mm46 := (tm_slo h0 ro_12 ka28 oq39 _).trans mm34
  exact th_vret hC hH hr hlocks hB.2.1 ⟨rfl, hB.1, hB.2.2, (show th_ME G Γ H39 a0 14 b1 b2 b3 b4 from ⟨by decide, mm41, mm42, mm43, mm44, mm45, ⟨d12, d13, d14, d23, d24, d34⟩, ⟨_, ka38⟩, ⟨_, ka39⟩, ⟨_, ka40⟩, ⟨_, ka35, ra37⟩, _, mm46, by omega, by omega⟩), hfr⟩ dX3_put_40
