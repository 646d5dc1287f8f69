def th_pc (n : Nat) : Nat := (14 - n) * 2
def th_pq (n : Nat) : Nat := (14 - n) * 39424 - (14 - n) * (14 - n) * 5376
def th_bits (G : th_G) (Γ : th_Ga) (H : Heap) (n : Nat) : Prop := (n = 10 ∨ n = 12 ∨ n = 14) ∧ ∃ a : Nat, Γ a = (12, 0) ∧ th_sl H a (G.1.2 3 0) = .int (nI n)
def th_bp (G : th_G) (Γ : th_Ga) (H H1 : Heap) (u : Nat) : Prop := ∃ u1 : Nat, th_bits G Γ H1 u1 ∧ th_pc u1 ≤ th_pc u ∧ th_pq u1 ≤ th_pq u ∧ H1.size + th_pc u1 ≤ H.size + th_pc u ∧ th_su H1 + th_pq u1 ≤ th_su H + th_pq u
theorem th_bits_me {G : th_G} {Γ : th_Ga} {H : Heap} {a n b1 b2 b3 b4 : Nat} (h : Γ a = (12, 0)) (hme : th_ME G Γ H a n b1 b2 b3 b4) : th_bits G Γ H n := ⟨hme.1, a, h, hme.2.1⟩
theorem th_bits_F {G : th_G} {Γ : th_Ga} {L : List (Nat × Nat)} {H H1 : Heap} {n : Nat} (hF : th_F G Γ L H H1) (h : th_bits G Γ H n) (hL : th_in L 12 0 = false) : th_bits G Γ H1 n := by
  obtain ⟨e0, a, e1, e2⟩ := h
  exact ⟨e0, a, e1, (th_F_o hF e1 ro_12 (j := 0) (by decide) hL).trans e2⟩
theorem th_bits_RC {G : th_G} {Γ : th_Ga} {H : Heap} {a n : Nat} (hR : th_RC G Γ H) (h : th_bits G Γ H n) (ha : Γ a = (12, 0)) : ∃ b1 b2 b3 b4 : Nat, th_ME G Γ H a n b1 b2 b3 b4 := by
  obtain ⟨e0, a', e1, e2⟩ := h
  cases hR.2.2.2 a a' 0 0 ha e1
  obtain ⟨m, b1, b2, b3, b4, hme⟩ := hR.2.2.1 a 0 ha
  have e3 := hme.2.1
  rw [e2] at e3
  have e4 : nI n = nI m := by injection e3
  have e5 : n = m := by
    rcases e0 with rfl | rfl | rfl <;> rcases hme.1 with rfl | rfl | rfl <;> first | rfl | exact absurd e4 (by decide)
  subst e5
  exact ⟨b1, b2, b3, b4, hme⟩
set_option maxHeartbeats 4000000 in
set_option maxRecDepth 100000 in
theorem c_X3_grow_12 (l : Launch) (G : th_G) (Γ : th_Ga) (H0 : Heap) (hI : th_I G Γ H0) (hR : th_RC G Γ H0) (a0 : Nat) (h0 : Γ a0 = (12, 0)) (b1 b2 b3 b4 : Nat) (hme : th_ME G Γ H0 a0 12 b1 b2 b3 b4) : Met l yX3_grow (.code yX3_grow cX3_grow 5 (none) :: th_tb) ({ frames := 2, cells := 4, slots := 57344, locals := 49 } : Room) (th_P [.ref a0] G H0) (th_Q (fun (v : Option Value) (H1 : Heap) => v = none ∧ th_I G Γ H1 ∧ th_F G Γ [(12, 0), (12, 1), (12, 2), (12, 3), (12, 4)] H0 H1 ∧ th_RC G Γ H1 ∧ (∃ c1 c2 c3 c4 : Nat, th_ME G Γ H1 a0 14 c1 c2 c3 c4)) G) 4 57344 (fun q => G.2.2 ≤ q) := by
  refine th_met RX3 (by decide) rfl (Nat.le_of_ble_eq_true rfl) ?_
  intro p e s m below meth c hC hH hr hlocks hnm ls hl
  have hx := hC.1
  have hb := hC.2.1
  have hB : th_B G Γ Γ [(12, 0), (12, 1), (12, 2), (12, 3), (12, 4)] H0 H0 [] := ⟨hI, va_S.rf, th_F_rf⟩
  have hl : lv_has ls 5 [(0, .ref a0)] := hl
  obtain ⟨-, m0, m1, m2, m3, m4, ⟨d12, d13, d14, d23, d24, d34⟩, ⟨f1, k1⟩, ⟨f2, k2⟩, ⟨f3, k3⟩, ⟨f4, k4, r4⟩, u, mu, lu, uu⟩ := id hme
  have k1 : th_MA G Γ H0 b1 1 4096 (fun i => .long (f1 i)) := k1
  have k2 : th_MA G Γ H0 b2 0 4096 (fun i => .int (f2 i)) := k2
  have k3 : th_MA G Γ H0 b3 0 4096 (fun i => .int (f3 i)) := k3
  have k4 : th_MA G Γ H0 b4 0 2048 (fun i => .int (f4 i)) := k4
  have r4 : ∀ i, 0 ≤ (f4 i).toInt ∧ (f4 i).toInt < 4096 := r4
  have uu : u.toInt ≤ 2048 := uu
  have hR0 := hR
  refine lv_aload_n hx hb dX3_grow_0 rfl (lv_at hl 0 rfl) ?_
  refine th_getK hC cf_X3 hB.1 h0 ro_12 rfl (j := 1) (by decide) m1 kf_X3_15 dX3_grow_1 ?_
  refine lv_astore_n (lv' := [(1, .ref b1), (0, .ref a0)]) hx hb dX3_grow_4 rfl hl (by decide) rfl (fun ls hl => ?_)
  refine lv_aload_n hx hb dX3_grow_5 rfl (lv_at hl 1 rfl) ?_
  refine th_getK hC cf_X3 hB.1 h0 ro_12 rfl (j := 2) (by decide) m2 kf_X3_19 dX3_grow_6 ?_
  refine lv_astore_n (lv' := [(2, .ref b2), (1, .ref b1), (0, .ref a0)]) hx hb dX3_grow_9 rfl hl (by decide) rfl (fun ls hl => ?_)
  refine lv_aload_n hx hb dX3_grow_10 rfl (lv_at hl 2 rfl) ?_
  refine th_getK hC cf_X3 hB.1 h0 ro_12 rfl (j := 4) (by decide) m4 kf_X3_26 dX3_grow_11 ?_
  refine lv_astore_n (lv' := [(3, .ref b4), (2, .ref b2), (1, .ref b1), (0, .ref a0)]) hx hb dX3_grow_14 rfl hl (by decide) rfl (fun ls hl => ?_)
  refine lv_aload_n hx hb dX3_grow_15 rfl (lv_at hl 3 rfl) ?_
  refine lv_dup hx hb dX3_grow_16 rfl ?_
  refine th_getK hC cf_X3 hB.1 h0 ro_12 rfl (j := 0) (by decide) m0 kf_X3_11 dX3_grow_17 ?_
  refine lv_iconst (v := 2) hx hb dX3_grow_20 (by decide) ?_
  refine tr_iadd hx hb dX3_grow_21 tk_n12 tk_2 (by omega) (by omega) (fun x1 ex1 => ?_)
  refine th_put hC cf_X3 hB h0 (Or.inl h0) ro_12 rfl (j := 0) rfl (th_sI (by omega) (by omega)) (by decide) rfl rfl rfl kf_X3_11 dX3_grow_22 (fun H22 locs hB hf hst22 => ?_)
  have mm2 := (th_F_o hf h0 ro_12 (j := 1) (by decide) (by decide)).trans m1
  have mm3 := (th_F_o hf h0 ro_12 (j := 2) (by decide) (by decide)).trans m2
  have mm4 := (th_F_o hf h0 ro_12 (j := 3) (by decide) (by decide)).trans m3
  have mm5 := (th_F_o hf h0 ro_12 (j := 4) (by decide) (by decide)).trans m4
  have mm6 := (th_F_o hf h0 ro_12 (j := 5) (by decide) (by decide)).trans mu
  have ka7 := tm_MAt k1 (th_T_s h0 ro_12 hst22)
  have ka8 := tm_MAt k2 (th_T_s h0 ro_12 hst22)
  have ka9 := tm_MAt k3 (th_T_s h0 ro_12 hst22)
  have ka10 := tm_MAt k4 (th_T_s h0 ro_12 hst22)
  have mm11 := hst22.2.1
  refine lv_aload_n hx hb dX3_grow_25 rfl (lv_at hl 3 rfl) ?_
  refine lv_iconst (v := 1) hx hb dX3_grow_26 (by decide) ?_
  refine lv_aload_n hx hb dX3_grow_27 rfl (lv_at hl 3 rfl) ?_
  refine th_getK hC cf_X3 hB.1 h0 ro_12 rfl (j := 0) (by decide) mm11 kf_X3_11 dX3_grow_28 ?_
  refine lv_ishl hx hb dX3_grow_31 ?_
  refine lv_topi (fun x12 ex12 => ?_)
  have lx12 := ti_lo x12; have ux12 := ti_hi x12
  have fx12 : x12.toInt = 16384 := by rw [ex12, show x1 = 14 from Int32.toInt_inj.mp (by rw [show x1.toInt = 14 by omega]; rfl)]; rfl
  refine tm_newa (ty := .long) (t := 1) hC hB rfl rfl rfl kw_246 (tm_sz hB.1 h0 ro_12) (N := 16384) (by omega) (by decide) (Nat.le_of_ble_eq_true rfl) (Nat.le_of_ble_eq_true rfl) dX3_grow_32 (fun q32 H32 eq32 zq32 oq32 hB kq32 => ?_)
  have kq32 : th_MA G Γ H32 q32 1 16384 (fun i => .long ((fun _ => (0 : Int64)) i)) := kq32
  have dd_q32_b1 : th_nq q32 b1 := fun e => absurd (tm_lt ka7) (by rw [← e, eq32]; exact Nat.lt_irrefl _)
  have dd_q32_b2 : th_nq q32 b2 := fun e => absurd (tm_lt ka8) (by rw [← e, eq32]; exact Nat.lt_irrefl _)
  have dd_q32_b3 : th_nq q32 b3 := fun e => absurd (tm_lt ka9) (by rw [← e, eq32]; exact Nat.lt_irrefl _)
  have dd_q32_b4 : th_nq q32 b4 := fun e => absurd (tm_lt ka10) (by rw [← e, eq32]; exact Nat.lt_irrefl _)
  have ka13 := tm_MAo ka7 oq32 (fun e => dd_q32_b1 e.symm)
  have ka14 := tm_MAo ka8 oq32 (fun e => dd_q32_b2 e.symm)
  have ka15 := tm_MAo ka9 oq32 (fun e => dd_q32_b3 e.symm)
  have ka16 := tm_MAo ka10 oq32 (fun e => dd_q32_b4 e.symm)
  have mm17 := (tm_sln h0 ro_12 kq32 oq32 _).trans mm2
  have mm18 := (tm_sln h0 ro_12 kq32 oq32 _).trans mm3
  have mm19 := (tm_sln h0 ro_12 kq32 oq32 _).trans mm4
  have mm20 := (tm_sln h0 ro_12 kq32 oq32 _).trans mm5
  have mm21 := (tm_sln h0 ro_12 kq32 oq32 _).trans mm6
  have mm22 := (tm_sln h0 ro_12 kq32 oq32 _).trans mm11
  refine th_put hC cf_X3 hB h0 (Or.inl h0) ro_12 rfl (j := 1) rfl th_s5 (by decide) rfl rfl rfl kf_X3_15 dX3_grow_34 (fun H34 locs hB hf hst34 => ?_)
  have mm23 := (th_F_o hf h0 ro_12 (j := 2) (by decide) (by decide)).trans mm18
  have mm24 := (th_F_o hf h0 ro_12 (j := 3) (by decide) (by decide)).trans mm19
  have mm25 := (th_F_o hf h0 ro_12 (j := 4) (by decide) (by decide)).trans mm20
  have mm26 := (th_F_o hf h0 ro_12 (j := 5) (by decide) (by decide)).trans mm21
  have mm27 := (th_F_o hf h0 ro_12 (j := 0) (by decide) (by decide)).trans mm22
  have ka28 := tm_MAt ka13 (th_T_s h0 ro_12 hst34)
  have ka29 := tm_MAt ka14 (th_T_s h0 ro_12 hst34)
  have ka30 := tm_MAt ka15 (th_T_s h0 ro_12 hst34)
  have ka31 := tm_MAt ka16 (th_T_s h0 ro_12 hst34)
  have ka32 := tm_MAt kq32 (th_T_s h0 ro_12 hst34)
  have mm33 := hst34.2.1
  refine lv_aload_n hx hb dX3_grow_37 rfl (lv_at hl 3 rfl) ?_
  refine lv_iconst (v := 1) hx hb dX3_grow_38 (by decide) ?_
  refine lv_aload_n hx hb dX3_grow_39 rfl (lv_at hl 3 rfl) ?_
  refine th_getK hC cf_X3 hB.1 h0 ro_12 rfl (j := 0) (by decide) mm27 kf_X3_11 dX3_grow_40 ?_
  refine lv_ishl hx hb dX3_grow_43 ?_
  refine lv_topi (fun x34 ex34 => ?_)
  have lx34 := ti_lo x34; have ux34 := ti_hi x34
  have fx34 : x34.toInt = 16384 := by rw [ex34, show x1 = 14 from Int32.toInt_inj.mp (by rw [show x1.toInt = 14 by omega]; rfl)]; rfl
  refine tm_newa (ty := .int) (t := 0) hC hB rfl rfl rfl kw_104 (tm_sz hB.1 h0 ro_12) (N := 16384) (by omega) (by decide) (Nat.le_of_ble_eq_true rfl) (Nat.le_of_ble_eq_true rfl) dX3_grow_44 (fun q44 H44 eq44 zq44 oq44 hB kq44 => ?_)
  have kq44 : th_MA G Γ H44 q44 0 16384 (fun i => .int ((fun _ => (0 : Int32)) i)) := kq44
  have dd_q44_b1 : th_nq q44 b1 := fun e => absurd (tm_lt ka28) (by rw [← e, eq44]; exact Nat.lt_irrefl _)
  have dd_q44_b2 : th_nq q44 b2 := fun e => absurd (tm_lt ka29) (by rw [← e, eq44]; exact Nat.lt_irrefl _)
  have dd_q44_b3 : th_nq q44 b3 := fun e => absurd (tm_lt ka30) (by rw [← e, eq44]; exact Nat.lt_irrefl _)
  have dd_q44_b4 : th_nq q44 b4 := fun e => absurd (tm_lt ka31) (by rw [← e, eq44]; exact Nat.lt_irrefl _)
  have dd_q44_q32 : th_nq q44 q32 := fun e => absurd (tm_lt ka32) (by rw [← e, eq44]; exact Nat.lt_irrefl _)
  have ka35 := tm_MAo ka28 oq44 (fun e => dd_q44_b1 e.symm)
  have ka36 := tm_MAo ka29 oq44 (fun e => dd_q44_b2 e.symm)
  have ka37 := tm_MAo ka30 oq44 (fun e => dd_q44_b3 e.symm)
  have ka38 := tm_MAo ka31 oq44 (fun e => dd_q44_b4 e.symm)
  have ka39 := tm_MAo ka32 oq44 (fun e => dd_q44_q32 e.symm)
  have mm40 := (tm_sln h0 ro_12 kq44 oq44 _).trans mm23
  have mm41 := (tm_sln h0 ro_12 kq44 oq44 _).trans mm24
  have mm42 := (tm_sln h0 ro_12 kq44 oq44 _).trans mm25
  have mm43 := (tm_sln h0 ro_12 kq44 oq44 _).trans mm26
  have mm44 := (tm_sln h0 ro_12 kq44 oq44 _).trans mm27
  have mm45 := (tm_sln h0 ro_12 kq44 oq44 _).trans mm33
  refine th_put hC cf_X3 hB h0 (Or.inl h0) ro_12 rfl (j := 2) rfl th_s5 (by decide) rfl rfl rfl kf_X3_19 dX3_grow_46 (fun H46 locs hB hf hst46 => ?_)
  have mm46 := (th_F_o hf h0 ro_12 (j := 3) (by decide) (by decide)).trans mm41
  have mm47 := (th_F_o hf h0 ro_12 (j := 4) (by decide) (by decide)).trans mm42
  have mm48 := (th_F_o hf h0 ro_12 (j := 5) (by decide) (by decide)).trans mm43
  have mm49 := (th_F_o hf h0 ro_12 (j := 0) (by decide) (by decide)).trans mm44
  have mm50 := (th_F_o hf h0 ro_12 (j := 1) (by decide) (by decide)).trans mm45
  have ka51 := tm_MAt ka35 (th_T_s h0 ro_12 hst46)
  have ka52 := tm_MAt ka36 (th_T_s h0 ro_12 hst46)
  have ka53 := tm_MAt ka37 (th_T_s h0 ro_12 hst46)
  have ka54 := tm_MAt ka38 (th_T_s h0 ro_12 hst46)
  have ka55 := tm_MAt ka39 (th_T_s h0 ro_12 hst46)
  have ka56 := tm_MAt kq44 (th_T_s h0 ro_12 hst46)
  have mm57 := hst46.2.1
  refine lv_aload_n hx hb dX3_grow_49 rfl (lv_at hl 3 rfl) ?_
  refine lv_iconst (v := 1) hx hb dX3_grow_50 (by decide) ?_
  refine lv_aload_n hx hb dX3_grow_51 rfl (lv_at hl 3 rfl) ?_
  refine th_getK hC cf_X3 hB.1 h0 ro_12 rfl (j := 0) (by decide) mm49 kf_X3_11 dX3_grow_52 ?_
  refine lv_ishl hx hb dX3_grow_55 ?_
  refine lv_topi (fun x58 ex58 => ?_)
  have lx58 := ti_lo x58; have ux58 := ti_hi x58
  have fx58 : x58.toInt = 16384 := by rw [ex58, show x1 = 14 from Int32.toInt_inj.mp (by rw [show x1.toInt = 14 by omega]; rfl)]; rfl
  refine tm_newa (ty := .int) (t := 0) hC hB rfl rfl rfl kw_104 (tm_sz hB.1 h0 ro_12) (N := 16384) (by omega) (by decide) (Nat.le_of_ble_eq_true rfl) (Nat.le_of_ble_eq_true rfl) dX3_grow_56 (fun q56 H56 eq56 zq56 oq56 hB kq56 => ?_)
  have kq56 : th_MA G Γ H56 q56 0 16384 (fun i => .int ((fun _ => (0 : Int32)) i)) := kq56
  have dd_q56_b1 : th_nq q56 b1 := fun e => absurd (tm_lt ka51) (by rw [← e, eq56]; exact Nat.lt_irrefl _)
  have dd_q56_b2 : th_nq q56 b2 := fun e => absurd (tm_lt ka52) (by rw [← e, eq56]; exact Nat.lt_irrefl _)
  have dd_q56_b3 : th_nq q56 b3 := fun e => absurd (tm_lt ka53) (by rw [← e, eq56]; exact Nat.lt_irrefl _)
  have dd_q56_b4 : th_nq q56 b4 := fun e => absurd (tm_lt ka54) (by rw [← e, eq56]; exact Nat.lt_irrefl _)
  have dd_q56_q32 : th_nq q56 q32 := fun e => absurd (tm_lt ka55) (by rw [← e, eq56]; exact Nat.lt_irrefl _)
  have dd_q56_q44 : th_nq q56 q44 := fun e => absurd (tm_lt ka56) (by rw [← e, eq56]; exact Nat.lt_irrefl _)
  have ka59 := tm_MAo ka51 oq56 (fun e => dd_q56_b1 e.symm)
  have ka60 := tm_MAo ka52 oq56 (fun e => dd_q56_b2 e.symm)
  have ka61 := tm_MAo ka53 oq56 (fun e => dd_q56_b3 e.symm)
  have ka62 := tm_MAo ka54 oq56 (fun e => dd_q56_b4 e.symm)
  have ka63 := tm_MAo ka55 oq56 (fun e => dd_q56_q32 e.symm)
  have ka64 := tm_MAo ka56 oq56 (fun e => dd_q56_q44 e.symm)
  have mm65 := (tm_sln h0 ro_12 kq56 oq56 _).trans mm46
  have mm66 := (tm_sln h0 ro_12 kq56 oq56 _).trans mm47
  have mm67 := (tm_sln h0 ro_12 kq56 oq56 _).trans mm48
  have mm68 := (tm_sln h0 ro_12 kq56 oq56 _).trans mm49
  have mm69 := (tm_sln h0 ro_12 kq56 oq56 _).trans mm50
  have mm70 := (tm_sln h0 ro_12 kq56 oq56 _).trans mm57
  refine th_put hC cf_X3 hB h0 (Or.inl h0) ro_12 rfl (j := 3) rfl th_s5 (by decide) rfl rfl rfl kf_X3_23 dX3_grow_58 (fun H58 locs hB hf hst58 => ?_)
  have mm71 := (th_F_o hf h0 ro_12 (j := 4) (by decide) (by decide)).trans mm66
  have mm72 := (th_F_o hf h0 ro_12 (j := 5) (by decide) (by decide)).trans mm67
  have mm73 := (th_F_o hf h0 ro_12 (j := 0) (by decide) (by decide)).trans mm68
  have mm74 := (th_F_o hf h0 ro_12 (j := 1) (by decide) (by decide)).trans mm69
  have mm75 := (th_F_o hf h0 ro_12 (j := 2) (by decide) (by decide)).trans mm70
  have ka76 := tm_MAt ka59 (th_T_s h0 ro_12 hst58)
  have ka77 := tm_MAt ka60 (th_T_s h0 ro_12 hst58)
  have ka78 := tm_MAt ka61 (th_T_s h0 ro_12 hst58)
  have ka79 := tm_MAt ka62 (th_T_s h0 ro_12 hst58)
  have ka80 := tm_MAt ka63 (th_T_s h0 ro_12 hst58)
  have ka81 := tm_MAt ka64 (th_T_s h0 ro_12 hst58)
  have ka82 := tm_MAt kq56 (th_T_s h0 ro_12 hst58)
  have mm83 := hst58.2.1
  refine lv_aload_n hx hb dX3_grow_61 rfl (lv_at hl 3 rfl) ?_
  refine lv_iconst (v := 1) hx hb dX3_grow_62 (by decide) ?_
  refine lv_aload_n hx hb dX3_grow_63 rfl (lv_at hl 3 rfl) ?_
  refine th_getK hC cf_X3 hB.1 h0 ro_12 rfl (j := 0) (by decide) mm73 kf_X3_11 dX3_grow_64 ?_
  refine lv_iconst (v := 1) hx hb dX3_grow_67 (by decide) ?_
  refine tr_isub hx hb dX3_grow_68 (Eq.refl _) tk_1 (by omega) (by omega) (fun x84 ex84 => ?_)
  refine lv_ishl hx hb dX3_grow_69 ?_
  refine lv_topi (fun x85 ex85 => ?_)
  have lx85 := ti_lo x85; have ux85 := ti_hi x85
  have fx85 : x85.toInt = 8192 := by rw [ex85, show x84 = 13 from Int32.toInt_inj.mp (by rw [show x84.toInt = 13 by omega]; rfl)]; rfl
  refine tm_newa (ty := .int) (t := 0) hC hB rfl rfl rfl kw_104 (tm_sz hB.1 h0 ro_12) (N := 8192) (by omega) (by decide) (Nat.le_of_ble_eq_true rfl) (Nat.le_of_ble_eq_true rfl) dX3_grow_70 (fun q70 H70 eq70 zq70 oq70 hB kq70 => ?_)
  have kq70 : th_MA G Γ H70 q70 0 8192 (fun i => .int ((fun _ => (0 : Int32)) i)) := kq70
  have dd_q70_b1 : th_nq q70 b1 := fun e => absurd (tm_lt ka76) (by rw [← e, eq70]; exact Nat.lt_irrefl _)
  have dd_q70_b2 : th_nq q70 b2 := fun e => absurd (tm_lt ka77) (by rw [← e, eq70]; exact Nat.lt_irrefl _)
  have dd_q70_b3 : th_nq q70 b3 := fun e => absurd (tm_lt ka78) (by rw [← e, eq70]; exact Nat.lt_irrefl _)
  have dd_q70_b4 : th_nq q70 b4 := fun e => absurd (tm_lt ka79) (by rw [← e, eq70]; exact Nat.lt_irrefl _)
  have dd_q70_q32 : th_nq q70 q32 := fun e => absurd (tm_lt ka80) (by rw [← e, eq70]; exact Nat.lt_irrefl _)
  have dd_q70_q44 : th_nq q70 q44 := fun e => absurd (tm_lt ka81) (by rw [← e, eq70]; exact Nat.lt_irrefl _)
  have dd_q70_q56 : th_nq q70 q56 := fun e => absurd (tm_lt ka82) (by rw [← e, eq70]; exact Nat.lt_irrefl _)
  have ka86 := tm_MAo ka76 oq70 (fun e => dd_q70_b1 e.symm)
  have ka87 := tm_MAo ka77 oq70 (fun e => dd_q70_b2 e.symm)
  have ka88 := tm_MAo ka78 oq70 (fun e => dd_q70_b3 e.symm)
  have ka89 := tm_MAo ka79 oq70 (fun e => dd_q70_b4 e.symm)
  have ka90 := tm_MAo ka80 oq70 (fun e => dd_q70_q32 e.symm)
  have ka91 := tm_MAo ka81 oq70 (fun e => dd_q70_q44 e.symm)
  have ka92 := tm_MAo ka82 oq70 (fun e => dd_q70_q56 e.symm)
  have mm93 := (tm_sln h0 ro_12 kq70 oq70 _).trans mm71
  have mm94 := (tm_sln h0 ro_12 kq70 oq70 _).trans mm72
  have mm95 := (tm_sln h0 ro_12 kq70 oq70 _).trans mm73
  have mm96 := (tm_sln h0 ro_12 kq70 oq70 _).trans mm74
  have mm97 := (tm_sln h0 ro_12 kq70 oq70 _).trans mm75
  have mm98 := (tm_sln h0 ro_12 kq70 oq70 _).trans mm83
  refine th_put hC cf_X3 hB h0 (Or.inl h0) ro_12 rfl (j := 4) rfl th_s5 (by decide) rfl rfl rfl kf_X3_26 dX3_grow_72 (fun H72 locs hB hf hst72 => ?_)
  have mm99 := (th_F_o hf h0 ro_12 (j := 5) (by decide) (by decide)).trans mm94
  have mm100 := (th_F_o hf h0 ro_12 (j := 0) (by decide) (by decide)).trans mm95
  have mm101 := (th_F_o hf h0 ro_12 (j := 1) (by decide) (by decide)).trans mm96
  have mm102 := (th_F_o hf h0 ro_12 (j := 2) (by decide) (by decide)).trans mm97
  have mm103 := (th_F_o hf h0 ro_12 (j := 3) (by decide) (by decide)).trans mm98
  have ka104 := tm_MAt ka86 (th_T_s h0 ro_12 hst72)
  have ka105 := tm_MAt ka87 (th_T_s h0 ro_12 hst72)
  have ka106 := tm_MAt ka88 (th_T_s h0 ro_12 hst72)
  have ka107 := tm_MAt ka89 (th_T_s h0 ro_12 hst72)
  have ka108 := tm_MAt ka90 (th_T_s h0 ro_12 hst72)
  have ka109 := tm_MAt ka91 (th_T_s h0 ro_12 hst72)
  have ka110 := tm_MAt ka92 (th_T_s h0 ro_12 hst72)
  have ka111 := tm_MAt kq70 (th_T_s h0 ro_12 hst72)
  have mm112 := hst72.2.1
  have eb9 : x1 = nI 14 := Int32.toInt_inj.mp (by rw [show x1.toInt = 14 by omega]; rfl)
  have mm113 := mm100
  rw [eb9] at mm113
  have ra114 : ∀ i : Nat, 0 ≤ ((fun _ => (0 : Int32)) i).toInt ∧ ((fun _ => (0 : Int32)) i).toInt < 16384 := fun _ => (by decide : (0 : Int) ≤ (0 : Int32).toInt ∧ (0 : Int32).toInt < 16384)
  refine lv_aload_n hx hb dX3_grow_75 rfl (lv_at hl 3 rfl) ?_
  refine th_getK hC cf_X3 hB.1 h0 ro_12 rfl (j := 1) (by decide) mm101 kf_X3_15 dX3_grow_76 ?_
  refine lv_ldc2 (v := (-1)) hx hb hC.2.2.2.1 (hC.2.2.2.2.1 _ kw_296) dX3_grow_79 ?_
  refine th_call (th_runS (As := [.ref q32, .long (-1)]) (rest := []) hC mf_J7_fill_d0a16 km_X3_38 st_J7_fill_d0a16 (c_J7_fill_d0a16_m16384 l G Γ H72 hB.1 q32 (fun _ => (0 : Int64)) ka108 (-1)) rfl rfl ⟨Nat.le_of_ble_eq_true rfl, Nat.le_of_ble_eq_true rfl⟩ rfl hl.1 rfl (Nat.le_of_ble_eq_true rfl) dX3_grow_82 ⟨Nat.le_of_ble_eq_true rfl, Nat.le_of_ble_eq_true rfl⟩) hB.2.1 (fun v82 H82 locs hp hz hS => ?_)
  obtain ⟨rfl, hI1, hf, z82_0, z82_1⟩ := hp
  have hB := th_B_c hB hI1 hS hf (by decide)
  have mm115 := (th_F_o hf h0 ro_12 (j := 5) (by decide) (by decide)).trans mm99
  have mm116 := (th_F_o hf h0 ro_12 (j := 0) (by decide) (by decide)).trans mm113
  have mm117 := (th_F_o hf h0 ro_12 (j := 1) (by decide) (by decide)).trans mm101
  have mm118 := (th_F_o hf h0 ro_12 (j := 2) (by decide) (by decide)).trans mm102
  have mm119 := (th_F_o hf h0 ro_12 (j := 3) (by decide) (by decide)).trans mm103
  have mm120 := (th_F_o hf h0 ro_12 (j := 4) (by decide) (by decide)).trans mm112
  obtain ⟨fa121, ka122⟩ := z82_0
  have ka123 := tm_MAe ka104 (th_FR1 z82_1 (fun e => dd_q32_b1 e.symm))
  have ka124 := tm_MAe ka105 (th_FR1 z82_1 (fun e => dd_q32_b2 e.symm))
  have ka125 := tm_MAe ka106 (th_FR1 z82_1 (fun e => dd_q32_b3 e.symm))
  have ka126 := tm_MAe ka107 (th_FR1 z82_1 (fun e => dd_q32_b4 e.symm))
  have ka127 := tm_MAe ka109 (th_FR1 z82_1 (id dd_q44_q32))
  have ka128 := tm_MAe ka110 (th_FR1 z82_1 (id dd_q56_q32))
  have ka129 := tm_MAe ka111 (th_FR1 z82_1 (id dd_q70_q32))
  refine W.eq (g2 := F0 m 85 ls []) rfl ?_
  refine lv_iconst (v := 0) hx hb dX3_grow_85 (by decide) ?_
  refine lv_istore (lv' := [(4, .int 0), (3, .ref b4), (2, .ref b2), (1, .ref b1), (0, .ref a0)]) hx hb dX3_grow_86 hl (by decide) rfl (fun ls hl => ?_)
  have lp88 : ∀ (n88 : Nat) (H88 : Heap) (locs : List Loc) (ls : Array Slot) (j88_4 : Int32) (f9_88 : Nat → Int64) (f10_88 : Nat → Int32) (f11_88 : Nat → Int32) (f12_88 : Nat → Int32) (f1_88 : Nat → Int64) (f2_88 : Nat → Int32) (f3_88 : Nat → Int32) (f4_88 : Nat → Int32), th_B G Γ Γ [(12, 0), (12, 1), (12, 2), (12, 3), (12, 4)] H0 H88 locs → lv_has ls 5 [(3, .ref b4), (2, .ref b2), (1, .ref b1), (0, .ref a0), (4, .int j88_4)] → 0 ≤ j88_4.toInt → j88_4.toInt ≤ 8192 → th_sl H88 a0 (G.1.2 3 5) = .int u → th_sl H88 a0 (G.1.2 3 0) = .int (nI 14) → th_sl H88 a0 (G.1.2 3 1) = .ref q32 → th_sl H88 a0 (G.1.2 3 2) = .ref q44 → th_sl H88 a0 (G.1.2 3 3) = .ref q56 → th_sl H88 a0 (G.1.2 3 4) = .ref q70 → th_MA G Γ H88 b1 1 4096 (fun i => .long (f9_88 i)) → th_MA G Γ H88 b2 0 4096 (fun i => .int (f10_88 i)) → th_MA G Γ H88 b3 0 4096 (fun i => .int (f11_88 i)) → th_MA G Γ H88 b4 0 2048 (fun i => .int (f12_88 i)) → (∀ i, 0 ≤ (f12_88 i).toInt ∧ (f12_88 i).toInt < 4096) → th_MA G Γ H88 q32 1 16384 (fun i => .long (f1_88 i)) → th_MA G Γ H88 q44 0 16384 (fun i => .int (f2_88 i)) → th_MA G Γ H88 q56 0 16384 (fun i => .int (f3_88 i)) → th_MA G Γ H88 q70 0 8192 (fun i => .int (f4_88 i)) → (∀ i, 0 ≤ (f4_88 i).toInt ∧ (f4_88 i).toInt < 16384) → (2147483648 : Int) - j88_4.toInt ≤ (n88 : Int) → W p l e ({ frames := 2, cells := 4, slots := 57344, locals := 49 } : Room) s m ([.ref a0] : List Value).toArray below meth c H88 locs 4 57344 (MQ below (th_Q (fun (v : Option Value) (H1 : Heap) => v = none ∧ th_I G Γ H1 ∧ th_F G Γ [(12, 0), (12, 1), (12, 2), (12, 3), (12, 4)] H0 H1 ∧ th_RC G Γ H1 ∧ (∃ c1 c2 c3 c4 : Nat, th_ME G Γ H1 a0 14 c1 c2 c3 c4)) G) ([.ref a0] : List Value).toArray s 4 57344 (fun q => G.2.2 ≤ q)) (F0 m 88 ls []) := by
    intro n88
    induction n88 with
    | zero => intro H88 locs ls j88_4 f9_88 f10_88 f11_88 f12_88 f1_88 f2_88 f3_88 f4_88 hB hl g88_0 g88_1 g88_2 g88_3 g88_4 g88_5 g88_6 g88_7 g88_8 g88_9 g88_10 g88_11 g88_12 g88_13 g88_14 g88_15 g88_16 g88_17 hm88; exact absurd hm88 (by have := ti_hi j88_4; omega)
    | succ n88 ih88 =>
      intro H88 locs ls j88_4 f9_88 f10_88 f11_88 f12_88 f1_88 f2_88 f3_88 f4_88 hB hl g88_0 g88_1 g88_2 g88_3 g88_4 g88_5 g88_6 g88_7 g88_8 g88_9 g88_10 g88_11 g88_12 g88_13 g88_14 g88_15 g88_16 g88_17 hm88
      have lj88_4 := ti_lo j88_4; have uj88_4 := ti_hi j88_4
      have hm88 : (2147483648 : Int) - j88_4.toInt ≤ (n88 : Int) + 1 := by omega
      refine lv_iload hx hb dX3_grow_88 (lv_at hl 4 rfl) ?_
      refine lv_aload_n hx hb dX3_grow_90 rfl (lv_at hl 3 rfl) ?_
      refine th_getK hC cf_X3 hB.1 h0 ro_12 rfl (j := 5) (by decide) g88_2 kf_X3_29 dX3_grow_91 ?_
      refine tr_icmp_ge (tgt := 121) hx hb dX3_grow_94 (by decide) (Eq.refl _) (Eq.refl _) (fun c94 => ?_) (fun c94 => ?_)
      · exact th_vret hC hH hr hlocks hB.2.1 ⟨rfl, hB.1, hB.2.2, th_RC_me hB.1 hR0 hB.2.2 (by decide) h0 ⟨_, _, _, _, _, (show th_ME G Γ H88 a0 14 q32 q44 q56 q70 from ⟨by decide, g88_3, g88_4, g88_5, g88_6, g88_7, ⟨(fun e => dd_q44_q32 e.symm), (fun e => dd_q56_q32 e.symm), (fun e => dd_q70_q32 e.symm), (fun e => dd_q56_q44 e.symm), (fun e => dd_q70_q44 e.symm), (fun e => dd_q70_q56 e.symm)⟩, ⟨_, g88_13⟩, ⟨_, g88_14⟩, ⟨_, g88_15⟩, ⟨_, g88_16, g88_17⟩, _, g88_2, by omega, by omega⟩)⟩, ⟨_, _, _, _, (show th_ME G Γ H88 a0 14 q32 q44 q56 q70 from ⟨by decide, g88_3, g88_4, g88_5, g88_6, g88_7, ⟨(fun e => dd_q44_q32 e.symm), (fun e => dd_q56_q32 e.symm), (fun e => dd_q70_q32 e.symm), (fun e => dd_q56_q44 e.symm), (fun e => dd_q70_q44 e.symm), (fun e => dd_q70_q56 e.symm)⟩, ⟨_, g88_13⟩, ⟨_, g88_14⟩, ⟨_, g88_15⟩, ⟨_, g88_16, g88_17⟩, _, g88_2, by omega, by omega⟩)⟩⟩ dX3_grow_121
      · refine lv_aload_n hx hb dX3_grow_97 rfl (lv_at hl 3 rfl) ?_
        refine lv_aload_n hx hb dX3_grow_98 rfl (lv_at hl 2 rfl) ?_
        refine lv_aload_n hx hb dX3_grow_99 rfl (lv_at hl 0 rfl) ?_
        refine lv_iload hx hb dX3_grow_100 (lv_at hl 4 rfl) ?_
        refine tm_iald hC g88_11 (Eq.refl _) (by omega) (by omega) dX3_grow_102 (fun x130 ex130 => ?_)
        have fx130 := g88_12 (j88_4.toInt).toNat
        rw [← ex130] at fx130
        refine tm_lald hC g88_8 (Eq.refl _) (by omega) (by omega) dX3_grow_103 (fun y131 ey131 => ?_)
        refine lv_aload_n hx hb dX3_grow_104 rfl (lv_at hl 1 rfl) ?_
        refine lv_aload_n hx hb dX3_grow_105 rfl (lv_at hl 0 rfl) ?_
        refine lv_iload hx hb dX3_grow_106 (lv_at hl 4 rfl) ?_
        refine tm_iald hC g88_11 (Eq.refl _) (by omega) (by omega) dX3_grow_108 (fun x132 ex132 => ?_)
        have fx132 := g88_12 (j88_4.toInt).toNat
        rw [← ex132] at fx132
        refine tm_iald hC g88_9 (Eq.refl _) (by omega) (by omega) dX3_grow_109 (fun x133 ex133 => ?_)
        have lx133 := ti_lo x133; have ux133 := ti_hi x133
        refine lv_iload hx hb dX3_grow_110 (lv_at hl 4 rfl) ?_
        refine th_call (th_runV (As := [.long y131, .int x133, .int j88_4]) (rest := []) hC mf_X3_put km_X3_53 im_X3_put se_X3_put (c_X3_put_14 l G Γ H88 hB.1 a0 h0 y131 x133 j88_4 (by omega) (by omega) q32 q44 q56 q70 (show th_ME G Γ H88 a0 14 q32 q44 q56 q70 from ⟨by decide, g88_3, g88_4, g88_5, g88_6, g88_7, ⟨(fun e => dd_q44_q32 e.symm), (fun e => dd_q56_q32 e.symm), (fun e => dd_q70_q32 e.symm), (fun e => dd_q56_q44 e.symm), (fun e => dd_q70_q44 e.symm), (fun e => dd_q70_q56 e.symm)⟩, ⟨_, g88_13⟩, ⟨_, g88_14⟩, ⟨_, g88_15⟩, ⟨_, g88_16, g88_17⟩, _, g88_2, by omega, by omega⟩)) rfl rfl ⟨Nat.le_of_ble_eq_true rfl, Nat.le_of_ble_eq_true rfl⟩ hB.1 h0 ro_12 rfl rfl hl.1 rfl (Nat.le_of_ble_eq_true rfl) dX3_grow_112 ⟨Nat.le_of_ble_eq_true rfl, Nat.le_of_ble_eq_true rfl⟩) hB.2.1 (fun v112 H112 locs hp hz hS => ?_)
        obtain ⟨rfl, hI1, hf, z112_0, z112_1⟩ := hp
        have hB := th_B_c hB hI1 hS hf (by decide)
        have mm134 := (th_F_o hf h0 ro_12 (j := 5) (by decide) (by decide)).trans g88_2
        have mm135 := (th_F_o hf h0 ro_12 (j := 0) (by decide) (by decide)).trans g88_3
        have mm136 := (th_F_o hf h0 ro_12 (j := 1) (by decide) (by decide)).trans g88_4
        have mm137 := (th_F_o hf h0 ro_12 (j := 2) (by decide) (by decide)).trans g88_5
        have mm138 := (th_F_o hf h0 ro_12 (j := 3) (by decide) (by decide)).trans g88_6
        have mm139 := (th_F_o hf h0 ro_12 (j := 4) (by decide) (by decide)).trans g88_7
        have ka140 := tm_MAe g88_8 (th_FR4 z112_1 (fun e => dd_q32_b1 e.symm) (fun e => dd_q44_b1 e.symm) (fun e => dd_q56_b1 e.symm) (fun e => dd_q70_b1 e.symm))
        have ka141 := tm_MAe g88_9 (th_FR4 z112_1 (fun e => dd_q32_b2 e.symm) (fun e => dd_q44_b2 e.symm) (fun e => dd_q56_b2 e.symm) (fun e => dd_q70_b2 e.symm))
        have ka142 := tm_MAe g88_10 (th_FR4 z112_1 (fun e => dd_q32_b3 e.symm) (fun e => dd_q44_b3 e.symm) (fun e => dd_q56_b3 e.symm) (fun e => dd_q70_b3 e.symm))
        have ka143 := tm_MAe g88_11 (th_FR4 z112_1 (fun e => dd_q32_b4 e.symm) (fun e => dd_q44_b4 e.symm) (fun e => dd_q56_b4 e.symm) (fun e => dd_q70_b4 e.symm))
        obtain ⟨-, -, -, -, -, -, -, ⟨f1_2, k1_2⟩, ⟨f2_2, k2_2⟩, ⟨f3_2, k3_2⟩, ⟨f4_2, k4_2, r4_2⟩, -⟩ := id z112_0
        have k1_2 : th_MA G Γ H112 q32 1 16384 (fun i => .long (f1_2 i)) := k1_2
        have k2_2 : th_MA G Γ H112 q44 0 16384 (fun i => .int (f2_2 i)) := k2_2
        have k3_2 : th_MA G Γ H112 q56 0 16384 (fun i => .int (f3_2 i)) := k3_2
        have k4_2 : th_MA G Γ H112 q70 0 8192 (fun i => .int (f4_2 i)) := k4_2
        have r4_2 : ∀ i, 0 ≤ (f4_2 i).toInt ∧ (f4_2 i).toInt < 16384 := r4_2
        refine W.eq (g2 := F0 m 115 ls []) rfl ?_
        refine tr_iinc (fun x144 => [(4, .int x144), (3, .ref b4), (2, .ref b2), (1, .ref b1), (0, .ref a0)]) hx hb dX3_grow_115 hl (k := 4) rfl (Eq.refl _) tk_1 (by omega) (by omega) (by decide) (fun _ => rfl) (fun x144 ls ex144 hl => ?_)
        refine lv_goto (tgt := 88) hx hb dX3_grow_118 (by decide) ?_
        exact ih88 H112 locs ls x144 f9_88 f10_88 f11_88 f12_88 f1_2 f2_2 f3_2 f4_2 hB (lv_sub hl [1, 2, 3, 4, 0] rfl) (by omega) (by omega) mm134 mm135 mm136 mm137 mm138 mm139 ka140 ka141 ka142 ka143 g88_12 k1_2 k2_2 k3_2 k4_2 r4_2 (by omega)
  exact lp88 ((2147483648 : Int) - (0)).toNat H82 locs ls 0 f1 f2 f3 f4 fa121 (fun _ => (0 : Int32)) (fun _ => (0 : Int32)) (fun _ => (0 : Int32)) hB (lv_sub hl [1, 2, 3, 4, 0] rfl) (by decide) (by decide) mm115 mm116 mm117 mm118 mm119 mm120 ka123 ka124 ka125 ka126 r4 ka122 ka127 ka128 ka129 ra114 (by have w0 := tk_0; omega)

set_option maxHeartbeats 4000000 in
set_option maxRecDepth 100000 in
theorem c_X3_grow_10 (l : Launch) (G : th_G) (Γ : th_Ga) (H0 : Heap) (hI : th_I G Γ H0) (hR : th_RC G Γ H0) (a0 : Nat) (h0 : Γ a0 = (12, 0)) (b1 b2 b3 b4 : Nat) (hme : th_ME G Γ H0 a0 10 b1 b2 b3 b4) : Met l yX3_grow (.code yX3_grow cX3_grow 5 (none) :: th_tb) ({ frames := 2, cells := 4, slots := 14336, locals := 49 } : Room) (th_P [.ref a0] G H0) (th_Q (fun (v : Option Value) (H1 : Heap) => v = none ∧ th_I G Γ H1 ∧ th_F G Γ [(12, 0), (12, 1), (12, 2), (12, 3), (12, 4)] H0 H1 ∧ th_RC G Γ H1 ∧ (∃ c1 c2 c3 c4 : Nat, th_ME G Γ H1 a0 12 c1 c2 c3 c4)) G) 4 14336 (fun q => G.2.2 ≤ q) := by
  refine th_met RX3 (by decide) rfl (Nat.le_of_ble_eq_true rfl) ?_
  intro p e s m below meth c hC hH hr hlocks hnm ls hl
  have hx := hC.1
  have hb := hC.2.1
  have hB : th_B G Γ Γ [(12, 0), (12, 1), (12, 2), (12, 3), (12, 4)] H0 H0 [] := ⟨hI, va_S.rf, th_F_rf⟩
  have hl : lv_has ls 5 [(0, .ref a0)] := hl
  obtain ⟨-, m0, m1, m2, m3, m4, ⟨d12, d13, d14, d23, d24, d34⟩, ⟨f1, k1⟩, ⟨f2, k2⟩, ⟨f3, k3⟩, ⟨f4, k4, r4⟩, u, mu, lu, uu⟩ := id hme
  have k1 : th_MA G Γ H0 b1 1 1024 (fun i => .long (f1 i)) := k1
  have k2 : th_MA G Γ H0 b2 0 1024 (fun i => .int (f2 i)) := k2
  have k3 : th_MA G Γ H0 b3 0 1024 (fun i => .int (f3 i)) := k3
  have k4 : th_MA G Γ H0 b4 0 512 (fun i => .int (f4 i)) := k4
  have r4 : ∀ i, 0 ≤ (f4 i).toInt ∧ (f4 i).toInt < 1024 := r4
  have uu : u.toInt ≤ 512 := uu
  have hR0 := hR
  refine lv_aload_n hx hb dX3_grow_0 rfl (lv_at hl 0 rfl) ?_
  refine th_getK hC cf_X3 hB.1 h0 ro_12 rfl (j := 1) (by decide) m1 kf_X3_15 dX3_grow_1 ?_
  refine lv_astore_n (lv' := [(1, .ref b1), (0, .ref a0)]) hx hb dX3_grow_4 rfl hl (by decide) rfl (fun ls hl => ?_)
  refine lv_aload_n hx hb dX3_grow_5 rfl (lv_at hl 1 rfl) ?_
  refine th_getK hC cf_X3 hB.1 h0 ro_12 rfl (j := 2) (by decide) m2 kf_X3_19 dX3_grow_6 ?_
  refine lv_astore_n (lv' := [(2, .ref b2), (1, .ref b1), (0, .ref a0)]) hx hb dX3_grow_9 rfl hl (by decide) rfl (fun ls hl => ?_)
  refine lv_aload_n hx hb dX3_grow_10 rfl (lv_at hl 2 rfl) ?_
  refine th_getK hC cf_X3 hB.1 h0 ro_12 rfl (j := 4) (by decide) m4 kf_X3_26 dX3_grow_11 ?_
  refine lv_astore_n (lv' := [(3, .ref b4), (2, .ref b2), (1, .ref b1), (0, .ref a0)]) hx hb dX3_grow_14 rfl hl (by decide) rfl (fun ls hl => ?_)
  refine lv_aload_n hx hb dX3_grow_15 rfl (lv_at hl 3 rfl) ?_
  refine lv_dup hx hb dX3_grow_16 rfl ?_
  refine th_getK hC cf_X3 hB.1 h0 ro_12 rfl (j := 0) (by decide) m0 kf_X3_11 dX3_grow_17 ?_
  refine lv_iconst (v := 2) hx hb dX3_grow_20 (by decide) ?_
  refine tr_iadd hx hb dX3_grow_21 tk_n10 tk_2 (by omega) (by omega) (fun x1 ex1 => ?_)
  refine th_put hC cf_X3 hB h0 (Or.inl h0) ro_12 rfl (j := 0) rfl (th_sI (by omega) (by omega)) (by decide) rfl rfl rfl kf_X3_11 dX3_grow_22 (fun H22 locs hB hf hst22 => ?_)
  have mm2 := (th_F_o hf h0 ro_12 (j := 1) (by decide) (by decide)).trans m1
  have mm3 := (th_F_o hf h0 ro_12 (j := 2) (by decide) (by decide)).trans m2
  have mm4 := (th_F_o hf h0 ro_12 (j := 3) (by decide) (by decide)).trans m3
  have mm5 := (th_F_o hf h0 ro_12 (j := 4) (by decide) (by decide)).trans m4
  have mm6 := (th_F_o hf h0 ro_12 (j := 5) (by decide) (by decide)).trans mu
  have ka7 := tm_MAt k1 (th_T_s h0 ro_12 hst22)
  have ka8 := tm_MAt k2 (th_T_s h0 ro_12 hst22)
  have ka9 := tm_MAt k3 (th_T_s h0 ro_12 hst22)
  have ka10 := tm_MAt k4 (th_T_s h0 ro_12 hst22)
  have mm11 := hst22.2.1
  refine lv_aload_n hx hb dX3_grow_25 rfl (lv_at hl 3 rfl) ?_
  refine lv_iconst (v := 1) hx hb dX3_grow_26 (by decide) ?_
  refine lv_aload_n hx hb dX3_grow_27 rfl (lv_at hl 3 rfl) ?_
  refine th_getK hC cf_X3 hB.1 h0 ro_12 rfl (j := 0) (by decide) mm11 kf_X3_11 dX3_grow_28 ?_
  refine lv_ishl hx hb dX3_grow_31 ?_
  refine lv_topi (fun x12 ex12 => ?_)
  have lx12 := ti_lo x12; have ux12 := ti_hi x12
  have fx12 : x12.toInt = 4096 := by rw [ex12, show x1 = 12 from Int32.toInt_inj.mp (by rw [show x1.toInt = 12 by omega]; rfl)]; rfl
  refine tm_newa (ty := .long) (t := 1) hC hB rfl rfl rfl kw_246 (tm_sz hB.1 h0 ro_12) (N := 4096) (by omega) (by decide) (Nat.le_of_ble_eq_true rfl) (Nat.le_of_ble_eq_true rfl) dX3_grow_32 (fun q32 H32 eq32 zq32 oq32 hB kq32 => ?_)
  have kq32 : th_MA G Γ H32 q32 1 4096 (fun i => .long ((fun _ => (0 : Int64)) i)) := kq32
  have dd_q32_b1 : th_nq q32 b1 := fun e => absurd (tm_lt ka7) (by rw [← e, eq32]; exact Nat.lt_irrefl _)
  have dd_q32_b2 : th_nq q32 b2 := fun e => absurd (tm_lt ka8) (by rw [← e, eq32]; exact Nat.lt_irrefl _)
  have dd_q32_b3 : th_nq q32 b3 := fun e => absurd (tm_lt ka9) (by rw [← e, eq32]; exact Nat.lt_irrefl _)
  have dd_q32_b4 : th_nq q32 b4 := fun e => absurd (tm_lt ka10) (by rw [← e, eq32]; exact Nat.lt_irrefl _)
  have ka13 := tm_MAo ka7 oq32 (fun e => dd_q32_b1 e.symm)
  have ka14 := tm_MAo ka8 oq32 (fun e => dd_q32_b2 e.symm)
  have ka15 := tm_MAo ka9 oq32 (fun e => dd_q32_b3 e.symm)
  have ka16 := tm_MAo ka10 oq32 (fun e => dd_q32_b4 e.symm)
  have mm17 := (tm_sln h0 ro_12 kq32 oq32 _).trans mm2
  have mm18 := (tm_sln h0 ro_12 kq32 oq32 _).trans mm3
  have mm19 := (tm_sln h0 ro_12 kq32 oq32 _).trans mm4
  have mm20 := (tm_sln h0 ro_12 kq32 oq32 _).trans mm5
  have mm21 := (tm_sln h0 ro_12 kq32 oq32 _).trans mm6
  have mm22 := (tm_sln h0 ro_12 kq32 oq32 _).trans mm11
  refine th_put hC cf_X3 hB h0 (Or.inl h0) ro_12 rfl (j := 1) rfl th_s5 (by decide) rfl rfl rfl kf_X3_15 dX3_grow_34 (fun H34 locs hB hf hst34 => ?_)
  have mm23 := (th_F_o hf h0 ro_12 (j := 2) (by decide) (by decide)).trans mm18
  have mm24 := (th_F_o hf h0 ro_12 (j := 3) (by decide) (by decide)).trans mm19
  have mm25 := (th_F_o hf h0 ro_12 (j := 4) (by decide) (by decide)).trans mm20
  have mm26 := (th_F_o hf h0 ro_12 (j := 5) (by decide) (by decide)).trans mm21
  have mm27 := (th_F_o hf h0 ro_12 (j := 0) (by decide) (by decide)).trans mm22
  have ka28 := tm_MAt ka13 (th_T_s h0 ro_12 hst34)
  have ka29 := tm_MAt ka14 (th_T_s h0 ro_12 hst34)
  have ka30 := tm_MAt ka15 (th_T_s h0 ro_12 hst34)
  have ka31 := tm_MAt ka16 (th_T_s h0 ro_12 hst34)
  have ka32 := tm_MAt kq32 (th_T_s h0 ro_12 hst34)
  have mm33 := hst34.2.1
  refine lv_aload_n hx hb dX3_grow_37 rfl (lv_at hl 3 rfl) ?_
  refine lv_iconst (v := 1) hx hb dX3_grow_38 (by decide) ?_
  refine lv_aload_n hx hb dX3_grow_39 rfl (lv_at hl 3 rfl) ?_
  refine th_getK hC cf_X3 hB.1 h0 ro_12 rfl (j := 0) (by decide) mm27 kf_X3_11 dX3_grow_40 ?_
  refine lv_ishl hx hb dX3_grow_43 ?_
  refine lv_topi (fun x34 ex34 => ?_)
  have lx34 := ti_lo x34; have ux34 := ti_hi x34
  have fx34 : x34.toInt = 4096 := by rw [ex34, show x1 = 12 from Int32.toInt_inj.mp (by rw [show x1.toInt = 12 by omega]; rfl)]; rfl
  refine tm_newa (ty := .int) (t := 0) hC hB rfl rfl rfl kw_104 (tm_sz hB.1 h0 ro_12) (N := 4096) (by omega) (by decide) (Nat.le_of_ble_eq_true rfl) (Nat.le_of_ble_eq_true rfl) dX3_grow_44 (fun q44 H44 eq44 zq44 oq44 hB kq44 => ?_)
  have kq44 : th_MA G Γ H44 q44 0 4096 (fun i => .int ((fun _ => (0 : Int32)) i)) := kq44
  have dd_q44_b1 : th_nq q44 b1 := fun e => absurd (tm_lt ka28) (by rw [← e, eq44]; exact Nat.lt_irrefl _)
  have dd_q44_b2 : th_nq q44 b2 := fun e => absurd (tm_lt ka29) (by rw [← e, eq44]; exact Nat.lt_irrefl _)
  have dd_q44_b3 : th_nq q44 b3 := fun e => absurd (tm_lt ka30) (by rw [← e, eq44]; exact Nat.lt_irrefl _)
  have dd_q44_b4 : th_nq q44 b4 := fun e => absurd (tm_lt ka31) (by rw [← e, eq44]; exact Nat.lt_irrefl _)
  have dd_q44_q32 : th_nq q44 q32 := fun e => absurd (tm_lt ka32) (by rw [← e, eq44]; exact Nat.lt_irrefl _)
  have ka35 := tm_MAo ka28 oq44 (fun e => dd_q44_b1 e.symm)
  have ka36 := tm_MAo ka29 oq44 (fun e => dd_q44_b2 e.symm)
  have ka37 := tm_MAo ka30 oq44 (fun e => dd_q44_b3 e.symm)
  have ka38 := tm_MAo ka31 oq44 (fun e => dd_q44_b4 e.symm)
  have ka39 := tm_MAo ka32 oq44 (fun e => dd_q44_q32 e.symm)
  have mm40 := (tm_sln h0 ro_12 kq44 oq44 _).trans mm23
  have mm41 := (tm_sln h0 ro_12 kq44 oq44 _).trans mm24
  have mm42 := (tm_sln h0 ro_12 kq44 oq44 _).trans mm25
  have mm43 := (tm_sln h0 ro_12 kq44 oq44 _).trans mm26
  have mm44 := (tm_sln h0 ro_12 kq44 oq44 _).trans mm27
  have mm45 := (tm_sln h0 ro_12 kq44 oq44 _).trans mm33
  refine th_put hC cf_X3 hB h0 (Or.inl h0) ro_12 rfl (j := 2) rfl th_s5 (by decide) rfl rfl rfl kf_X3_19 dX3_grow_46 (fun H46 locs hB hf hst46 => ?_)
  have mm46 := (th_F_o hf h0 ro_12 (j := 3) (by decide) (by decide)).trans mm41
  have mm47 := (th_F_o hf h0 ro_12 (j := 4) (by decide) (by decide)).trans mm42
  have mm48 := (th_F_o hf h0 ro_12 (j := 5) (by decide) (by decide)).trans mm43
  have mm49 := (th_F_o hf h0 ro_12 (j := 0) (by decide) (by decide)).trans mm44
  have mm50 := (th_F_o hf h0 ro_12 (j := 1) (by decide) (by decide)).trans mm45
  have ka51 := tm_MAt ka35 (th_T_s h0 ro_12 hst46)
  have ka52 := tm_MAt ka36 (th_T_s h0 ro_12 hst46)
  have ka53 := tm_MAt ka37 (th_T_s h0 ro_12 hst46)
  have ka54 := tm_MAt ka38 (th_T_s h0 ro_12 hst46)
  have ka55 := tm_MAt ka39 (th_T_s h0 ro_12 hst46)
  have ka56 := tm_MAt kq44 (th_T_s h0 ro_12 hst46)
  have mm57 := hst46.2.1
  refine lv_aload_n hx hb dX3_grow_49 rfl (lv_at hl 3 rfl) ?_
  refine lv_iconst (v := 1) hx hb dX3_grow_50 (by decide) ?_
  refine lv_aload_n hx hb dX3_grow_51 rfl (lv_at hl 3 rfl) ?_
  refine th_getK hC cf_X3 hB.1 h0 ro_12 rfl (j := 0) (by decide) mm49 kf_X3_11 dX3_grow_52 ?_
  refine lv_ishl hx hb dX3_grow_55 ?_
  refine lv_topi (fun x58 ex58 => ?_)
  have lx58 := ti_lo x58; have ux58 := ti_hi x58
  have fx58 : x58.toInt = 4096 := by rw [ex58, show x1 = 12 from Int32.toInt_inj.mp (by rw [show x1.toInt = 12 by omega]; rfl)]; rfl
  refine tm_newa (ty := .int) (t := 0) hC hB rfl rfl rfl kw_104 (tm_sz hB.1 h0 ro_12) (N := 4096) (by omega) (by decide) (Nat.le_of_ble_eq_true rfl) (Nat.le_of_ble_eq_true rfl) dX3_grow_56 (fun q56 H56 eq56 zq56 oq56 hB kq56 => ?_)
  have kq56 : th_MA G Γ H56 q56 0 4096 (fun i => .int ((fun _ => (0 : Int32)) i)) := kq56
  have dd_q56_b1 : th_nq q56 b1 := fun e => absurd (tm_lt ka51) (by rw [← e, eq56]; exact Nat.lt_irrefl _)
  have dd_q56_b2 : th_nq q56 b2 := fun e => absurd (tm_lt ka52) (by rw [← e, eq56]; exact Nat.lt_irrefl _)
  have dd_q56_b3 : th_nq q56 b3 := fun e => absurd (tm_lt ka53) (by rw [← e, eq56]; exact Nat.lt_irrefl _)
  have dd_q56_b4 : th_nq q56 b4 := fun e => absurd (tm_lt ka54) (by rw [← e, eq56]; exact Nat.lt_irrefl _)
  have dd_q56_q32 : th_nq q56 q32 := fun e => absurd (tm_lt ka55) (by rw [← e, eq56]; exact Nat.lt_irrefl _)
  have dd_q56_q44 : th_nq q56 q44 := fun e => absurd (tm_lt ka56) (by rw [← e, eq56]; exact Nat.lt_irrefl _)
  have ka59 := tm_MAo ka51 oq56 (fun e => dd_q56_b1 e.symm)
  have ka60 := tm_MAo ka52 oq56 (fun e => dd_q56_b2 e.symm)
  have ka61 := tm_MAo ka53 oq56 (fun e => dd_q56_b3 e.symm)
  have ka62 := tm_MAo ka54 oq56 (fun e => dd_q56_b4 e.symm)
  have ka63 := tm_MAo ka55 oq56 (fun e => dd_q56_q32 e.symm)
  have ka64 := tm_MAo ka56 oq56 (fun e => dd_q56_q44 e.symm)
  have mm65 := (tm_sln h0 ro_12 kq56 oq56 _).trans mm46
  have mm66 := (tm_sln h0 ro_12 kq56 oq56 _).trans mm47
  have mm67 := (tm_sln h0 ro_12 kq56 oq56 _).trans mm48
  have mm68 := (tm_sln h0 ro_12 kq56 oq56 _).trans mm49
  have mm69 := (tm_sln h0 ro_12 kq56 oq56 _).trans mm50
  have mm70 := (tm_sln h0 ro_12 kq56 oq56 _).trans mm57
  refine th_put hC cf_X3 hB h0 (Or.inl h0) ro_12 rfl (j := 3) rfl th_s5 (by decide) rfl rfl rfl kf_X3_23 dX3_grow_58 (fun H58 locs hB hf hst58 => ?_)
  have mm71 := (th_F_o hf h0 ro_12 (j := 4) (by decide) (by decide)).trans mm66
  have mm72 := (th_F_o hf h0 ro_12 (j := 5) (by decide) (by decide)).trans mm67
  have mm73 := (th_F_o hf h0 ro_12 (j := 0) (by decide) (by decide)).trans mm68
  have mm74 := (th_F_o hf h0 ro_12 (j := 1) (by decide) (by decide)).trans mm69
  have mm75 := (th_F_o hf h0 ro_12 (j := 2) (by decide) (by decide)).trans mm70
  have ka76 := tm_MAt ka59 (th_T_s h0 ro_12 hst58)
  have ka77 := tm_MAt ka60 (th_T_s h0 ro_12 hst58)
  have ka78 := tm_MAt ka61 (th_T_s h0 ro_12 hst58)
  have ka79 := tm_MAt ka62 (th_T_s h0 ro_12 hst58)
  have ka80 := tm_MAt ka63 (th_T_s h0 ro_12 hst58)
  have ka81 := tm_MAt ka64 (th_T_s h0 ro_12 hst58)
  have ka82 := tm_MAt kq56 (th_T_s h0 ro_12 hst58)
  have mm83 := hst58.2.1
  refine lv_aload_n hx hb dX3_grow_61 rfl (lv_at hl 3 rfl) ?_
  refine lv_iconst (v := 1) hx hb dX3_grow_62 (by decide) ?_
  refine lv_aload_n hx hb dX3_grow_63 rfl (lv_at hl 3 rfl) ?_
  refine th_getK hC cf_X3 hB.1 h0 ro_12 rfl (j := 0) (by decide) mm73 kf_X3_11 dX3_grow_64 ?_
  refine lv_iconst (v := 1) hx hb dX3_grow_67 (by decide) ?_
  refine tr_isub hx hb dX3_grow_68 (Eq.refl _) tk_1 (by omega) (by omega) (fun x84 ex84 => ?_)
  refine lv_ishl hx hb dX3_grow_69 ?_
  refine lv_topi (fun x85 ex85 => ?_)
  have lx85 := ti_lo x85; have ux85 := ti_hi x85
  have fx85 : x85.toInt = 2048 := by rw [ex85, show x84 = 11 from Int32.toInt_inj.mp (by rw [show x84.toInt = 11 by omega]; rfl)]; rfl
  refine tm_newa (ty := .int) (t := 0) hC hB rfl rfl rfl kw_104 (tm_sz hB.1 h0 ro_12) (N := 2048) (by omega) (by decide) (Nat.le_of_ble_eq_true rfl) (Nat.le_of_ble_eq_true rfl) dX3_grow_70 (fun q70 H70 eq70 zq70 oq70 hB kq70 => ?_)
  have kq70 : th_MA G Γ H70 q70 0 2048 (fun i => .int ((fun _ => (0 : Int32)) i)) := kq70
  have dd_q70_b1 : th_nq q70 b1 := fun e => absurd (tm_lt ka76) (by rw [← e, eq70]; exact Nat.lt_irrefl _)
  have dd_q70_b2 : th_nq q70 b2 := fun e => absurd (tm_lt ka77) (by rw [← e, eq70]; exact Nat.lt_irrefl _)
  have dd_q70_b3 : th_nq q70 b3 := fun e => absurd (tm_lt ka78) (by rw [← e, eq70]; exact Nat.lt_irrefl _)
  have dd_q70_b4 : th_nq q70 b4 := fun e => absurd (tm_lt ka79) (by rw [← e, eq70]; exact Nat.lt_irrefl _)
  have dd_q70_q32 : th_nq q70 q32 := fun e => absurd (tm_lt ka80) (by rw [← e, eq70]; exact Nat.lt_irrefl _)
  have dd_q70_q44 : th_nq q70 q44 := fun e => absurd (tm_lt ka81) (by rw [← e, eq70]; exact Nat.lt_irrefl _)
  have dd_q70_q56 : th_nq q70 q56 := fun e => absurd (tm_lt ka82) (by rw [← e, eq70]; exact Nat.lt_irrefl _)
  have ka86 := tm_MAo ka76 oq70 (fun e => dd_q70_b1 e.symm)
  have ka87 := tm_MAo ka77 oq70 (fun e => dd_q70_b2 e.symm)
  have ka88 := tm_MAo ka78 oq70 (fun e => dd_q70_b3 e.symm)
  have ka89 := tm_MAo ka79 oq70 (fun e => dd_q70_b4 e.symm)
  have ka90 := tm_MAo ka80 oq70 (fun e => dd_q70_q32 e.symm)
  have ka91 := tm_MAo ka81 oq70 (fun e => dd_q70_q44 e.symm)
  have ka92 := tm_MAo ka82 oq70 (fun e => dd_q70_q56 e.symm)
  have mm93 := (tm_sln h0 ro_12 kq70 oq70 _).trans mm71
  have mm94 := (tm_sln h0 ro_12 kq70 oq70 _).trans mm72
  have mm95 := (tm_sln h0 ro_12 kq70 oq70 _).trans mm73
  have mm96 := (tm_sln h0 ro_12 kq70 oq70 _).trans mm74
  have mm97 := (tm_sln h0 ro_12 kq70 oq70 _).trans mm75
  have mm98 := (tm_sln h0 ro_12 kq70 oq70 _).trans mm83
  refine th_put hC cf_X3 hB h0 (Or.inl h0) ro_12 rfl (j := 4) rfl th_s5 (by decide) rfl rfl rfl kf_X3_26 dX3_grow_72 (fun H72 locs hB hf hst72 => ?_)
  have mm99 := (th_F_o hf h0 ro_12 (j := 5) (by decide) (by decide)).trans mm94
  have mm100 := (th_F_o hf h0 ro_12 (j := 0) (by decide) (by decide)).trans mm95
  have mm101 := (th_F_o hf h0 ro_12 (j := 1) (by decide) (by decide)).trans mm96
  have mm102 := (th_F_o hf h0 ro_12 (j := 2) (by decide) (by decide)).trans mm97
  have mm103 := (th_F_o hf h0 ro_12 (j := 3) (by decide) (by decide)).trans mm98
  have ka104 := tm_MAt ka86 (th_T_s h0 ro_12 hst72)
  have ka105 := tm_MAt ka87 (th_T_s h0 ro_12 hst72)
  have ka106 := tm_MAt ka88 (th_T_s h0 ro_12 hst72)
  have ka107 := tm_MAt ka89 (th_T_s h0 ro_12 hst72)
  have ka108 := tm_MAt ka90 (th_T_s h0 ro_12 hst72)
  have ka109 := tm_MAt ka91 (th_T_s h0 ro_12 hst72)
  have ka110 := tm_MAt ka92 (th_T_s h0 ro_12 hst72)
  have ka111 := tm_MAt kq70 (th_T_s h0 ro_12 hst72)
  have mm112 := hst72.2.1
  have eb9 : x1 = nI 12 := Int32.toInt_inj.mp (by rw [show x1.toInt = 12 by omega]; rfl)
  have mm113 := mm100
  rw [eb9] at mm113
  have ra114 : ∀ i : Nat, 0 ≤ ((fun _ => (0 : Int32)) i).toInt ∧ ((fun _ => (0 : Int32)) i).toInt < 4096 := fun _ => (by decide : (0 : Int) ≤ (0 : Int32).toInt ∧ (0 : Int32).toInt < 4096)
  refine lv_aload_n hx hb dX3_grow_75 rfl (lv_at hl 3 rfl) ?_
  refine th_getK hC cf_X3 hB.1 h0 ro_12 rfl (j := 1) (by decide) mm101 kf_X3_15 dX3_grow_76 ?_
  refine lv_ldc2 (v := (-1)) hx hb hC.2.2.2.1 (hC.2.2.2.2.1 _ kw_296) dX3_grow_79 ?_
  refine th_call (th_runS (As := [.ref q32, .long (-1)]) (rest := []) hC mf_J7_fill_d0a16 km_X3_38 st_J7_fill_d0a16 (c_J7_fill_d0a16_m4096 l G Γ H72 hB.1 q32 (fun _ => (0 : Int64)) ka108 (-1)) rfl rfl ⟨Nat.le_of_ble_eq_true rfl, Nat.le_of_ble_eq_true rfl⟩ rfl hl.1 rfl (Nat.le_of_ble_eq_true rfl) dX3_grow_82 ⟨Nat.le_of_ble_eq_true rfl, Nat.le_of_ble_eq_true rfl⟩) hB.2.1 (fun v82 H82 locs hp hz hS => ?_)
  obtain ⟨rfl, hI1, hf, z82_0, z82_1⟩ := hp
  have hB := th_B_c hB hI1 hS hf (by decide)
  have mm115 := (th_F_o hf h0 ro_12 (j := 5) (by decide) (by decide)).trans mm99
  have mm116 := (th_F_o hf h0 ro_12 (j := 0) (by decide) (by decide)).trans mm113
  have mm117 := (th_F_o hf h0 ro_12 (j := 1) (by decide) (by decide)).trans mm101
  have mm118 := (th_F_o hf h0 ro_12 (j := 2) (by decide) (by decide)).trans mm102
  have mm119 := (th_F_o hf h0 ro_12 (j := 3) (by decide) (by decide)).trans mm103
  have mm120 := (th_F_o hf h0 ro_12 (j := 4) (by decide) (by decide)).trans mm112
  obtain ⟨fa121, ka122⟩ := z82_0
  have ka123 := tm_MAe ka104 (th_FR1 z82_1 (fun e => dd_q32_b1 e.symm))
  have ka124 := tm_MAe ka105 (th_FR1 z82_1 (fun e => dd_q32_b2 e.symm))
  have ka125 := tm_MAe ka106 (th_FR1 z82_1 (fun e => dd_q32_b3 e.symm))
  have ka126 := tm_MAe ka107 (th_FR1 z82_1 (fun e => dd_q32_b4 e.symm))
  have ka127 := tm_MAe ka109 (th_FR1 z82_1 (id dd_q44_q32))
  have ka128 := tm_MAe ka110 (th_FR1 z82_1 (id dd_q56_q32))
  have ka129 := tm_MAe ka111 (th_FR1 z82_1 (id dd_q70_q32))
  refine W.eq (g2 := F0 m 85 ls []) rfl ?_
  refine lv_iconst (v := 0) hx hb dX3_grow_85 (by decide) ?_
  refine lv_istore (lv' := [(4, .int 0), (3, .ref b4), (2, .ref b2), (1, .ref b1), (0, .ref a0)]) hx hb dX3_grow_86 hl (by decide) rfl (fun ls hl => ?_)
  have lp88 : ∀ (n88 : Nat) (H88 : Heap) (locs : List Loc) (ls : Array Slot) (j88_4 : Int32) (f9_88 : Nat → Int64) (f10_88 : Nat → Int32) (f11_88 : Nat → Int32) (f12_88 : Nat → Int32) (f1_88 : Nat → Int64) (f2_88 : Nat → Int32) (f3_88 : Nat → Int32) (f4_88 : Nat → Int32), th_B G Γ Γ [(12, 0), (12, 1), (12, 2), (12, 3), (12, 4)] H0 H88 locs → lv_has ls 5 [(3, .ref b4), (2, .ref b2), (1, .ref b1), (0, .ref a0), (4, .int j88_4)] → 0 ≤ j88_4.toInt → j88_4.toInt ≤ 999 → th_sl H88 a0 (G.1.2 3 5) = .int u → th_sl H88 a0 (G.1.2 3 0) = .int (nI 12) → th_sl H88 a0 (G.1.2 3 1) = .ref q32 → th_sl H88 a0 (G.1.2 3 2) = .ref q44 → th_sl H88 a0 (G.1.2 3 3) = .ref q56 → th_sl H88 a0 (G.1.2 3 4) = .ref q70 → th_MA G Γ H88 b1 1 1024 (fun i => .long (f9_88 i)) → th_MA G Γ H88 b2 0 1024 (fun i => .int (f10_88 i)) → th_MA G Γ H88 b3 0 1024 (fun i => .int (f11_88 i)) → th_MA G Γ H88 b4 0 512 (fun i => .int (f12_88 i)) → (∀ i, 0 ≤ (f12_88 i).toInt ∧ (f12_88 i).toInt < 1024) → th_MA G Γ H88 q32 1 4096 (fun i => .long (f1_88 i)) → th_MA G Γ H88 q44 0 4096 (fun i => .int (f2_88 i)) → th_MA G Γ H88 q56 0 4096 (fun i => .int (f3_88 i)) → th_MA G Γ H88 q70 0 2048 (fun i => .int (f4_88 i)) → (∀ i, 0 ≤ (f4_88 i).toInt ∧ (f4_88 i).toInt < 4096) → (2147483648 : Int) - j88_4.toInt ≤ (n88 : Int) → W p l e ({ frames := 2, cells := 4, slots := 14336, locals := 49 } : Room) s m ([.ref a0] : List Value).toArray below meth c H88 locs 4 14336 (MQ below (th_Q (fun (v : Option Value) (H1 : Heap) => v = none ∧ th_I G Γ H1 ∧ th_F G Γ [(12, 0), (12, 1), (12, 2), (12, 3), (12, 4)] H0 H1 ∧ th_RC G Γ H1 ∧ (∃ c1 c2 c3 c4 : Nat, th_ME G Γ H1 a0 12 c1 c2 c3 c4)) G) ([.ref a0] : List Value).toArray s 4 14336 (fun q => G.2.2 ≤ q)) (F0 m 88 ls []) := by
    intro n88
    induction n88 with
    | zero => intro H88 locs ls j88_4 f9_88 f10_88 f11_88 f12_88 f1_88 f2_88 f3_88 f4_88 hB hl g88_0 g88_1 g88_2 g88_3 g88_4 g88_5 g88_6 g88_7 g88_8 g88_9 g88_10 g88_11 g88_12 g88_13 g88_14 g88_15 g88_16 g88_17 hm88; exact absurd hm88 (by have := ti_hi j88_4; omega)
    | succ n88 ih88 =>
      intro H88 locs ls j88_4 f9_88 f10_88 f11_88 f12_88 f1_88 f2_88 f3_88 f4_88 hB hl g88_0 g88_1 g88_2 g88_3 g88_4 g88_5 g88_6 g88_7 g88_8 g88_9 g88_10 g88_11 g88_12 g88_13 g88_14 g88_15 g88_16 g88_17 hm88
      have lj88_4 := ti_lo j88_4; have uj88_4 := ti_hi j88_4
      have hm88 : (2147483648 : Int) - j88_4.toInt ≤ (n88 : Int) + 1 := by omega
      refine lv_iload hx hb dX3_grow_88 (lv_at hl 4 rfl) ?_
      refine lv_aload_n hx hb dX3_grow_90 rfl (lv_at hl 3 rfl) ?_
      refine th_getK hC cf_X3 hB.1 h0 ro_12 rfl (j := 5) (by decide) g88_2 kf_X3_29 dX3_grow_91 ?_
      refine tr_icmp_ge (tgt := 121) hx hb dX3_grow_94 (by decide) (Eq.refl _) (Eq.refl _) (fun c94 => ?_) (fun c94 => ?_)
      · exact th_vret hC hH hr hlocks hB.2.1 ⟨rfl, hB.1, hB.2.2, th_RC_me hB.1 hR0 hB.2.2 (by decide) h0 ⟨_, _, _, _, _, (show th_ME G Γ H88 a0 12 q32 q44 q56 q70 from ⟨by decide, g88_3, g88_4, g88_5, g88_6, g88_7, ⟨(fun e => dd_q44_q32 e.symm), (fun e => dd_q56_q32 e.symm), (fun e => dd_q70_q32 e.symm), (fun e => dd_q56_q44 e.symm), (fun e => dd_q70_q44 e.symm), (fun e => dd_q70_q56 e.symm)⟩, ⟨_, g88_13⟩, ⟨_, g88_14⟩, ⟨_, g88_15⟩, ⟨_, g88_16, g88_17⟩, _, g88_2, by omega, by omega⟩)⟩, ⟨_, _, _, _, (show th_ME G Γ H88 a0 12 q32 q44 q56 q70 from ⟨by decide, g88_3, g88_4, g88_5, g88_6, g88_7, ⟨(fun e => dd_q44_q32 e.symm), (fun e => dd_q56_q32 e.symm), (fun e => dd_q70_q32 e.symm), (fun e => dd_q56_q44 e.symm), (fun e => dd_q70_q44 e.symm), (fun e => dd_q70_q56 e.symm)⟩, ⟨_, g88_13⟩, ⟨_, g88_14⟩, ⟨_, g88_15⟩, ⟨_, g88_16, g88_17⟩, _, g88_2, by omega, by omega⟩)⟩⟩ dX3_grow_121
      · refine lv_aload_n hx hb dX3_grow_97 rfl (lv_at hl 3 rfl) ?_
        refine lv_aload_n hx hb dX3_grow_98 rfl (lv_at hl 2 rfl) ?_
        refine lv_aload_n hx hb dX3_grow_99 rfl (lv_at hl 0 rfl) ?_
        refine lv_iload hx hb dX3_grow_100 (lv_at hl 4 rfl) ?_
        refine tm_iald hC g88_11 (Eq.refl _) (by omega) (by omega) dX3_grow_102 (fun x130 ex130 => ?_)
        have fx130 := g88_12 (j88_4.toInt).toNat
        rw [← ex130] at fx130
        refine tm_lald hC g88_8 (Eq.refl _) (by omega) (by omega) dX3_grow_103 (fun y131 ey131 => ?_)
        refine lv_aload_n hx hb dX3_grow_104 rfl (lv_at hl 1 rfl) ?_
        refine lv_aload_n hx hb dX3_grow_105 rfl (lv_at hl 0 rfl) ?_
        refine lv_iload hx hb dX3_grow_106 (lv_at hl 4 rfl) ?_
        refine tm_iald hC g88_11 (Eq.refl _) (by omega) (by omega) dX3_grow_108 (fun x132 ex132 => ?_)
        have fx132 := g88_12 (j88_4.toInt).toNat
        rw [← ex132] at fx132
        refine tm_iald hC g88_9 (Eq.refl _) (by omega) (by omega) dX3_grow_109 (fun x133 ex133 => ?_)
        have lx133 := ti_lo x133; have ux133 := ti_hi x133
        refine lv_iload hx hb dX3_grow_110 (lv_at hl 4 rfl) ?_
        refine th_call (th_runV (As := [.long y131, .int x133, .int j88_4]) (rest := []) hC mf_X3_put km_X3_53 im_X3_put se_X3_put (c_X3_put_12 l G Γ H88 hB.1 a0 h0 y131 x133 j88_4 (by omega) (by omega) q32 q44 q56 q70 (show th_ME G Γ H88 a0 12 q32 q44 q56 q70 from ⟨by decide, g88_3, g88_4, g88_5, g88_6, g88_7, ⟨(fun e => dd_q44_q32 e.symm), (fun e => dd_q56_q32 e.symm), (fun e => dd_q70_q32 e.symm), (fun e => dd_q56_q44 e.symm), (fun e => dd_q70_q44 e.symm), (fun e => dd_q70_q56 e.symm)⟩, ⟨_, g88_13⟩, ⟨_, g88_14⟩, ⟨_, g88_15⟩, ⟨_, g88_16, g88_17⟩, _, g88_2, by omega, by omega⟩)) rfl rfl ⟨Nat.le_of_ble_eq_true rfl, Nat.le_of_ble_eq_true rfl⟩ hB.1 h0 ro_12 rfl rfl hl.1 rfl (Nat.le_of_ble_eq_true rfl) dX3_grow_112 ⟨Nat.le_of_ble_eq_true rfl, Nat.le_of_ble_eq_true rfl⟩) hB.2.1 (fun v112 H112 locs hp hz hS => ?_)
        obtain ⟨rfl, hI1, hf, z112_0, z112_1⟩ := hp
        have hB := th_B_c hB hI1 hS hf (by decide)
        have mm134 := (th_F_o hf h0 ro_12 (j := 5) (by decide) (by decide)).trans g88_2
        have mm135 := (th_F_o hf h0 ro_12 (j := 0) (by decide) (by decide)).trans g88_3
        have mm136 := (th_F_o hf h0 ro_12 (j := 1) (by decide) (by decide)).trans g88_4
        have mm137 := (th_F_o hf h0 ro_12 (j := 2) (by decide) (by decide)).trans g88_5
        have mm138 := (th_F_o hf h0 ro_12 (j := 3) (by decide) (by decide)).trans g88_6
        have mm139 := (th_F_o hf h0 ro_12 (j := 4) (by decide) (by decide)).trans g88_7
        have ka140 := tm_MAe g88_8 (th_FR4 z112_1 (fun e => dd_q32_b1 e.symm) (fun e => dd_q44_b1 e.symm) (fun e => dd_q56_b1 e.symm) (fun e => dd_q70_b1 e.symm))
        have ka141 := tm_MAe g88_9 (th_FR4 z112_1 (fun e => dd_q32_b2 e.symm) (fun e => dd_q44_b2 e.symm) (fun e => dd_q56_b2 e.symm) (fun e => dd_q70_b2 e.symm))
        have ka142 := tm_MAe g88_10 (th_FR4 z112_1 (fun e => dd_q32_b3 e.symm) (fun e => dd_q44_b3 e.symm) (fun e => dd_q56_b3 e.symm) (fun e => dd_q70_b3 e.symm))
        have ka143 := tm_MAe g88_11 (th_FR4 z112_1 (fun e => dd_q32_b4 e.symm) (fun e => dd_q44_b4 e.symm) (fun e => dd_q56_b4 e.symm) (fun e => dd_q70_b4 e.symm))
        obtain ⟨-, -, -, -, -, -, -, ⟨f1_2, k1_2⟩, ⟨f2_2, k2_2⟩, ⟨f3_2, k3_2⟩, ⟨f4_2, k4_2, r4_2⟩, -⟩ := id z112_0
        have k1_2 : th_MA G Γ H112 q32 1 4096 (fun i => .long (f1_2 i)) := k1_2
        have k2_2 : th_MA G Γ H112 q44 0 4096 (fun i => .int (f2_2 i)) := k2_2
        have k3_2 : th_MA G Γ H112 q56 0 4096 (fun i => .int (f3_2 i)) := k3_2
        have k4_2 : th_MA G Γ H112 q70 0 2048 (fun i => .int (f4_2 i)) := k4_2
        have r4_2 : ∀ i, 0 ≤ (f4_2 i).toInt ∧ (f4_2 i).toInt < 4096 := r4_2
        refine W.eq (g2 := F0 m 115 ls []) rfl ?_
        refine tr_iinc (fun x144 => [(4, .int x144), (3, .ref b4), (2, .ref b2), (1, .ref b1), (0, .ref a0)]) hx hb dX3_grow_115 hl (k := 4) rfl (Eq.refl _) tk_1 (by omega) (by omega) (by decide) (fun _ => rfl) (fun x144 ls ex144 hl => ?_)
        refine lv_goto (tgt := 88) hx hb dX3_grow_118 (by decide) ?_
        exact ih88 H112 locs ls x144 f9_88 f10_88 f11_88 f12_88 f1_2 f2_2 f3_2 f4_2 hB (lv_sub hl [1, 2, 3, 4, 0] rfl) (by omega) (by omega) mm134 mm135 mm136 mm137 mm138 mm139 ka140 ka141 ka142 ka143 g88_12 k1_2 k2_2 k3_2 k4_2 r4_2 (by omega)
  exact lp88 ((2147483648 : Int) - (0)).toNat H82 locs ls 0 f1 f2 f3 f4 fa121 (fun _ => (0 : Int32)) (fun _ => (0 : Int32)) (fun _ => (0 : Int32)) hB (lv_sub hl [1, 2, 3, 4, 0] rfl) (by decide) (by decide) mm115 mm116 mm117 mm118 mm119 mm120 ka123 ka124 ka125 ka126 r4 ka122 ka127 ka128 ka129 ra114 (by have w0 := tk_0; omega)

set_option maxHeartbeats 4000000 in
set_option maxRecDepth 100000 in
theorem c_X3_keep_10 (l : Launch) (G : th_G) (Γ : th_Ga) (H0 : Heap) (hI : th_I G Γ H0) (hR : th_RC G Γ H0) (a0 : Nat) (h0 : Γ a0 = (12, 0)) (p1 : Int64) (p2 : Int32) (b1 b2 b3 b4 : Nat) (hme : th_ME G Γ H0 a0 10 b1 b2 b3 b4) : Met l yX3_keep (.code yX3_keep cX3_keep 4 (none) :: th_tb) ({ frames := 3, cells := 8, slots := 71680, locals := 73 } : Room) (th_P [.ref a0, .long p1, .int p2] G H0) (th_Q (fun (v : Option Value) (H1 : Heap) => v = none ∧ th_I G Γ H1 ∧ th_F G Γ [(12, 0), (12, 1), (12, 2), (12, 3), (12, 4), (12, 5), (12, 6)] H0 H1 ∧ th_RC G Γ H1 ∧ (th_bp G Γ H0 H1 10)) G) 8 71680 (fun q => G.2.2 ≤ q) := by
  refine th_met RX3 (by decide) rfl (Nat.le_of_ble_eq_true rfl) ?_
  intro p e s m below meth c hC hH hr hlocks hnm ls hl
  have hx := hC.1
  have hb := hC.2.1
  have hB : th_B G Γ Γ [(12, 0), (12, 1), (12, 2), (12, 3), (12, 4), (12, 5), (12, 6)] H0 H0 [] := ⟨hI, va_S.rf, th_F_rf⟩
  have hl : lv_has ls 4 [(0, .ref a0), (1, .long p1), (3, .int p2)] := hl
  have lp2 := ti_lo p2; have up2 := ti_hi p2
  obtain ⟨-, m0, m1, m2, m3, m4, ⟨d12, d13, d14, d23, d24, d34⟩, ⟨f1, k1⟩, ⟨f2, k2⟩, ⟨f3, k3⟩, ⟨f4, k4, r4⟩, u, mu, lu, uu⟩ := id hme
  have k1 : th_MA G Γ H0 b1 1 1024 (fun i => .long (f1 i)) := k1
  have k2 : th_MA G Γ H0 b2 0 1024 (fun i => .int (f2 i)) := k2
  have k3 : th_MA G Γ H0 b3 0 1024 (fun i => .int (f3 i)) := k3
  have k4 : th_MA G Γ H0 b4 0 512 (fun i => .int (f4 i)) := k4
  have r4 : ∀ i, 0 ≤ (f4 i).toInt ∧ (f4 i).toInt < 1024 := r4
  have uu : u.toInt ≤ 512 := uu
  have hR0 := hR
  refine lv_aload_n hx hb dX3_keep_0 rfl (lv_at hl 0 rfl) ?_
  refine th_getK hC cf_X3 hB.1 h0 ro_12 rfl (j := 5) (by decide) mu kf_X3_29 dX3_keep_1 ?_
  refine lv_aload_n hx hb dX3_keep_4 rfl (lv_at hl 0 rfl) ?_
  refine th_getK hC cf_X3 hB.1 h0 ro_12 rfl (j := 4) (by decide) m4 kf_X3_26 dX3_keep_5 ?_
  refine tm_alen hC k4 rfl (by decide) dX3_keep_8 (fun x1 ex1 => ?_)
  refine tr_icmp_lt (tgt := 25) hx hb dX3_keep_9 (by decide) (Eq.refl _) (Eq.refl _) (fun c9 => ?_) (fun c9 => ?_)
  · refine lv_aload_n hx hb dX3_keep_25 rfl (lv_at hl 0 rfl) ?_
    refine th_getK hC cf_X3 hB.1 h0 ro_12 rfl (j := 5) (by decide) mu kf_X3_29 dX3_keep_26 ?_
    refine lv_aload_n hx hb dX3_keep_29 rfl (lv_at hl 0 rfl) ?_
    refine th_getK hC cf_X3 hB.1 h0 ro_12 rfl (j := 4) (by decide) m4 kf_X3_26 dX3_keep_30 ?_
    refine tm_alen hC k4 rfl (by decide) dX3_keep_33 (fun x2 ex2 => ?_)
    refine tr_icmp_lt (tgt := 43) hx hb dX3_keep_34 (by decide) (Eq.refl _) (Eq.refl _) (fun c34 => ?_) (fun c34 => ?_)
    · refine lv_aload_n hx hb dX3_keep_43 rfl (lv_at hl 0 rfl) ?_
      refine lv_lload_n hx hb dX3_keep_44 rfl (lv_at hl 1 rfl) ?_
      refine lv_iload_n hx hb dX3_keep_45 rfl (lv_at hl 2 rfl) ?_
      refine lv_aload_n hx hb dX3_keep_46 rfl (lv_at hl 0 rfl) ?_
      refine th_getK hC cf_X3 hB.1 h0 ro_12 rfl (j := 5) (by decide) mu kf_X3_29 dX3_keep_47 ?_
      refine th_call (th_runV (As := [.long p1, .int p2, .int u]) (rest := []) hC mf_X3_put km_X3_53 im_X3_put se_X3_put (c_X3_put_10 l G Γ H0 hB.1 a0 h0 p1 p2 u (by omega) (by omega) b1 b2 b3 b4 (show th_ME G Γ H0 a0 10 b1 b2 b3 b4 from ⟨by decide, m0, m1, m2, m3, m4, ⟨d12, d13, d14, d23, d24, d34⟩, ⟨_, k1⟩, ⟨_, k2⟩, ⟨_, k3⟩, ⟨_, k4, r4⟩, _, mu, by omega, by omega⟩)) rfl rfl ⟨Nat.le_of_ble_eq_true rfl, Nat.le_of_ble_eq_true rfl⟩ hB.1 h0 ro_12 rfl rfl hl.1 rfl (Nat.le_of_ble_eq_true rfl) dX3_keep_50 ⟨Nat.le_of_ble_eq_true rfl, Nat.le_of_ble_eq_true rfl⟩) hB.2.1 (fun v50 H50 locs hp hz hS => ?_)
      obtain ⟨rfl, hI1, hf, z50_0, z50_1⟩ := hp
      have hB := th_B_c hB hI1 hS hf (by decide)
      have mm3 := (th_F_o hf h0 ro_12 (j := 0) (by decide) (by decide)).trans m0
      have mm4 := (th_F_o hf h0 ro_12 (j := 1) (by decide) (by decide)).trans m1
      have mm5 := (th_F_o hf h0 ro_12 (j := 2) (by decide) (by decide)).trans m2
      have mm6 := (th_F_o hf h0 ro_12 (j := 3) (by decide) (by decide)).trans m3
      have mm7 := (th_F_o hf h0 ro_12 (j := 4) (by decide) (by decide)).trans m4
      have mm8 := (th_F_o hf h0 ro_12 (j := 5) (by decide) (by decide)).trans mu
      obtain ⟨-, -, -, -, -, -, -, ⟨f1_2, k1_2⟩, ⟨f2_2, k2_2⟩, ⟨f3_2, k3_2⟩, ⟨f4_2, k4_2, r4_2⟩, -⟩ := id z50_0
      have k1_2 : th_MA G Γ H50 b1 1 1024 (fun i => .long (f1_2 i)) := k1_2
      have k2_2 : th_MA G Γ H50 b2 0 1024 (fun i => .int (f2_2 i)) := k2_2
      have k3_2 : th_MA G Γ H50 b3 0 1024 (fun i => .int (f3_2 i)) := k3_2
      have k4_2 : th_MA G Γ H50 b4 0 512 (fun i => .int (f4_2 i)) := k4_2
      have r4_2 : ∀ i, 0 ≤ (f4_2 i).toInt ∧ (f4_2 i).toInt < 1024 := r4_2
      refine W.eq (g2 := F0 m 53 ls []) rfl ?_
      refine lv_aload_n hx hb dX3_keep_53 rfl (lv_at hl 0 rfl) ?_
      refine lv_dup hx hb dX3_keep_54 rfl ?_
      refine th_getK hC cf_X3 hB.1 h0 ro_12 rfl (j := 5) (by decide) mm8 kf_X3_29 dX3_keep_55 ?_
      refine lv_iconst (v := 1) hx hb dX3_keep_58 (by decide) ?_
      refine tr_iadd hx hb dX3_keep_59 (Eq.refl _) tk_1 (by omega) (by omega) (fun x9 ex9 => ?_)
      refine th_put hC cf_X3 hB h0 (Or.inl h0) ro_12 rfl (j := 5) rfl (th_sI (by omega) (by omega)) (by decide) rfl rfl rfl kf_X3_29 dX3_keep_60 (fun H60 locs hB hf hst60 => ?_)
      have mm10 := (th_F_o hf h0 ro_12 (j := 0) (by decide) (by decide)).trans mm3
      have mm11 := (th_F_o hf h0 ro_12 (j := 1) (by decide) (by decide)).trans mm4
      have mm12 := (th_F_o hf h0 ro_12 (j := 2) (by decide) (by decide)).trans mm5
      have mm13 := (th_F_o hf h0 ro_12 (j := 3) (by decide) (by decide)).trans mm6
      have mm14 := (th_F_o hf h0 ro_12 (j := 4) (by decide) (by decide)).trans mm7
      have ka15 := tm_MAt k1_2 (th_T_s h0 ro_12 hst60)
      have ka16 := tm_MAt k2_2 (th_T_s h0 ro_12 hst60)
      have ka17 := tm_MAt k3_2 (th_T_s h0 ro_12 hst60)
      have ka18 := tm_MAt k4_2 (th_T_s h0 ro_12 hst60)
      have mm19 := hst60.2.1
      refine W.count (fun hc1 hc2 => ?_)
      rw [hH] at hc1 hc2
      refine W.widen (k := 8) (n := 71680) (Nat.le_of_ble_eq_true rfl) (Nat.le_of_ble_eq_true rfl) ?_
      exact th_vret hC hH hr hlocks hB.2.1 ⟨rfl, hB.1, hB.2.2, th_RC_me hB.1 hR0 hB.2.2 (by decide) h0 ⟨_, _, _, _, _, (show th_ME G Γ H60 a0 10 b1 b2 b3 b4 from ⟨by decide, mm10, mm11, mm12, mm13, mm14, ⟨d12, d13, d14, d23, d24, d34⟩, ⟨_, ka15⟩, ⟨_, ka16⟩, ⟨_, ka17⟩, ⟨_, ka18, r4_2⟩, _, mm19, by omega, by omega⟩)⟩, ⟨10, th_bits_me h0 (show th_ME G Γ H60 a0 10 b1 b2 b3 b4 from ⟨by decide, mm10, mm11, mm12, mm13, mm14, ⟨d12, d13, d14, d23, d24, d34⟩, ⟨_, ka15⟩, ⟨_, ka16⟩, ⟨_, ka17⟩, ⟨_, ka18, r4_2⟩, _, mm19, by omega, by omega⟩), by decide, by decide, by have e0 : th_pc 10 = 8 := rfl; have d0 : th_pq 10 = 71680 := rfl; omega, by have e0 : th_pc 10 = 8 := rfl; have d0 : th_pq 10 = 71680 := rfl; omega⟩⟩ dX3_keep_63
    · exfalso; omega
  · refine lv_aload_n hx hb dX3_keep_12 rfl (lv_at hl 0 rfl) ?_
    refine th_getK hC cf_X3 hB.1 h0 ro_12 rfl (j := 0) (by decide) m0 kf_X3_11 dX3_keep_13 ?_
    refine lv_bipush (v := 14) hx hb dX3_keep_16 (by decide) ?_
    refine tr_icmp_ge (tgt := 25) hx hb dX3_keep_18 (by decide) tk_n10 tk_14 (fun c18 => ?_) (fun c18 => ?_)
    · exfalso; omega
    · refine lv_aload_n hx hb dX3_keep_21 rfl (lv_at hl 0 rfl) ?_
      refine th_call (th_runV (As := []) (rest := []) hC mf_X3_grow km_X3_50 im_X3_grow se_X3_grow (c_X3_grow_10 l G Γ H0 hB.1 hR a0 h0 b1 b2 b3 b4 (show th_ME G Γ H0 a0 10 b1 b2 b3 b4 from ⟨by decide, m0, m1, m2, m3, m4, ⟨d12, d13, d14, d23, d24, d34⟩, ⟨_, k1⟩, ⟨_, k2⟩, ⟨_, k3⟩, ⟨_, k4, r4⟩, _, mu, by omega, by omega⟩)) rfl rfl ⟨Nat.le_of_ble_eq_true rfl, Nat.le_of_ble_eq_true rfl⟩ hB.1 h0 ro_12 rfl rfl hl.1 rfl (Nat.le_of_ble_eq_true rfl) dX3_keep_22 ⟨Nat.le_of_ble_eq_true rfl, Nat.le_of_ble_eq_true rfl⟩) hB.2.1 (fun v22 H22 locs hp hz hS => ?_)
      obtain ⟨rfl, hI1, hf, hR, z22_0⟩ := hp
      have hB := th_B_c hB hI1 hS hf (by decide)
      obtain ⟨c1_22, c2_22, c3_22, c4_22, hz22⟩ := z22_0
      obtain ⟨-, m0_3, m1_3, m2_3, m3_3, m4_3, ⟨d12_3, d13_3, d14_3, d23_3, d24_3, d34_3⟩, ⟨f1_3, k1_3⟩, ⟨f2_3, k2_3⟩, ⟨f3_3, k3_3⟩, ⟨f4_3, k4_3, r4_3⟩, u_3, mu_3, lu_3, uu_3⟩ := id hz22
      have k1_3 : th_MA G Γ H22 c1_22 1 4096 (fun i => .long (f1_3 i)) := k1_3
      have k2_3 : th_MA G Γ H22 c2_22 0 4096 (fun i => .int (f2_3 i)) := k2_3
      have k3_3 : th_MA G Γ H22 c3_22 0 4096 (fun i => .int (f3_3 i)) := k3_3
      have k4_3 : th_MA G Γ H22 c4_22 0 2048 (fun i => .int (f4_3 i)) := k4_3
      have r4_3 : ∀ i, 0 ≤ (f4_3 i).toInt ∧ (f4_3 i).toInt < 4096 := r4_3
      have uu_3 : u_3.toInt ≤ 2048 := uu_3
      refine W.eq (g2 := F0 m 25 ls []) rfl ?_
      refine lv_aload_n hx hb dX3_keep_25 rfl (lv_at hl 0 rfl) ?_
      refine th_getK hC cf_X3 hB.1 h0 ro_12 rfl (j := 5) (by decide) mu_3 kf_X3_29 dX3_keep_26 ?_
      refine lv_aload_n hx hb dX3_keep_29 rfl (lv_at hl 0 rfl) ?_
      refine th_getK hC cf_X3 hB.1 h0 ro_12 rfl (j := 4) (by decide) m4_3 kf_X3_26 dX3_keep_30 ?_
      refine tm_alen hC k4_3 rfl (by decide) dX3_keep_33 (fun x20 ex20 => ?_)
      refine tr_icmp_lt (tgt := 43) hx hb dX3_keep_34 (by decide) (Eq.refl _) (Eq.refl _) (fun c34 => ?_) (fun c34 => ?_)
      · refine lv_aload_n hx hb dX3_keep_43 rfl (lv_at hl 0 rfl) ?_
        refine lv_lload_n hx hb dX3_keep_44 rfl (lv_at hl 1 rfl) ?_
        refine lv_iload_n hx hb dX3_keep_45 rfl (lv_at hl 2 rfl) ?_
        refine lv_aload_n hx hb dX3_keep_46 rfl (lv_at hl 0 rfl) ?_
        refine th_getK hC cf_X3 hB.1 h0 ro_12 rfl (j := 5) (by decide) mu_3 kf_X3_29 dX3_keep_47 ?_
        refine th_call (th_runV (As := [.long p1, .int p2, .int u_3]) (rest := []) hC mf_X3_put km_X3_53 im_X3_put se_X3_put (c_X3_put_12 l G Γ H22 hB.1 a0 h0 p1 p2 u_3 (by omega) (by omega) c1_22 c2_22 c3_22 c4_22 (show th_ME G Γ H22 a0 12 c1_22 c2_22 c3_22 c4_22 from ⟨by decide, m0_3, m1_3, m2_3, m3_3, m4_3, ⟨d12_3, d13_3, d14_3, d23_3, d24_3, d34_3⟩, ⟨_, k1_3⟩, ⟨_, k2_3⟩, ⟨_, k3_3⟩, ⟨_, k4_3, r4_3⟩, _, mu_3, by omega, by omega⟩)) rfl rfl ⟨Nat.le_of_ble_eq_true rfl, Nat.le_of_ble_eq_true rfl⟩ hB.1 h0 ro_12 rfl rfl hl.1 rfl (Nat.le_of_ble_eq_true rfl) dX3_keep_50 ⟨Nat.le_of_ble_eq_true rfl, Nat.le_of_ble_eq_true rfl⟩) hB.2.1 (fun v50 H50 locs hp hz hS => ?_)
        obtain ⟨rfl, hI1, hf, z50_0, z50_1⟩ := hp
        have hB := th_B_c hB hI1 hS hf (by decide)
        have mm21 := (th_F_o hf h0 ro_12 (j := 0) (by decide) (by decide)).trans m0_3
        have mm22 := (th_F_o hf h0 ro_12 (j := 1) (by decide) (by decide)).trans m1_3
        have mm23 := (th_F_o hf h0 ro_12 (j := 2) (by decide) (by decide)).trans m2_3
        have mm24 := (th_F_o hf h0 ro_12 (j := 3) (by decide) (by decide)).trans m3_3
        have mm25 := (th_F_o hf h0 ro_12 (j := 4) (by decide) (by decide)).trans m4_3
        have mm26 := (th_F_o hf h0 ro_12 (j := 5) (by decide) (by decide)).trans mu_3
        obtain ⟨-, -, -, -, -, -, -, ⟨f1_4, k1_4⟩, ⟨f2_4, k2_4⟩, ⟨f3_4, k3_4⟩, ⟨f4_4, k4_4, r4_4⟩, -⟩ := id z50_0
        have k1_4 : th_MA G Γ H50 c1_22 1 4096 (fun i => .long (f1_4 i)) := k1_4
        have k2_4 : th_MA G Γ H50 c2_22 0 4096 (fun i => .int (f2_4 i)) := k2_4
        have k3_4 : th_MA G Γ H50 c3_22 0 4096 (fun i => .int (f3_4 i)) := k3_4
        have k4_4 : th_MA G Γ H50 c4_22 0 2048 (fun i => .int (f4_4 i)) := k4_4
        have r4_4 : ∀ i, 0 ≤ (f4_4 i).toInt ∧ (f4_4 i).toInt < 4096 := r4_4
        refine W.eq (g2 := F0 m 53 ls []) rfl ?_
        refine lv_aload_n hx hb dX3_keep_53 rfl (lv_at hl 0 rfl) ?_
        refine lv_dup hx hb dX3_keep_54 rfl ?_
        refine th_getK hC cf_X3 hB.1 h0 ro_12 rfl (j := 5) (by decide) mm26 kf_X3_29 dX3_keep_55 ?_
        refine lv_iconst (v := 1) hx hb dX3_keep_58 (by decide) ?_
        refine tr_iadd hx hb dX3_keep_59 (Eq.refl _) tk_1 (by omega) (by omega) (fun x27 ex27 => ?_)
        refine th_put hC cf_X3 hB h0 (Or.inl h0) ro_12 rfl (j := 5) rfl (th_sI (by omega) (by omega)) (by decide) rfl rfl rfl kf_X3_29 dX3_keep_60 (fun H60 locs hB hf hst60 => ?_)
        have mm28 := (th_F_o hf h0 ro_12 (j := 0) (by decide) (by decide)).trans mm21
        have mm29 := (th_F_o hf h0 ro_12 (j := 1) (by decide) (by decide)).trans mm22
        have mm30 := (th_F_o hf h0 ro_12 (j := 2) (by decide) (by decide)).trans mm23
        have mm31 := (th_F_o hf h0 ro_12 (j := 3) (by decide) (by decide)).trans mm24
        have mm32 := (th_F_o hf h0 ro_12 (j := 4) (by decide) (by decide)).trans mm25
        have ka33 := tm_MAt k1_4 (th_T_s h0 ro_12 hst60)
        have ka34 := tm_MAt k2_4 (th_T_s h0 ro_12 hst60)
        have ka35 := tm_MAt k3_4 (th_T_s h0 ro_12 hst60)
        have ka36 := tm_MAt k4_4 (th_T_s h0 ro_12 hst60)
        have mm37 := hst60.2.1
        refine W.count (fun hc1 hc2 => ?_)
        rw [hH] at hc1 hc2
        refine W.widen (k := 8) (n := 71680) (Nat.le_of_ble_eq_true rfl) (Nat.le_of_ble_eq_true rfl) ?_
        exact th_vret hC hH hr hlocks hB.2.1 ⟨rfl, hB.1, hB.2.2, th_RC_me hB.1 hR0 hB.2.2 (by decide) h0 ⟨_, _, _, _, _, (show th_ME G Γ H60 a0 12 c1_22 c2_22 c3_22 c4_22 from ⟨by decide, mm28, mm29, mm30, mm31, mm32, ⟨d12_3, d13_3, d14_3, d23_3, d24_3, d34_3⟩, ⟨_, ka33⟩, ⟨_, ka34⟩, ⟨_, ka35⟩, ⟨_, ka36, r4_4⟩, _, mm37, by omega, by omega⟩)⟩, ⟨12, th_bits_me h0 (show th_ME G Γ H60 a0 12 c1_22 c2_22 c3_22 c4_22 from ⟨by decide, mm28, mm29, mm30, mm31, mm32, ⟨d12_3, d13_3, d14_3, d23_3, d24_3, d34_3⟩, ⟨_, ka33⟩, ⟨_, ka34⟩, ⟨_, ka35⟩, ⟨_, ka36, r4_4⟩, _, mm37, by omega, by omega⟩), by decide, by decide, by have e0 : th_pc 10 = 8 := rfl; have d0 : th_pq 10 = 71680 := rfl; have e1 : th_pc 12 = 4 := rfl; have d1 : th_pq 12 = 57344 := rfl; omega, by have e0 : th_pc 10 = 8 := rfl; have d0 : th_pq 10 = 71680 := rfl; have e1 : th_pc 12 = 4 := rfl; have d1 : th_pq 12 = 57344 := rfl; omega⟩⟩ dX3_keep_63
      · refine lv_aload_n hx hb dX3_keep_37 rfl (lv_at hl 0 rfl) ?_
        refine lv_iconst (v := 1) hx hb dX3_keep_38 (by decide) ?_
        refine th_put hC cf_X3 hB h0 (Or.inl h0) ro_12 rfl (j := 6) rfl (th_sI (by decide) (by decide)) (by decide) rfl narrow_b1 rfl kf_X3_32 dX3_keep_39 (fun H39 locs hB hf hst39 => ?_)
        have mm38 := (th_F_o hf h0 ro_12 (j := 0) (by decide) (by decide)).trans m0_3
        have mm39 := (th_F_o hf h0 ro_12 (j := 1) (by decide) (by decide)).trans m1_3
        have mm40 := (th_F_o hf h0 ro_12 (j := 2) (by decide) (by decide)).trans m2_3
        have mm41 := (th_F_o hf h0 ro_12 (j := 3) (by decide) (by decide)).trans m3_3
        have mm42 := (th_F_o hf h0 ro_12 (j := 4) (by decide) (by decide)).trans m4_3
        have mm43 := (th_F_o hf h0 ro_12 (j := 5) (by decide) (by decide)).trans mu_3
        have hR := th_RC_F hB.1 hR hf (th_T_s h0 ro_12 hst39) (by decide)
        have ka44 := tm_MAt k1_3 (th_T_s h0 ro_12 hst39)
        have ka45 := tm_MAt k2_3 (th_T_s h0 ro_12 hst39)
        have ka46 := tm_MAt k3_3 (th_T_s h0 ro_12 hst39)
        have ka47 := tm_MAt k4_3 (th_T_s h0 ro_12 hst39)
        have mm48 := hst39.2.1
        refine W.count (fun hc1 hc2 => ?_)
        rw [hH] at hc1 hc2
        refine W.widen (k := 8) (n := 71680) (Nat.le_of_ble_eq_true rfl) (Nat.le_of_ble_eq_true rfl) ?_
        exact th_vret hC hH hr hlocks hB.2.1 ⟨rfl, hB.1, hB.2.2, hR, ⟨12, th_bits_me h0 (show th_ME G Γ H39 a0 12 c1_22 c2_22 c3_22 c4_22 from ⟨by decide, mm38, mm39, mm40, mm41, mm42, ⟨d12_3, d13_3, d14_3, d23_3, d24_3, d34_3⟩, ⟨_, ka44⟩, ⟨_, ka45⟩, ⟨_, ka46⟩, ⟨_, ka47, r4_3⟩, _, mm43, by omega, by omega⟩), by decide, by decide, by have e0 : th_pc 10 = 8 := rfl; have d0 : th_pq 10 = 71680 := rfl; have e1 : th_pc 12 = 4 := rfl; have d1 : th_pq 12 = 57344 := rfl; omega, by have e0 : th_pc 10 = 8 := rfl; have d0 : th_pq 10 = 71680 := rfl; have e1 : th_pc 12 = 4 := rfl; have d1 : th_pq 12 = 57344 := rfl; omega⟩⟩ dX3_keep_42

set_option maxHeartbeats 4000000 in
set_option maxRecDepth 100000 in
theorem c_X3_keep_12 (l : Launch) (G : th_G) (Γ : th_Ga) (H0 : Heap) (hI : th_I G Γ H0) (hR : th_RC G Γ H0) (a0 : Nat) (h0 : Γ a0 = (12, 0)) (p1 : Int64) (p2 : Int32) (b1 b2 b3 b4 : Nat) (hme : th_ME G Γ H0 a0 12 b1 b2 b3 b4) : Met l yX3_keep (.code yX3_keep cX3_keep 4 (none) :: th_tb) ({ frames := 3, cells := 4, slots := 57344, locals := 73 } : Room) (th_P [.ref a0, .long p1, .int p2] G H0) (th_Q (fun (v : Option Value) (H1 : Heap) => v = none ∧ th_I G Γ H1 ∧ th_F G Γ [(12, 0), (12, 1), (12, 2), (12, 3), (12, 4), (12, 5), (12, 6)] H0 H1 ∧ th_RC G Γ H1 ∧ (th_bp G Γ H0 H1 12)) G) 4 57344 (fun q => G.2.2 ≤ q) := by
  refine th_met RX3 (by decide) rfl (Nat.le_of_ble_eq_true rfl) ?_
  intro p e s m below meth c hC hH hr hlocks hnm ls hl
  have hx := hC.1
  have hb := hC.2.1
  have hB : th_B G Γ Γ [(12, 0), (12, 1), (12, 2), (12, 3), (12, 4), (12, 5), (12, 6)] H0 H0 [] := ⟨hI, va_S.rf, th_F_rf⟩
  have hl : lv_has ls 4 [(0, .ref a0), (1, .long p1), (3, .int p2)] := hl
  have lp2 := ti_lo p2; have up2 := ti_hi p2
  obtain ⟨-, m0, m1, m2, m3, m4, ⟨d12, d13, d14, d23, d24, d34⟩, ⟨f1, k1⟩, ⟨f2, k2⟩, ⟨f3, k3⟩, ⟨f4, k4, r4⟩, u, mu, lu, uu⟩ := id hme
  have k1 : th_MA G Γ H0 b1 1 4096 (fun i => .long (f1 i)) := k1
  have k2 : th_MA G Γ H0 b2 0 4096 (fun i => .int (f2 i)) := k2
  have k3 : th_MA G Γ H0 b3 0 4096 (fun i => .int (f3 i)) := k3
  have k4 : th_MA G Γ H0 b4 0 2048 (fun i => .int (f4 i)) := k4
  have r4 : ∀ i, 0 ≤ (f4 i).toInt ∧ (f4 i).toInt < 4096 := r4
  have uu : u.toInt ≤ 2048 := uu
  have hR0 := hR
  refine lv_aload_n hx hb dX3_keep_0 rfl (lv_at hl 0 rfl) ?_
  refine th_getK hC cf_X3 hB.1 h0 ro_12 rfl (j := 5) (by decide) mu kf_X3_29 dX3_keep_1 ?_
  refine lv_aload_n hx hb dX3_keep_4 rfl (lv_at hl 0 rfl) ?_
  refine th_getK hC cf_X3 hB.1 h0 ro_12 rfl (j := 4) (by decide) m4 kf_X3_26 dX3_keep_5 ?_
  refine tm_alen hC k4 rfl (by decide) dX3_keep_8 (fun x1 ex1 => ?_)
  refine tr_icmp_lt (tgt := 25) hx hb dX3_keep_9 (by decide) (Eq.refl _) (Eq.refl _) (fun c9 => ?_) (fun c9 => ?_)
  · refine lv_aload_n hx hb dX3_keep_25 rfl (lv_at hl 0 rfl) ?_
    refine th_getK hC cf_X3 hB.1 h0 ro_12 rfl (j := 5) (by decide) mu kf_X3_29 dX3_keep_26 ?_
    refine lv_aload_n hx hb dX3_keep_29 rfl (lv_at hl 0 rfl) ?_
    refine th_getK hC cf_X3 hB.1 h0 ro_12 rfl (j := 4) (by decide) m4 kf_X3_26 dX3_keep_30 ?_
    refine tm_alen hC k4 rfl (by decide) dX3_keep_33 (fun x2 ex2 => ?_)
    refine tr_icmp_lt (tgt := 43) hx hb dX3_keep_34 (by decide) (Eq.refl _) (Eq.refl _) (fun c34 => ?_) (fun c34 => ?_)
    · refine lv_aload_n hx hb dX3_keep_43 rfl (lv_at hl 0 rfl) ?_
      refine lv_lload_n hx hb dX3_keep_44 rfl (lv_at hl 1 rfl) ?_
      refine lv_iload_n hx hb dX3_keep_45 rfl (lv_at hl 2 rfl) ?_
      refine lv_aload_n hx hb dX3_keep_46 rfl (lv_at hl 0 rfl) ?_
      refine th_getK hC cf_X3 hB.1 h0 ro_12 rfl (j := 5) (by decide) mu kf_X3_29 dX3_keep_47 ?_
      refine th_call (th_runV (As := [.long p1, .int p2, .int u]) (rest := []) hC mf_X3_put km_X3_53 im_X3_put se_X3_put (c_X3_put_12 l G Γ H0 hB.1 a0 h0 p1 p2 u (by omega) (by omega) b1 b2 b3 b4 (show th_ME G Γ H0 a0 12 b1 b2 b3 b4 from ⟨by decide, m0, m1, m2, m3, m4, ⟨d12, d13, d14, d23, d24, d34⟩, ⟨_, k1⟩, ⟨_, k2⟩, ⟨_, k3⟩, ⟨_, k4, r4⟩, _, mu, by omega, by omega⟩)) rfl rfl ⟨Nat.le_of_ble_eq_true rfl, Nat.le_of_ble_eq_true rfl⟩ hB.1 h0 ro_12 rfl rfl hl.1 rfl (Nat.le_of_ble_eq_true rfl) dX3_keep_50 ⟨Nat.le_of_ble_eq_true rfl, Nat.le_of_ble_eq_true rfl⟩) hB.2.1 (fun v50 H50 locs hp hz hS => ?_)
      obtain ⟨rfl, hI1, hf, z50_0, z50_1⟩ := hp
      have hB := th_B_c hB hI1 hS hf (by decide)
      have mm3 := (th_F_o hf h0 ro_12 (j := 0) (by decide) (by decide)).trans m0
      have mm4 := (th_F_o hf h0 ro_12 (j := 1) (by decide) (by decide)).trans m1
      have mm5 := (th_F_o hf h0 ro_12 (j := 2) (by decide) (by decide)).trans m2
      have mm6 := (th_F_o hf h0 ro_12 (j := 3) (by decide) (by decide)).trans m3
      have mm7 := (th_F_o hf h0 ro_12 (j := 4) (by decide) (by decide)).trans m4
      have mm8 := (th_F_o hf h0 ro_12 (j := 5) (by decide) (by decide)).trans mu
      obtain ⟨-, -, -, -, -, -, -, ⟨f1_2, k1_2⟩, ⟨f2_2, k2_2⟩, ⟨f3_2, k3_2⟩, ⟨f4_2, k4_2, r4_2⟩, -⟩ := id z50_0
      have k1_2 : th_MA G Γ H50 b1 1 4096 (fun i => .long (f1_2 i)) := k1_2
      have k2_2 : th_MA G Γ H50 b2 0 4096 (fun i => .int (f2_2 i)) := k2_2
      have k3_2 : th_MA G Γ H50 b3 0 4096 (fun i => .int (f3_2 i)) := k3_2
      have k4_2 : th_MA G Γ H50 b4 0 2048 (fun i => .int (f4_2 i)) := k4_2
      have r4_2 : ∀ i, 0 ≤ (f4_2 i).toInt ∧ (f4_2 i).toInt < 4096 := r4_2
      refine W.eq (g2 := F0 m 53 ls []) rfl ?_
      refine lv_aload_n hx hb dX3_keep_53 rfl (lv_at hl 0 rfl) ?_
      refine lv_dup hx hb dX3_keep_54 rfl ?_
      refine th_getK hC cf_X3 hB.1 h0 ro_12 rfl (j := 5) (by decide) mm8 kf_X3_29 dX3_keep_55 ?_
      refine lv_iconst (v := 1) hx hb dX3_keep_58 (by decide) ?_
      refine tr_iadd hx hb dX3_keep_59 (Eq.refl _) tk_1 (by omega) (by omega) (fun x9 ex9 => ?_)
      refine th_put hC cf_X3 hB h0 (Or.inl h0) ro_12 rfl (j := 5) rfl (th_sI (by omega) (by omega)) (by decide) rfl rfl rfl kf_X3_29 dX3_keep_60 (fun H60 locs hB hf hst60 => ?_)
      have mm10 := (th_F_o hf h0 ro_12 (j := 0) (by decide) (by decide)).trans mm3
      have mm11 := (th_F_o hf h0 ro_12 (j := 1) (by decide) (by decide)).trans mm4
      have mm12 := (th_F_o hf h0 ro_12 (j := 2) (by decide) (by decide)).trans mm5
      have mm13 := (th_F_o hf h0 ro_12 (j := 3) (by decide) (by decide)).trans mm6
      have mm14 := (th_F_o hf h0 ro_12 (j := 4) (by decide) (by decide)).trans mm7
      have ka15 := tm_MAt k1_2 (th_T_s h0 ro_12 hst60)
      have ka16 := tm_MAt k2_2 (th_T_s h0 ro_12 hst60)
      have ka17 := tm_MAt k3_2 (th_T_s h0 ro_12 hst60)
      have ka18 := tm_MAt k4_2 (th_T_s h0 ro_12 hst60)
      have mm19 := hst60.2.1
      refine W.count (fun hc1 hc2 => ?_)
      rw [hH] at hc1 hc2
      refine W.widen (k := 4) (n := 57344) (Nat.le_of_ble_eq_true rfl) (Nat.le_of_ble_eq_true rfl) ?_
      exact th_vret hC hH hr hlocks hB.2.1 ⟨rfl, hB.1, hB.2.2, th_RC_me hB.1 hR0 hB.2.2 (by decide) h0 ⟨_, _, _, _, _, (show th_ME G Γ H60 a0 12 b1 b2 b3 b4 from ⟨by decide, mm10, mm11, mm12, mm13, mm14, ⟨d12, d13, d14, d23, d24, d34⟩, ⟨_, ka15⟩, ⟨_, ka16⟩, ⟨_, ka17⟩, ⟨_, ka18, r4_2⟩, _, mm19, by omega, by omega⟩)⟩, ⟨12, th_bits_me h0 (show th_ME G Γ H60 a0 12 b1 b2 b3 b4 from ⟨by decide, mm10, mm11, mm12, mm13, mm14, ⟨d12, d13, d14, d23, d24, d34⟩, ⟨_, ka15⟩, ⟨_, ka16⟩, ⟨_, ka17⟩, ⟨_, ka18, r4_2⟩, _, mm19, by omega, by omega⟩), by decide, by decide, by have e0 : th_pc 12 = 4 := rfl; have d0 : th_pq 12 = 57344 := rfl; omega, by have e0 : th_pc 12 = 4 := rfl; have d0 : th_pq 12 = 57344 := rfl; omega⟩⟩ dX3_keep_63
    · exfalso; omega
  · refine lv_aload_n hx hb dX3_keep_12 rfl (lv_at hl 0 rfl) ?_
    refine th_getK hC cf_X3 hB.1 h0 ro_12 rfl (j := 0) (by decide) m0 kf_X3_11 dX3_keep_13 ?_
    refine lv_bipush (v := 14) hx hb dX3_keep_16 (by decide) ?_
    refine tr_icmp_ge (tgt := 25) hx hb dX3_keep_18 (by decide) tk_n12 tk_14 (fun c18 => ?_) (fun c18 => ?_)
    · exfalso; omega
    · refine lv_aload_n hx hb dX3_keep_21 rfl (lv_at hl 0 rfl) ?_
      refine th_call (th_runV (As := []) (rest := []) hC mf_X3_grow km_X3_50 im_X3_grow se_X3_grow (c_X3_grow_12 l G Γ H0 hB.1 hR a0 h0 b1 b2 b3 b4 (show th_ME G Γ H0 a0 12 b1 b2 b3 b4 from ⟨by decide, m0, m1, m2, m3, m4, ⟨d12, d13, d14, d23, d24, d34⟩, ⟨_, k1⟩, ⟨_, k2⟩, ⟨_, k3⟩, ⟨_, k4, r4⟩, _, mu, by omega, by omega⟩)) rfl rfl ⟨Nat.le_of_ble_eq_true rfl, Nat.le_of_ble_eq_true rfl⟩ hB.1 h0 ro_12 rfl rfl hl.1 rfl (Nat.le_of_ble_eq_true rfl) dX3_keep_22 ⟨Nat.le_of_ble_eq_true rfl, Nat.le_of_ble_eq_true rfl⟩) hB.2.1 (fun v22 H22 locs hp hz hS => ?_)
      obtain ⟨rfl, hI1, hf, hR, z22_0⟩ := hp
      have hB := th_B_c hB hI1 hS hf (by decide)
      obtain ⟨c1_22, c2_22, c3_22, c4_22, hz22⟩ := z22_0
      obtain ⟨-, m0_3, m1_3, m2_3, m3_3, m4_3, ⟨d12_3, d13_3, d14_3, d23_3, d24_3, d34_3⟩, ⟨f1_3, k1_3⟩, ⟨f2_3, k2_3⟩, ⟨f3_3, k3_3⟩, ⟨f4_3, k4_3, r4_3⟩, u_3, mu_3, lu_3, uu_3⟩ := id hz22
      have k1_3 : th_MA G Γ H22 c1_22 1 16384 (fun i => .long (f1_3 i)) := k1_3
      have k2_3 : th_MA G Γ H22 c2_22 0 16384 (fun i => .int (f2_3 i)) := k2_3
      have k3_3 : th_MA G Γ H22 c3_22 0 16384 (fun i => .int (f3_3 i)) := k3_3
      have k4_3 : th_MA G Γ H22 c4_22 0 8192 (fun i => .int (f4_3 i)) := k4_3
      have r4_3 : ∀ i, 0 ≤ (f4_3 i).toInt ∧ (f4_3 i).toInt < 16384 := r4_3
      have uu_3 : u_3.toInt ≤ 8192 := uu_3
      refine W.eq (g2 := F0 m 25 ls []) rfl ?_
      refine lv_aload_n hx hb dX3_keep_25 rfl (lv_at hl 0 rfl) ?_
      refine th_getK hC cf_X3 hB.1 h0 ro_12 rfl (j := 5) (by decide) mu_3 kf_X3_29 dX3_keep_26 ?_
      refine lv_aload_n hx hb dX3_keep_29 rfl (lv_at hl 0 rfl) ?_
      refine th_getK hC cf_X3 hB.1 h0 ro_12 rfl (j := 4) (by decide) m4_3 kf_X3_26 dX3_keep_30 ?_
      refine tm_alen hC k4_3 rfl (by decide) dX3_keep_33 (fun x20 ex20 => ?_)
      refine tr_icmp_lt (tgt := 43) hx hb dX3_keep_34 (by decide) (Eq.refl _) (Eq.refl _) (fun c34 => ?_) (fun c34 => ?_)
      · refine lv_aload_n hx hb dX3_keep_43 rfl (lv_at hl 0 rfl) ?_
        refine lv_lload_n hx hb dX3_keep_44 rfl (lv_at hl 1 rfl) ?_
        refine lv_iload_n hx hb dX3_keep_45 rfl (lv_at hl 2 rfl) ?_
        refine lv_aload_n hx hb dX3_keep_46 rfl (lv_at hl 0 rfl) ?_
        refine th_getK hC cf_X3 hB.1 h0 ro_12 rfl (j := 5) (by decide) mu_3 kf_X3_29 dX3_keep_47 ?_
        refine th_call (th_runV (As := [.long p1, .int p2, .int u_3]) (rest := []) hC mf_X3_put km_X3_53 im_X3_put se_X3_put (c_X3_put_14 l G Γ H22 hB.1 a0 h0 p1 p2 u_3 (by omega) (by omega) c1_22 c2_22 c3_22 c4_22 (show th_ME G Γ H22 a0 14 c1_22 c2_22 c3_22 c4_22 from ⟨by decide, m0_3, m1_3, m2_3, m3_3, m4_3, ⟨d12_3, d13_3, d14_3, d23_3, d24_3, d34_3⟩, ⟨_, k1_3⟩, ⟨_, k2_3⟩, ⟨_, k3_3⟩, ⟨_, k4_3, r4_3⟩, _, mu_3, by omega, by omega⟩)) rfl rfl ⟨Nat.le_of_ble_eq_true rfl, Nat.le_of_ble_eq_true rfl⟩ hB.1 h0 ro_12 rfl rfl hl.1 rfl (Nat.le_of_ble_eq_true rfl) dX3_keep_50 ⟨Nat.le_of_ble_eq_true rfl, Nat.le_of_ble_eq_true rfl⟩) hB.2.1 (fun v50 H50 locs hp hz hS => ?_)
        obtain ⟨rfl, hI1, hf, z50_0, z50_1⟩ := hp
        have hB := th_B_c hB hI1 hS hf (by decide)
        have mm21 := (th_F_o hf h0 ro_12 (j := 0) (by decide) (by decide)).trans m0_3
        have mm22 := (th_F_o hf h0 ro_12 (j := 1) (by decide) (by decide)).trans m1_3
        have mm23 := (th_F_o hf h0 ro_12 (j := 2) (by decide) (by decide)).trans m2_3
        have mm24 := (th_F_o hf h0 ro_12 (j := 3) (by decide) (by decide)).trans m3_3
        have mm25 := (th_F_o hf h0 ro_12 (j := 4) (by decide) (by decide)).trans m4_3
        have mm26 := (th_F_o hf h0 ro_12 (j := 5) (by decide) (by decide)).trans mu_3
        obtain ⟨-, -, -, -, -, -, -, ⟨f1_4, k1_4⟩, ⟨f2_4, k2_4⟩, ⟨f3_4, k3_4⟩, ⟨f4_4, k4_4, r4_4⟩, -⟩ := id z50_0
        have k1_4 : th_MA G Γ H50 c1_22 1 16384 (fun i => .long (f1_4 i)) := k1_4
        have k2_4 : th_MA G Γ H50 c2_22 0 16384 (fun i => .int (f2_4 i)) := k2_4
        have k3_4 : th_MA G Γ H50 c3_22 0 16384 (fun i => .int (f3_4 i)) := k3_4
        have k4_4 : th_MA G Γ H50 c4_22 0 8192 (fun i => .int (f4_4 i)) := k4_4
        have r4_4 : ∀ i, 0 ≤ (f4_4 i).toInt ∧ (f4_4 i).toInt < 16384 := r4_4
        refine W.eq (g2 := F0 m 53 ls []) rfl ?_
        refine lv_aload_n hx hb dX3_keep_53 rfl (lv_at hl 0 rfl) ?_
        refine lv_dup hx hb dX3_keep_54 rfl ?_
        refine th_getK hC cf_X3 hB.1 h0 ro_12 rfl (j := 5) (by decide) mm26 kf_X3_29 dX3_keep_55 ?_
        refine lv_iconst (v := 1) hx hb dX3_keep_58 (by decide) ?_
        refine tr_iadd hx hb dX3_keep_59 (Eq.refl _) tk_1 (by omega) (by omega) (fun x27 ex27 => ?_)
        refine th_put hC cf_X3 hB h0 (Or.inl h0) ro_12 rfl (j := 5) rfl (th_sI (by omega) (by omega)) (by decide) rfl rfl rfl kf_X3_29 dX3_keep_60 (fun H60 locs hB hf hst60 => ?_)
        have mm28 := (th_F_o hf h0 ro_12 (j := 0) (by decide) (by decide)).trans mm21
        have mm29 := (th_F_o hf h0 ro_12 (j := 1) (by decide) (by decide)).trans mm22
        have mm30 := (th_F_o hf h0 ro_12 (j := 2) (by decide) (by decide)).trans mm23
        have mm31 := (th_F_o hf h0 ro_12 (j := 3) (by decide) (by decide)).trans mm24
        have mm32 := (th_F_o hf h0 ro_12 (j := 4) (by decide) (by decide)).trans mm25
        have ka33 := tm_MAt k1_4 (th_T_s h0 ro_12 hst60)
        have ka34 := tm_MAt k2_4 (th_T_s h0 ro_12 hst60)
        have ka35 := tm_MAt k3_4 (th_T_s h0 ro_12 hst60)
        have ka36 := tm_MAt k4_4 (th_T_s h0 ro_12 hst60)
        have mm37 := hst60.2.1
        refine W.count (fun hc1 hc2 => ?_)
        rw [hH] at hc1 hc2
        exact th_vret hC hH hr hlocks hB.2.1 ⟨rfl, hB.1, hB.2.2, th_RC_me hB.1 hR0 hB.2.2 (by decide) h0 ⟨_, _, _, _, _, (show th_ME G Γ H60 a0 14 c1_22 c2_22 c3_22 c4_22 from ⟨by decide, mm28, mm29, mm30, mm31, mm32, ⟨d12_3, d13_3, d14_3, d23_3, d24_3, d34_3⟩, ⟨_, ka33⟩, ⟨_, ka34⟩, ⟨_, ka35⟩, ⟨_, ka36, r4_4⟩, _, mm37, by omega, by omega⟩)⟩, ⟨14, th_bits_me h0 (show th_ME G Γ H60 a0 14 c1_22 c2_22 c3_22 c4_22 from ⟨by decide, mm28, mm29, mm30, mm31, mm32, ⟨d12_3, d13_3, d14_3, d23_3, d24_3, d34_3⟩, ⟨_, ka33⟩, ⟨_, ka34⟩, ⟨_, ka35⟩, ⟨_, ka36, r4_4⟩, _, mm37, by omega, by omega⟩), by decide, by decide, by have e0 : th_pc 12 = 4 := rfl; have d0 : th_pq 12 = 57344 := rfl; have e1 : th_pc 14 = 0 := rfl; have d1 : th_pq 14 = 0 := rfl; omega, by have e0 : th_pc 12 = 4 := rfl; have d0 : th_pq 12 = 57344 := rfl; have e1 : th_pc 14 = 0 := rfl; have d1 : th_pq 14 = 0 := rfl; omega⟩⟩ dX3_keep_63
      · refine lv_aload_n hx hb dX3_keep_37 rfl (lv_at hl 0 rfl) ?_
        refine lv_iconst (v := 1) hx hb dX3_keep_38 (by decide) ?_
        refine th_put hC cf_X3 hB h0 (Or.inl h0) ro_12 rfl (j := 6) rfl (th_sI (by decide) (by decide)) (by decide) rfl narrow_b1 rfl kf_X3_32 dX3_keep_39 (fun H39 locs hB hf hst39 => ?_)
        have mm38 := (th_F_o hf h0 ro_12 (j := 0) (by decide) (by decide)).trans m0_3
        have mm39 := (th_F_o hf h0 ro_12 (j := 1) (by decide) (by decide)).trans m1_3
        have mm40 := (th_F_o hf h0 ro_12 (j := 2) (by decide) (by decide)).trans m2_3
        have mm41 := (th_F_o hf h0 ro_12 (j := 3) (by decide) (by decide)).trans m3_3
        have mm42 := (th_F_o hf h0 ro_12 (j := 4) (by decide) (by decide)).trans m4_3
        have mm43 := (th_F_o hf h0 ro_12 (j := 5) (by decide) (by decide)).trans mu_3
        have hR := th_RC_F hB.1 hR hf (th_T_s h0 ro_12 hst39) (by decide)
        have ka44 := tm_MAt k1_3 (th_T_s h0 ro_12 hst39)
        have ka45 := tm_MAt k2_3 (th_T_s h0 ro_12 hst39)
        have ka46 := tm_MAt k3_3 (th_T_s h0 ro_12 hst39)
        have ka47 := tm_MAt k4_3 (th_T_s h0 ro_12 hst39)
        have mm48 := hst39.2.1
        refine W.count (fun hc1 hc2 => ?_)
        rw [hH] at hc1 hc2
        exact th_vret hC hH hr hlocks hB.2.1 ⟨rfl, hB.1, hB.2.2, hR, ⟨14, th_bits_me h0 (show th_ME G Γ H39 a0 14 c1_22 c2_22 c3_22 c4_22 from ⟨by decide, mm38, mm39, mm40, mm41, mm42, ⟨d12_3, d13_3, d14_3, d23_3, d24_3, d34_3⟩, ⟨_, ka44⟩, ⟨_, ka45⟩, ⟨_, ka46⟩, ⟨_, ka47, r4_3⟩, _, mm43, by omega, by omega⟩), by decide, by decide, by have e0 : th_pc 12 = 4 := rfl; have d0 : th_pq 12 = 57344 := rfl; have e1 : th_pc 14 = 0 := rfl; have d1 : th_pq 14 = 0 := rfl; omega, by have e0 : th_pc 12 = 4 := rfl; have d0 : th_pq 12 = 57344 := rfl; have e1 : th_pc 14 = 0 := rfl; have d1 : th_pq 14 = 0 := rfl; omega⟩⟩ dX3_keep_42

set_option maxHeartbeats 4000000 in
set_option maxRecDepth 100000 in
theorem c_X3_keep_14 (l : Launch) (G : th_G) (Γ : th_Ga) (H0 : Heap) (hI : th_I G Γ H0) (hR : th_RC G Γ H0) (a0 : Nat) (h0 : Γ a0 = (12, 0)) (p1 : Int64) (p2 : Int32) (b1 b2 b3 b4 : Nat) (hme : th_ME G Γ H0 a0 14 b1 b2 b3 b4) : Met l yX3_keep (.code yX3_keep cX3_keep 4 (none) :: th_tb) ({ frames := 3, cells := 0, slots := 0, locals := 73 } : Room) (th_P [.ref a0, .long p1, .int p2] G H0) (th_Q (fun (v : Option Value) (H1 : Heap) => v = none ∧ th_I G Γ H1 ∧ th_F G Γ [(12, 0), (12, 1), (12, 2), (12, 3), (12, 4), (12, 5), (12, 6)] H0 H1 ∧ th_RC G Γ H1 ∧ (th_bp G Γ H0 H1 14)) G) 0 0 (fun q => G.2.2 ≤ q) := by
  refine th_met RX3 (by decide) rfl (Nat.le_of_ble_eq_true rfl) ?_
  intro p e s m below meth c hC hH hr hlocks hnm ls hl
  have hx := hC.1
  have hb := hC.2.1
  have hB : th_B G Γ Γ [(12, 0), (12, 1), (12, 2), (12, 3), (12, 4), (12, 5), (12, 6)] H0 H0 [] := ⟨hI, va_S.rf, th_F_rf⟩
  have hl : lv_has ls 4 [(0, .ref a0), (1, .long p1), (3, .int p2)] := hl
  have lp2 := ti_lo p2; have up2 := ti_hi p2
  obtain ⟨-, m0, m1, m2, m3, m4, ⟨d12, d13, d14, d23, d24, d34⟩, ⟨f1, k1⟩, ⟨f2, k2⟩, ⟨f3, k3⟩, ⟨f4, k4, r4⟩, u, mu, lu, uu⟩ := id hme
  have k1 : th_MA G Γ H0 b1 1 16384 (fun i => .long (f1 i)) := k1
  have k2 : th_MA G Γ H0 b2 0 16384 (fun i => .int (f2 i)) := k2
  have k3 : th_MA G Γ H0 b3 0 16384 (fun i => .int (f3 i)) := k3
  have k4 : th_MA G Γ H0 b4 0 8192 (fun i => .int (f4 i)) := k4
  have r4 : ∀ i, 0 ≤ (f4 i).toInt ∧ (f4 i).toInt < 16384 := r4
  have uu : u.toInt ≤ 8192 := uu
  have hR0 := hR
  refine lv_aload_n hx hb dX3_keep_0 rfl (lv_at hl 0 rfl) ?_
  refine th_getK hC cf_X3 hB.1 h0 ro_12 rfl (j := 5) (by decide) mu kf_X3_29 dX3_keep_1 ?_
  refine lv_aload_n hx hb dX3_keep_4 rfl (lv_at hl 0 rfl) ?_
  refine th_getK hC cf_X3 hB.1 h0 ro_12 rfl (j := 4) (by decide) m4 kf_X3_26 dX3_keep_5 ?_
  refine tm_alen hC k4 rfl (by decide) dX3_keep_8 (fun x1 ex1 => ?_)
  refine tr_icmp_lt (tgt := 25) hx hb dX3_keep_9 (by decide) (Eq.refl _) (Eq.refl _) (fun c9 => ?_) (fun c9 => ?_)
  · refine lv_aload_n hx hb dX3_keep_25 rfl (lv_at hl 0 rfl) ?_
    refine th_getK hC cf_X3 hB.1 h0 ro_12 rfl (j := 5) (by decide) mu kf_X3_29 dX3_keep_26 ?_
    refine lv_aload_n hx hb dX3_keep_29 rfl (lv_at hl 0 rfl) ?_
    refine th_getK hC cf_X3 hB.1 h0 ro_12 rfl (j := 4) (by decide) m4 kf_X3_26 dX3_keep_30 ?_
    refine tm_alen hC k4 rfl (by decide) dX3_keep_33 (fun x2 ex2 => ?_)
    refine tr_icmp_lt (tgt := 43) hx hb dX3_keep_34 (by decide) (Eq.refl _) (Eq.refl _) (fun c34 => ?_) (fun c34 => ?_)
    · refine lv_aload_n hx hb dX3_keep_43 rfl (lv_at hl 0 rfl) ?_
      refine lv_lload_n hx hb dX3_keep_44 rfl (lv_at hl 1 rfl) ?_
      refine lv_iload_n hx hb dX3_keep_45 rfl (lv_at hl 2 rfl) ?_
      refine lv_aload_n hx hb dX3_keep_46 rfl (lv_at hl 0 rfl) ?_
      refine th_getK hC cf_X3 hB.1 h0 ro_12 rfl (j := 5) (by decide) mu kf_X3_29 dX3_keep_47 ?_
      refine th_call (th_runV (As := [.long p1, .int p2, .int u]) (rest := []) hC mf_X3_put km_X3_53 im_X3_put se_X3_put (c_X3_put_14 l G Γ H0 hB.1 a0 h0 p1 p2 u (by omega) (by omega) b1 b2 b3 b4 (show th_ME G Γ H0 a0 14 b1 b2 b3 b4 from ⟨by decide, m0, m1, m2, m3, m4, ⟨d12, d13, d14, d23, d24, d34⟩, ⟨_, k1⟩, ⟨_, k2⟩, ⟨_, k3⟩, ⟨_, k4, r4⟩, _, mu, by omega, by omega⟩)) rfl rfl ⟨Nat.le_of_ble_eq_true rfl, Nat.le_of_ble_eq_true rfl⟩ hB.1 h0 ro_12 rfl rfl hl.1 rfl (Nat.le_of_ble_eq_true rfl) dX3_keep_50 ⟨Nat.le_of_ble_eq_true rfl, Nat.le_of_ble_eq_true rfl⟩) hB.2.1 (fun v50 H50 locs hp hz hS => ?_)
      obtain ⟨rfl, hI1, hf, z50_0, z50_1⟩ := hp
      have hB := th_B_c hB hI1 hS hf (by decide)
      have mm3 := (th_F_o hf h0 ro_12 (j := 0) (by decide) (by decide)).trans m0
      have mm4 := (th_F_o hf h0 ro_12 (j := 1) (by decide) (by decide)).trans m1
      have mm5 := (th_F_o hf h0 ro_12 (j := 2) (by decide) (by decide)).trans m2
      have mm6 := (th_F_o hf h0 ro_12 (j := 3) (by decide) (by decide)).trans m3
      have mm7 := (th_F_o hf h0 ro_12 (j := 4) (by decide) (by decide)).trans m4
      have mm8 := (th_F_o hf h0 ro_12 (j := 5) (by decide) (by decide)).trans mu
      obtain ⟨-, -, -, -, -, -, -, ⟨f1_2, k1_2⟩, ⟨f2_2, k2_2⟩, ⟨f3_2, k3_2⟩, ⟨f4_2, k4_2, r4_2⟩, -⟩ := id z50_0
      have k1_2 : th_MA G Γ H50 b1 1 16384 (fun i => .long (f1_2 i)) := k1_2
      have k2_2 : th_MA G Γ H50 b2 0 16384 (fun i => .int (f2_2 i)) := k2_2
      have k3_2 : th_MA G Γ H50 b3 0 16384 (fun i => .int (f3_2 i)) := k3_2
      have k4_2 : th_MA G Γ H50 b4 0 8192 (fun i => .int (f4_2 i)) := k4_2
      have r4_2 : ∀ i, 0 ≤ (f4_2 i).toInt ∧ (f4_2 i).toInt < 16384 := r4_2
      refine W.eq (g2 := F0 m 53 ls []) rfl ?_
      refine lv_aload_n hx hb dX3_keep_53 rfl (lv_at hl 0 rfl) ?_
      refine lv_dup hx hb dX3_keep_54 rfl ?_
      refine th_getK hC cf_X3 hB.1 h0 ro_12 rfl (j := 5) (by decide) mm8 kf_X3_29 dX3_keep_55 ?_
      refine lv_iconst (v := 1) hx hb dX3_keep_58 (by decide) ?_
      refine tr_iadd hx hb dX3_keep_59 (Eq.refl _) tk_1 (by omega) (by omega) (fun x9 ex9 => ?_)
      refine th_put hC cf_X3 hB h0 (Or.inl h0) ro_12 rfl (j := 5) rfl (th_sI (by omega) (by omega)) (by decide) rfl rfl rfl kf_X3_29 dX3_keep_60 (fun H60 locs hB hf hst60 => ?_)
      have mm10 := (th_F_o hf h0 ro_12 (j := 0) (by decide) (by decide)).trans mm3
      have mm11 := (th_F_o hf h0 ro_12 (j := 1) (by decide) (by decide)).trans mm4
      have mm12 := (th_F_o hf h0 ro_12 (j := 2) (by decide) (by decide)).trans mm5
      have mm13 := (th_F_o hf h0 ro_12 (j := 3) (by decide) (by decide)).trans mm6
      have mm14 := (th_F_o hf h0 ro_12 (j := 4) (by decide) (by decide)).trans mm7
      have ka15 := tm_MAt k1_2 (th_T_s h0 ro_12 hst60)
      have ka16 := tm_MAt k2_2 (th_T_s h0 ro_12 hst60)
      have ka17 := tm_MAt k3_2 (th_T_s h0 ro_12 hst60)
      have ka18 := tm_MAt k4_2 (th_T_s h0 ro_12 hst60)
      have mm19 := hst60.2.1
      refine W.count (fun hc1 hc2 => ?_)
      rw [hH] at hc1 hc2
      exact th_vret hC hH hr hlocks hB.2.1 ⟨rfl, hB.1, hB.2.2, th_RC_me hB.1 hR0 hB.2.2 (by decide) h0 ⟨_, _, _, _, _, (show th_ME G Γ H60 a0 14 b1 b2 b3 b4 from ⟨by decide, mm10, mm11, mm12, mm13, mm14, ⟨d12, d13, d14, d23, d24, d34⟩, ⟨_, ka15⟩, ⟨_, ka16⟩, ⟨_, ka17⟩, ⟨_, ka18, r4_2⟩, _, mm19, by omega, by omega⟩)⟩, ⟨14, th_bits_me h0 (show th_ME G Γ H60 a0 14 b1 b2 b3 b4 from ⟨by decide, mm10, mm11, mm12, mm13, mm14, ⟨d12, d13, d14, d23, d24, d34⟩, ⟨_, ka15⟩, ⟨_, ka16⟩, ⟨_, ka17⟩, ⟨_, ka18, r4_2⟩, _, mm19, by omega, by omega⟩), by decide, by decide, by have e0 : th_pc 14 = 0 := rfl; have d0 : th_pq 14 = 0 := rfl; omega, by have e0 : th_pc 14 = 0 := rfl; have d0 : th_pq 14 = 0 := rfl; omega⟩⟩ dX3_keep_63
    · exfalso; omega
  · refine lv_aload_n hx hb dX3_keep_12 rfl (lv_at hl 0 rfl) ?_
    refine th_getK hC cf_X3 hB.1 h0 ro_12 rfl (j := 0) (by decide) m0 kf_X3_11 dX3_keep_13 ?_
    refine lv_bipush (v := 14) hx hb dX3_keep_16 (by decide) ?_
    refine tr_icmp_ge (tgt := 25) hx hb dX3_keep_18 (by decide) tk_n14 tk_14 (fun c18 => ?_) (fun c18 => ?_)
    · refine lv_aload_n hx hb dX3_keep_25 rfl (lv_at hl 0 rfl) ?_
      refine th_getK hC cf_X3 hB.1 h0 ro_12 rfl (j := 5) (by decide) mu kf_X3_29 dX3_keep_26 ?_
      refine lv_aload_n hx hb dX3_keep_29 rfl (lv_at hl 0 rfl) ?_
      refine th_getK hC cf_X3 hB.1 h0 ro_12 rfl (j := 4) (by decide) m4 kf_X3_26 dX3_keep_30 ?_
      refine tm_alen hC k4 rfl (by decide) dX3_keep_33 (fun x20 ex20 => ?_)
      refine tr_icmp_lt (tgt := 43) hx hb dX3_keep_34 (by decide) (Eq.refl _) (Eq.refl _) (fun c34 => ?_) (fun c34 => ?_)
      · exfalso; omega
      · refine lv_aload_n hx hb dX3_keep_37 rfl (lv_at hl 0 rfl) ?_
        refine lv_iconst (v := 1) hx hb dX3_keep_38 (by decide) ?_
        refine th_put hC cf_X3 hB h0 (Or.inl h0) ro_12 rfl (j := 6) rfl (th_sI (by decide) (by decide)) (by decide) rfl narrow_b1 rfl kf_X3_32 dX3_keep_39 (fun H39 locs hB hf hst39 => ?_)
        have mm21 := (th_F_o hf h0 ro_12 (j := 0) (by decide) (by decide)).trans m0
        have mm22 := (th_F_o hf h0 ro_12 (j := 1) (by decide) (by decide)).trans m1
        have mm23 := (th_F_o hf h0 ro_12 (j := 2) (by decide) (by decide)).trans m2
        have mm24 := (th_F_o hf h0 ro_12 (j := 3) (by decide) (by decide)).trans m3
        have mm25 := (th_F_o hf h0 ro_12 (j := 4) (by decide) (by decide)).trans m4
        have mm26 := (th_F_o hf h0 ro_12 (j := 5) (by decide) (by decide)).trans mu
        have hR := th_RC_F hB.1 hR hf (th_T_s h0 ro_12 hst39) (by decide)
        have ka27 := tm_MAt k1 (th_T_s h0 ro_12 hst39)
        have ka28 := tm_MAt k2 (th_T_s h0 ro_12 hst39)
        have ka29 := tm_MAt k3 (th_T_s h0 ro_12 hst39)
        have ka30 := tm_MAt k4 (th_T_s h0 ro_12 hst39)
        have mm31 := hst39.2.1
        refine W.count (fun hc1 hc2 => ?_)
        rw [hH] at hc1 hc2
        exact th_vret hC hH hr hlocks hB.2.1 ⟨rfl, hB.1, hB.2.2, hR, ⟨14, th_bits_me h0 (show th_ME G Γ H39 a0 14 b1 b2 b3 b4 from ⟨by decide, mm21, mm22, mm23, mm24, mm25, ⟨d12, d13, d14, d23, d24, d34⟩, ⟨_, ka27⟩, ⟨_, ka28⟩, ⟨_, ka29⟩, ⟨_, ka30, r4⟩, _, mm26, by omega, by omega⟩), by decide, by decide, by have e0 : th_pc 14 = 0 := rfl; have d0 : th_pq 14 = 0 := rfl; omega, by have e0 : th_pc 14 = 0 := rfl; have d0 : th_pq 14 = 0 := rfl; omega⟩⟩ dX3_keep_42
    · exfalso; omega
